set_option maxRecDepth 100000
/-! ===== the call spoil ===== -/
def spC (a b c : Int32) : Nat := 444 + 8 * (48 * a.toInt.toNat + b.toInt.toNat) + c.toInt.toNat
abbrev spO1 (f : Nat → Int32) (a b c d : Int32) : Prop := 0 ≤ b.toInt ∧ 0 ≤ c.toInt ∧ (1 ≤ d.toInt ∧ d.toInt ≤ 26) ∧ (0 ≤ a.toInt ∧ a.toInt < (f 0).toInt) ∧ b.toInt < (f (72 + a.toInt.toNat)).toInt ∧ c.toInt < (f (252 + (48 * a.toInt.toNat + b.toInt.toNat))).toInt
abbrev spOK (f : Nat → Int32) (a b c d : Int32) : Prop := spO1 f a b c d ∧ ¬ f (spC a b c) = d
def spA1 (f : Nat → Int32) (a b c d : Int32) : Int32 := if spOK f a b c d then f (spC a b c) else -1
def spG (f : Nat → Int32) (a b c d : Int32) (g : Nat → Int32) : Prop := if spOK f a b c d then spF f a.toInt.toNat b.toInt.toNat c.toInt.toNat d g else g = f
theorem v_spoil (n : Nat) (σ : ms_T) (hC : rC (ms_E σ 40)) (a b c d : Int32) : pr (f_X12_spoil n σ a b c d) (fun res => res.1 = spA1 (ms_E σ 40) a b c d ∧ spG (ms_E σ 40) a b c d (ms_E res.2 40)) := by
  have h4 := hC.1
  have L48 := t_48
  have L8 := t_8
  have L1 := lt1
  have L26 : (26 : Int32).toInt = 26 := by decide
  have L252 : (252 : Int32).toInt = 252 := by decide
  have L444 : (444 : Int32).toInt = 444 := by decide
  have bad : ∀ v : Int32, ¬ v = 0 → ¬ spOK (ms_E σ 40) a b c d → pr (f_X12_spoil_J69 n σ a b c d v) (fun res => res.1 = spA1 (ms_E σ 40) a b c d ∧ spG (ms_E σ 40) a b c d (ms_E res.2 40)) := by
    intro v hv hn
    unfold f_X12_spoil_J69 spA1 spG
    rw [if_neg hn]
    refine v_is1 n σ v hv (pr_s ⟨rfl, ?_⟩)
    rw [if_neg hn]; rfl
  unfold f_X12_spoil f_X12_spoil_J20 f_X12_spoil_J64
  refine pr_lt (fun h0 => bad 1 (by decide) (fun q => by rw [lt0] at h0; have := q.1.1; omega)) (fun h0 => pr_lt (fun h1 => bad 1 (by decide) (fun q => by rw [lt0] at h1; have := q.1.2.1; omega)) (fun h1 => ?_))
  rw [lt0] at h0 h1
  refine pr_bo (v_isIn n d 1 26) (fun h2 => bad 1 (by decide) (fun q => h2 (by rw [L1, L26]; exact q.1.2.2.1))) (fun h2 => pr_bo (pr_w (s_isRecord hC a)) (fun h3 => bad 2 (by decide) (fun q => h3 q.1.2.2.2.1)) (fun h3 => ?_))
  rw [L1, L26] at h2
  refine pr_b (v_sizeOf n σ a.toInt.toNat (by omega) a (by omega)) (fun s hs => pr_le (fun h5 => bad 5 (by decide) (fun q => by rw [hs] at h5; have := q.1.2.2.2.2.1; omega)) (fun h5 => ?_))
  rw [hs] at h5
  have hsz := hC.2.2.2.2.1 a.toInt.toNat (by omega)
  have e48 : ((48 : Int32) * a).toInt = 48 * a.toInt := by rw [ii_mul (by rw [L48]; omega) (by rw [L48]; omega), L48]
  have e1 : ((252 : Int32) + (48 : Int32) * a).toInt = 252 + 48 * a.toInt := by rw [ii_add (by omega) (by omega), L252, e48]
  have e2 : ((252 : Int32) + (48 : Int32) * a + b).toInt = ((252 + (48 * a.toInt.toNat + b.toInt.toNat) : Nat) : Int) := by rw [ii_add (by omega) (by omega), e1]; omega
  rw [cl_n e2]
  have hle := hC.2.2.2.2.2.2.2.2 (48 * a.toInt.toNat + b.toInt.toNat) (by omega)
  refine pr_g (fun _ _ => pr_lt (fun h6 => ?_) (fun h6 => bad 5 (by decide) (fun q => by have := q.1.2.2.2.2.2; omega)))
  have o1 : spO1 (ms_E σ 40) a b c d := ⟨h0, h1, h2, h3, h5, h6⟩
  have e3 : ((48 : Int32) * a + b).toInt = 48 * a.toInt + b.toInt := by rw [ii_add (by omega) (by omega), e48]
  have e4 : ((8 : Int32) * ((48 : Int32) * a + b)).toInt = 8 * (48 * a.toInt + b.toInt) := by rw [ii_mul (by rw [L8]; omega) (by rw [L8]; omega), L8, e3]
  have e5 : ((444 : Int32) + (8 : Int32) * ((48 : Int32) * a + b)).toInt = 444 + 8 * (48 * a.toInt + b.toInt) := by rw [ii_add (by omega) (by omega), L444, e4]
  have e6 : ((444 : Int32) + (8 : Int32) * ((48 : Int32) * a + b) + c).toInt = ((spC a b c : Nat) : Int) := by unfold spC; rw [ii_add (by omega) (by omega), e5]; omega
  unfold f_X12_spoil_J69
  refine v_is0 n σ ?_
  have hE : ms_E (ms_sI (ms_sI σ 653 0) 652 0) = ms_E σ := rfl
  refine pr_l ?_
  rw [cl_n e6, c4]
  refine pr_g (fun _ _ => pr_l ?_)
  rw [hE]
  refine pr_i (fun e => ?_) (fun e => pr_g (fun _ _ => pr_l (pr_g (fun _ _ => pr_g (fun _ _ => pr_l (pr_s ?_))))))
  · have hno : ¬ spOK (ms_E σ 40) a b c d := fun q => q.2 e
    unfold f_X12_refuse spA1 spG
    rw [if_neg hno]
    refine pr_c (T := fun res => res.1 = -1 ∧ ms_E res.2 40 = ms_E σ 40) (pr_l (pr_s ⟨rfl, rfl⟩)) (fun y τ hy => pr_s ⟨hy.1, ?_⟩)
    rw [if_neg hno]; exact hy.2
  · have ok : spOK (ms_E σ 40) a b c d := ⟨o1, e⟩
    have hc : 444 ≤ spC a b c := by unfold spC; omega
    unfold spA1 spG
    rw [if_pos ok, if_pos ok]
    refine ⟨rfl, ?_, ?_, fun j j1 j2 => ?_⟩
    · rw [mE_sE, if_neg (by omega), mE_sE, if_pos ⟨rfl, rfl⟩]
    · rw [mE_sE, if_pos ⟨rfl, rfl⟩, mE_sE, if_neg (by omega)]; rfl
    · rw [mE_sE, if_neg (by omega), mE_sE, if_neg (fun q => j1 q.2)]; rfl
theorem k_wordAt2 (n : Nat) {α : hp_T} {w r s : Nat} (hS : SHW α w) (hr : r < 4) (hl : (hp_I α 152 (lpA w r)).toInt = (s : Int)) (hs : s ≤ 48) (a : Int32) (h0 : 0 ≤ a.toInt) : ws (f_X2_wordAt n α (lpA w r) a) (fun o => o = if a.toInt < (s : Int) then some (wdA w r a.toInt.toNat) else none) := by
  by_cases hc : a.toInt < (s : Int)
  · rw [if_pos hc]
    exact k_wordAt n hS hr hl hs a.toInt.toNat (by omega) a (by omega)
  · rw [if_neg hc]
    unfold f_X2_wordAt
    exact ws_lt (fun _ => ws_s rfl) (fun _ => ws_l (ws_le (fun _ => ws_s rfl) (fun e => by rw [hl] at e; omega)))
theorem k_spoil (n : Nat) (hn : 70000 ≤ n) (α : hp_T) (x : Nat) (f : Nat → Int32) (hC : rC f) (h : RWX α x f) (a b c d : Int32) : ws (f_X11_spoil n α x a b c d) (fun res => res.1 = spA1 f a b c d ∧ (∀ g, rC g → spG f a b c d g → RWX res.2 x g) ∧ wfs x α res.2) := by
  have b4 := hC.1
  have L26 : (26 : Int32).toInt = 26 := by decide
  have L1 := lt1
  obtain ⟨w, u, h1, h2, h3, h4, h5, h6, h7, h8⟩ := id h
  have bad : ∀ v : Int32, ¬ spOK f a b c d → ws (hq_c (f_X11_refuse n α x v) fun r β => some (r, β)) (fun res => res.1 = spA1 f a b c d ∧ (∀ g, rC g → spG f a b c d g → RWX res.2 x g) ∧ wfs x α res.2) := by
    intro v hno
    unfold spA1 spG
    rw [if_neg hno]
    refine ws_hc (k_refuse n α x v) (fun z γ hz => ws_s ⟨hz.1, fun g hCg hg => ?_, by rw [show γ = hp_sI α 600 x v from hz.2]; exact wfs_st v⟩)
    rw [if_neg hno] at hg
    have hγ : γ = hp_sI α 600 x v := hz.2
    rw [hγ, hg]
    exact RWX_st hC h v
  unfold f_X11_spoil f_X11_spoil_J21 f_X11_spoil_J81
  refine ws_lt (fun e => bad 1 (fun q => by have := q.1.2.2.1; omega)) (fun d1 => ws_lt (fun e => bad 1 (fun q => by have := q.1.2.2.1; omega)) (fun d2 => ws_lt (fun e => bad 1 (fun q => by rw [lt0] at e; have := q.1.1; omega)) (fun d3 => ws_le (fun d4 => ws_l ?_) (fun e => bad 1 (fun q => by rw [lt0] at e; have := q.1.2.1; omega)))))
  rw [lt0] at d3 d4
  rw [h1]
  refine ws_b (k_logAt n h4 hC a) (fun o ho => ?_)
  by_cases hr : 0 ≤ a.toInt ∧ a.toInt < (f 0).toInt
  · rw [if_pos hr] at ho
    subst ho
    have hsz := hC.2.2.2.2.1 a.toInt.toNat (by omega)
    have q152 := (h4.2.2.1 a.toInt.toNat (by omega)).1
    refine ws_hS (ws_b (k_wordAt2 n h4.1 (by omega) (s := (f (72 + a.toInt.toNat)).toInt.toNat) (by rw [q152]; omega) (by omega) b d3) (fun o ho => ?_))
    by_cases hb : b.toInt < (((f (72 + a.toInt.toNat)).toInt.toNat : Nat) : Int)
    · rw [if_pos hb] at ho
      subst ho
      obtain ⟨hW, -⟩ := (h4.2.2.1 a.toInt.toNat (by omega)).2 b.toInt.toNat (by omega)
      have hll := ltr_len f a.toInt.toNat b.toInt.toNat
      have hle := hC.2.2.2.2.2.2.2.2 (48 * a.toInt.toNat + b.toInt.toNat) (by omega)
      have h501 := hW.2.1
      rw [hll] at h501
      refine ws_hS (ws_l (ws_le (fun e => bad 5 (fun q => by rw [h501] at e; have := q.1.2.2.2.2.2; omega)) (fun e => ?_)))
      rw [h501] at e
      have hk : c.toInt.toNat < (ltr f a.toInt.toNat b.toInt.toNat).length := by rw [hll]; omega
      have hget : (ltr f a.toInt.toNat b.toInt.toNat)[c.toInt.toNat] = f (spC a b c) := by
        have := ltr_get f a.toInt.toNat b.toInt.toNat c.toInt.toNat (by omega)
        rw [List.getElem?_eq_getElem hk] at this
        exact Option.some.inj this
      refine ws_b (k_letterAt n hW c.toInt.toNat c (by omega) hk) (fun y hy => ?_)
      rw [hget] at hy
      subst hy
      refine ws_i (fun e2 => bad 5 (fun q => q.2 e2)) (fun e2 => ws_b (k_letterAt n hW c.toInt.toNat c (by omega) hk) (fun y hy => ws_l ?_))
      rw [hget] at hy
      have ok : spOK f a b c d := ⟨⟨d3, d4, ⟨by omega, by omega⟩, hr, by omega, by omega⟩, e2⟩
      refine ws_b (k_spoilLetter n hn α w f h4 hC a.toInt.toNat b.toInt.toNat c.toInt.toNat (by omega) (by omega) (by omega) b c d (by omega) (by omega) (by omega) (by omega)) (fun β hβ => ws_hc (k_answer n β x y) (fun z γ hz => ws_s ⟨?_, fun g hCg hg => ?_, by rw [show γ = hp_sI β 600 x 0 from hz.2]; exact wfs_w (by omega) hβ.2.1 0⟩))
      · unfold spA1
        rw [if_pos ok]
        exact hz.1.trans hy
      · unfold spG at hg
        rw [if_pos ok] at hg
        have hγ : γ = hp_sI β 600 x 0 := hz.2
        rw [hγ]
        exact RWX_st hCg (RWX_w h1 h2 h3 h6 h7 h8 (hβ.1 g hg) (by unfold rG; rw [hβ.2.2]; exact h5) hβ.2.1) 0
    · rw [if_neg hb] at ho
      subst ho
      exact ws_hN (bad 5 (fun q => hb (by have := q.1.2.2.2.2.1; omega)))
  · rw [if_neg hr] at ho
    subst ho
    exact ws_hN (bad 2 (fun q => hr q.1.2.2.2.1))
/-! ===== the call fork ===== -/
abbrev foOK (f : Nat → Int32) (a b : Int32) : Prop := 0 ≤ b.toInt ∧ (0 ≤ a.toInt ∧ a.toInt < (f 0).toInt) ∧ b.toInt ≤ (f (72 + a.toInt.toNat)).toInt ∧ (f 0).toInt < 4
def foA (f : Nat → Int32) (a b : Int32) : Int32 := if foOK f a b then f 0 else -1
def foG (f : Nat → Int32) (a b : Int32) (g : Nat → Int32) : Prop := if foOK f a b then foF f a.toInt.toNat (f 0).toInt.toNat b.toInt.toNat g else g = f
theorem v_fork (n : Nat) (σ : ms_T) (hC : rC (ms_E σ 40)) (a b : Int32) : pr (f_X12_fork n σ a b) (fun res => res.1 = foA (ms_E σ 40) a b ∧ foG (ms_E σ 40) a b (ms_E res.2 40)) := by
  have h4 := hC.1
  have bad : ∀ v : Int32, ¬ v = 0 → ¬ foOK (ms_E σ 40) a b → pr (f_X12_fork_J22 n σ a b v) (fun res => res.1 = foA (ms_E σ 40) a b ∧ foG (ms_E σ 40) a b (ms_E res.2 40)) := by
    intro v hv hn
    unfold f_X12_fork_J22 foA foG
    rw [if_neg hn]
    refine v_is1 n σ v hv (pr_s ⟨rfl, ?_⟩)
    rw [if_neg hn]; rfl
  unfold f_X12_fork
  refine pr_le (fun h0 => ?_) (fun h0 => bad 1 (by decide) (fun q => by rw [lt0] at h0; have := q.1; omega))
  rw [lt0] at h0
  refine pr_bo (pr_w (s_isRecord hC a)) (fun h2 => bad 2 (by decide) (fun q => h2 q.2.1)) (fun h2 => ?_)
  unfold f_X12_fork_J22
  refine v_is0 n σ ?_
  have hE : ms_E (ms_sI (ms_sI σ 653 0) 652 0) = ms_E σ := rfl
  refine pr_c (v_forks n (ms_sI (ms_sI σ 653 0) 652 0) (by rw [hE]; exact hC) a.toInt.toNat (by rw [hE]; omega) a b (by omega) h0) (fun y τ hy => pr_s ?_)
  rw [hE] at hy
  obtain ⟨y1, y2, y3⟩ := hy
  have hno : ∀ v, ¬ foOK (ms_E σ 40) a b → y = -1 → τ = ms_sI (ms_sI (ms_sI σ 653 0) 652 0) 652 v → (y, τ).1 = foA (ms_E σ 40) a b ∧ foG (ms_E σ 40) a b (ms_E (y, τ).2 40) := by
    intro v hn e1 e2
    unfold foA foG
    rw [if_neg hn, if_neg hn]
    refine ⟨e1, ?_⟩
    show ms_E τ 40 = _
    rw [e2]; rfl
  by_cases hs : b.toInt ≤ (ms_E σ 40 (72 + a.toInt.toNat)).toInt
  · by_cases h3 : (ms_E σ 40 0).toInt < 4
    · have ok : foOK (ms_E σ 40) a b := ⟨h0, h2, hs, h3⟩
      unfold foA foG
      rw [if_pos ok, if_pos ok]
      exact ⟨(y3 hs h3).1, (y3 hs h3).2.1⟩
    · have := y2 hs (by omega)
      exact hno 3 (fun q => h3 q.2.2.2) this.1 this.2
  · have := y1 (by omega)
    exact hno 5 (fun q => hs q.2.2.1) this.1 this.2
theorem k_fork (n : Nat) (hn : 70000 ≤ n) (α : hp_T) (x : Nat) (f : Nat → Int32) (hC : rC f) (h : RWX α x f) (a b : Int32) : ws (f_X11_fork n α x a b) (fun res => res.1 = foA f a b ∧ (∀ g, rC g → foG f a b g → RWX res.2 x g) ∧ wfs x α res.2) := by
  have b4 := hC.1
  have L4 := t_4
  obtain ⟨w, u, h1, h2, h3, h4, h5, h6, h7, h8⟩ := id h
  have bad : ∀ v : Int32, ¬ foOK f a b → ws (hq_c (f_X11_refuse n α x v) fun r β => some (r, β)) (fun res => res.1 = foA f a b ∧ (∀ g, rC g → foG f a b g → RWX res.2 x g) ∧ wfs x α res.2) := by
    intro v hno
    unfold foA foG
    rw [if_neg hno]
    refine ws_hc (k_refuse n α x v) (fun z γ hz => ws_s ⟨hz.1, fun g hCg hg => ?_, by rw [show γ = hp_sI α 600 x v from hz.2]; exact wfs_st v⟩)
    rw [if_neg hno] at hg
    have hγ : γ = hp_sI α 600 x v := hz.2
    rw [hγ, hg]
    exact RWX_st hC h v
  unfold f_X11_fork
  refine ws_le (fun h0 => ws_l ?_) (fun h0 => bad 1 (fun q => by rw [lt0] at h0; have := q.1; omega))
  rw [lt0] at h0
  rw [h1]
  refine ws_b (k_logAt n h4 hC a) (fun o ho => ?_)
  by_cases hr : 0 ≤ a.toInt ∧ a.toInt < (f 0).toInt
  · rw [if_pos hr] at ho
    subst ho
    refine ws_hS (ws_l (ws_l ?_))
    rw [h4.2.1.2.1]
    refine ws_lt (fun e => ws_l ?_) (fun e => bad 3 (fun q => by have := q.2.2.2; omega))
    rw [(h4.2.2.1 a.toInt.toNat (by omega)).1]
    refine ws_le (fun e2 => ws_l ?_) (fun e2 => bad 5 (fun q => by have := q.2.2.1; omega))
    have ok : foOK f a b := ⟨h0, hr, e2, by omega⟩
    refine ws_hc (k_forkLog n hn α w f h4 hC a.toInt.toNat b.toInt.toNat (by omega) (by omega) (by omega) b (by omega)) (fun y β hy => ws_hc (k_answer n β x y) (fun z γ hz => ws_s ⟨?_, fun g hCg hg => ?_, by rw [show γ = hp_sI β 600 x 0 from hz.2]; exact wfs_w (by omega) hy.2.2.2 0⟩))
    · unfold foA
      rw [if_pos ok]
      exact hz.1.trans hy.1
    · unfold foG at hg
      rw [if_pos ok] at hg
      have hγ : γ = hp_sI β 600 x 0 := hz.2
      rw [hγ]
      exact RWX_st hCg (RWX_w h1 h2 h3 h6 h7 h8 (hy.2.1 g hg) (by unfold rG; rw [hy.2.2.1]; exact h5) hy.2.2.2) 0
  · rw [if_neg hr] at ho
    subst ho
    exact ws_hN (bad 2 (fun q => hr q.2.1))
/-! ===== the call add ===== -/
abbrev adOK (f : Nat → Int32) (a : Int32) : Prop := (0 ≤ a.toInt ∧ a.toInt < (f 0).toInt) ∧ (f (72 + a.toInt.toNat)).toInt < 48
def adA (f : Nat → Int32) (a : Int32) : Int32 := if adOK f a then f (72 + a.toInt.toNat) else -1
def adG (f : Nat → Int32) (l : List Int32) (a : Int32) (g : Nat → Int32) : Prop := if adOK f a then adF f a.toInt.toNat (f (72 + a.toInt.toNat)).toInt.toNat l g else g = f
/-- the word typed: on both sides -/
def TYS (σ : ms_T) (l : List Int32) : Prop := l.length ≤ 8 ∧ (ms_I σ 664).toInt = (l.length : Int) ∧ ∀ k, k < l.length → some (ms_E σ 45 k) = l[k]?
def TYC (α : hp_T) (x : Nat) (l : List Int32) : Prop := ((hp_R α 606 x = x + 922 ∧ hp_R α 607 x = x + 924) ∨ (hp_R α 606 x = x + 924 ∧ hp_R α 607 x = x + 922)) ∧ hp_R α 500 (x + 922) = x + 923 ∧ hp_R α 500 (x + 924) = x + 925 ∧ WD α (hp_R α 606 x) l
theorem TYC_t {α : hp_T} {x : Nat} {l : List Int32} (h : TYC α x l) : ∃ ta, (ta = x + 922 ∨ ta = x + 924) ∧ hp_R α 606 x = ta ∧ hp_R α 500 ta = ta + 1 ∧ WD α ta l := by
  obtain ⟨h1 | h1, h2, h3, h4⟩ := h
  · rw [h1.1] at h4; exact ⟨x + 922, Or.inl rfl, h1.1, h2, h4⟩
  · rw [h1.1] at h4; exact ⟨x + 924, Or.inr rfl, h1.1, h3, h4⟩
theorem v_add (n : Nat) (σ : ms_T) (hC : rC (ms_E σ 40)) (l : List Int32) (hT : TYS σ l) (a : Int32) : pr (f_X12_add n σ a) (fun res => res.1 = adA (ms_E σ 40) a ∧ adG (ms_E σ 40) l a (ms_E res.2 40)) := by
  have h4 := hC.1
  unfold f_X12_add f_X12_add_J14 adA adG
  refine pr_bo (pr_w (s_isRecord hC a)) (fun h2 => v_is1 n σ 2 (by decide) (pr_s ⟨?_, ?_⟩)) (fun h2 => v_is0 n σ ?_)
  · rw [if_neg (fun q => h2 q.1)]
  · rw [if_neg (fun q => h2 q.1)]; rfl
  · have hsz := hC.2.2.2.2.1 a.toInt.toNat (by omega)
    refine pr_b (v_hand n (ms_sI (ms_sI σ 653 0) 652 0) l hT.1 hT.2.1 hT.2.2) (fun τ hτ => ?_)
    have e40 : ms_E τ 40 = ms_E σ 40 := funext (hτ.2.2 40 (by decide))
    refine pr_c (v_adds n τ (by rw [e40]; exact hC) a.toInt.toNat (ms_E σ 40 (72 + a.toInt.toNat)).toInt.toNat (by omega) (by omega) (by rw [e40]; omega) l hτ.1 a (by omega)) (fun y υ hy => pr_s ?_)
    rw [e40] at hy
    by_cases hs : (ms_E σ 40 (72 + a.toInt.toNat)).toInt < 48
    · rw [if_pos ⟨h2, hs⟩, if_pos ⟨h2, hs⟩]
      have h9 := hy.2.1 (by omega)
      exact ⟨Int32.toInt_inj.mp (by rw [h9.1]; omega), h9.2⟩
    · rw [if_neg (fun q => hs q.2), if_neg (fun q => hs q.2)]
      have h9 := hy.1 (by omega)
      exact ⟨h9.1, h9.2.1⟩
theorem k_add (n : Nat) (hn : 70000 ≤ n) (α : hp_T) (x : Nat) (f : Nat → Int32) (hC : rC f) (h : RWX α x f) (l : List Int32) (hT : TYC α x l) (a : Int32) : ws (f_X11_add n α x a) (fun res => res.1 = adA f a ∧ (∀ g, rC g → adG f l a g → RWX res.2 x g) ∧ wfs x α res.2) := by
  have b4 := hC.1
  have L48 := t_48
  obtain ⟨w, u, h1, h2, h3, h4, h5, h6, h7, h8⟩ := id h
  have bad : ∀ v : Int32, ¬ adOK f a → ws (hq_c (f_X11_refuse n α x v) fun r β => some (r, β)) (fun res => res.1 = adA f a ∧ (∀ g, rC g → adG f l a g → RWX res.2 x g) ∧ wfs x α res.2) := by
    intro v hno
    unfold adA adG
    rw [if_neg hno]
    refine ws_hc (k_refuse n α x v) (fun z γ hz => ws_s ⟨hz.1, fun g hCg hg => ?_, by rw [show γ = hp_sI α 600 x v from hz.2]; exact wfs_st v⟩)
    rw [if_neg hno] at hg
    have hγ : γ = hp_sI α 600 x v := hz.2
    rw [hγ, hg]
    exact RWX_st hC h v
  unfold f_X11_add
  refine ws_l ?_
  rw [h1]
  refine ws_b (k_logAt n h4 hC a) (fun o ho => ?_)
  by_cases hr : 0 ≤ a.toInt ∧ a.toInt < (f 0).toInt
  · rw [if_pos hr] at ho
    subst ho
    have hsz := hC.2.2.2.2.1 a.toInt.toNat (by omega)
    refine ws_hS (ws_l ?_)
    rw [(h4.2.2.1 a.toInt.toNat (by omega)).1]
    refine ws_lt (fun e => ws_l (ws_l ?_)) (fun e => bad 3 (fun q => by have := q.2; omega))
    have ok : adOK f a := ⟨hr, by omega⟩
    obtain ⟨ta, t1, t2, t3, t4⟩ := TYC_t hT
    rw [t2]
    refine ws_b (k_addWord n hn α w f h4 hC a.toInt.toNat (f (72 + a.toInt.toNat)).toInt.toNat (by omega) (by omega) (by omega) ta l t4 (by omega) (by rw [t3]; omega)) (fun β hβ => ws_l ?_)
    obtain ⟨c1, c2, c3, c4, c5, c6, c7, c8, c9⟩ := hβ
    rw [c7]
    have e1 : (f (72 + a.toInt.toNat) + 1 - 1 : Int32) = f (72 + a.toInt.toNat) := by
      refine Int32.toInt_inj.mp ?_
      have e1 : (f (72 + a.toInt.toNat) + 1).toInt = (f (72 + a.toInt.toNat)).toInt + 1 := by rw [ii_add (by rw [lt1]; omega) (by rw [lt1]; omega), lt1]
      rw [ii_sub (by rw [lt1]; omega) (by rw [lt1]; omega), e1, lt1]; omega
    rw [e1]
    refine ws_hc (k_answer n β x _) (fun z γ hz => ws_s ⟨?_, fun g hCg hg => ?_, by rw [show γ = hp_sI β 600 x 0 from hz.2]; exact wfs_w (by omega) ⟨c3, c4, c5, c6, c8, c9⟩ 0⟩)
    · unfold adA
      rw [if_pos ok]
      exact hz.1
    · unfold adG at hg
      rw [if_pos ok] at hg
      have hγ : γ = hp_sI β 600 x 0 := hz.2
      rw [hγ]
      exact RWX_st hCg (RWX_w h1 h2 h3 h6 h7 h8 (c1 g hg) (by unfold rG; rw [c2]; exact h5) ⟨c3, c4, c5, c6, c8, c9⟩) 0
  · rw [if_neg hr] at ho
    subst ho
    exact ws_hN (bad 2 (fun q => hr q.1))
/-! ===== the letters read last stay ===== -/
theorem pr_t {R : Type} {o : Option R} : pr o (fun _ => True) := fun _ _ => trivial
theorem mJ_sE {σ : ms_T} {κ j : Nat} {v : Int32} : ms_J (ms_sE σ κ j v) = ms_J σ := rfl
theorem mJ_sI {σ : ms_T} {φ : Nat} {v : Int32} : ms_J (ms_sI σ φ v) = ms_J σ := rfl
theorem j_asks (n : Nat) {j : Int64} {σ : ms_T} (h : ms_J σ = j) (a b : Int32) : pr (f_X12_asks n σ a b) (fun τ => ms_J τ = j) := by
  unfold f_X12_asks
  repeat' (first
      | exact pr_s (by (first | assumption | (simp only [mJ_sE, mJ_sI]; assumption)))
      | exact pr_0
      | with_reducible refine pr_l ?_
      | with_reducible refine pr_g (fun _ _ => ?_)
      | with_reducible refine pr_n (fun _ => ?_)
      | with_reducible refine pr_i (fun _ => ?_) (fun _ => ?_)
      | with_reducible refine pr_b (T := fun (_ : Int32) => True) pr_t (fun _ _ => ?_))
theorem j_growsIn (n : Nat) {j : Int64} : ∀ (d : Nat) (σ : ms_T) (h : ms_J σ = j) (a b c d1 : Int32), pr (f_X12_growsIn n d σ a b c d1) (fun τ => ms_J τ = j) := by
  intro d
  induction d with
  | zero => intros; exact pr_0
  | succ d ih =>
    intro σ h a b c d1
    unfold f_X12_growsIn
    repeat' (first
        | exact pr_s (by (first | assumption | (simp only [mJ_sE, mJ_sI]; assumption)))
        | exact pr_0
        | with_reducible refine pr_l ?_
        | with_reducible refine pr_g (fun _ _ => ?_)
        | with_reducible refine pr_n (fun _ => ?_)
        | with_reducible refine pr_i (fun _ => ?_) (fun _ => ?_)
        | with_reducible refine pr_b (T := fun (τ : ms_T) => ms_J τ = j) (j_asks n (by (first | assumption | (simp only [mJ_sE, mJ_sI]; assumption))) _ _) (fun _ _ => ?_)
        | with_reducible refine pr_b (T := fun (τ : ms_T) => ms_J τ = j) (ih _ (by (first | assumption | (simp only [mJ_sE, mJ_sI]; assumption))) _ _ _ _) (fun _ _ => ?_)
        | with_reducible refine pr_b (T := fun (_ : Int32) => True) pr_t (fun _ _ => ?_))
theorem j_growth (n : Nat) {j : Int64} {σ : ms_T} (h : ms_J σ = j) (a b : Int32) : pr (f_X12_growth n σ a b) (fun τ => ms_J τ = j) := by
  unfold f_X12_growth
  repeat' (first
      | exact pr_s (by (first | assumption | (simp only [mJ_sE, mJ_sI]; assumption)))
      | exact pr_0
      | with_reducible refine pr_l ?_
      | with_reducible refine pr_g (fun _ _ => ?_)
      | with_reducible refine pr_n (fun _ => ?_)
      | with_reducible refine pr_i (fun _ => ?_) (fun _ => ?_)
      | with_reducible refine pr_b (T := fun (τ : ms_T) => ms_J τ = j) (j_growsIn n 40 _ (by (first | assumption | (simp only [mJ_sE, mJ_sI]; assumption))) _ _ _ _) (fun _ _ => ?_)
      | with_reducible refine pr_b (T := fun (_ : Int32) => True) pr_t (fun _ _ => ?_))
theorem j_fetches_L2 (n : Nat) {j : Int64} : ∀ (d : Nat) (σ : ms_T) (h : ms_J σ = j) (a b : Int32), pr (f_X12_fetches_L2 n d σ a b) (fun τ => ms_J τ = j) := by
  intro d
  induction d with
  | zero => intros; exact pr_0
  | succ d ih =>
    intro σ h a b
    unfold f_X12_fetches_L2
    repeat' (first
        | exact pr_s (by (first | assumption | (simp only [mJ_sE, mJ_sI]; assumption)))
        | exact pr_0
        | with_reducible refine pr_l ?_
        | with_reducible refine pr_g (fun _ _ => ?_)
        | with_reducible refine pr_n (fun _ => ?_)
        | with_reducible refine pr_i (fun _ => ?_) (fun _ => ?_)
        | with_reducible exact ih _ (by (first | assumption | (simp only [mJ_sE, mJ_sI]; assumption))) _ _
        | with_reducible refine pr_b (T := fun (_ : Int32) => True) pr_t (fun _ _ => ?_))
theorem j_fetches (n : Nat) {j : Int64} {σ : ms_T} (h : ms_J σ = j) (a : Int32) : pr (f_X12_fetches n σ a) (fun τ => ms_J τ = j) := by
  unfold f_X12_fetches
  repeat' (first
      | exact pr_s (by (first | assumption | (simp only [mJ_sE, mJ_sI]; assumption)))
      | exact pr_0
      | with_reducible refine pr_l ?_
      | with_reducible refine pr_g (fun _ _ => ?_)
      | with_reducible refine pr_n (fun _ => ?_)
      | with_reducible refine pr_i (fun _ => ?_) (fun _ => ?_)
      | with_reducible exact j_fetches_L2 n n _ (by (first | assumption | (simp only [mJ_sE, mJ_sI]; assumption))) _ _
      | with_reducible refine pr_b (T := fun (_ : Int32) => True) pr_t (fun _ _ => ?_))
theorem j_peaksOf_L10 (n : Nat) {j : Int64} : ∀ (d : Nat) (σ : ms_T) (h : ms_J σ = j) (a b c : Int32), pr (f_X12_peaksOf_L10 n d σ a b c) (fun τ => ms_J τ = j) := by
  intro d
  induction d with
  | zero => intros; exact pr_0
  | succ d ih =>
    intro σ h a b c
    unfold f_X12_peaksOf_L10 f_X12_peaksOf_J35
    repeat' (first
        | exact pr_s (by (first | assumption | (simp only [mJ_sE, mJ_sI]; assumption)))
        | exact pr_0
        | with_reducible refine pr_l ?_
        | with_reducible refine pr_g (fun _ _ => ?_)
        | with_reducible refine pr_n (fun _ => ?_)
        | with_reducible refine pr_i (fun _ => ?_) (fun _ => ?_)
        | with_reducible refine pr_b (T := fun (τ : ms_T) => ms_J τ = j) (j_asks n (by (first | assumption | (simp only [mJ_sE, mJ_sI]; assumption))) _ _) (fun _ _ => ?_)
        | with_reducible exact ih _ (by (first | assumption | (simp only [mJ_sE, mJ_sI]; assumption))) _ _ _
        | with_reducible refine pr_b (T := fun (_ : Int32) => True) pr_t (fun _ _ => ?_))
theorem j_peaksOf (n : Nat) {j : Int64} {σ : ms_T} (h : ms_J σ = j) (a : Int32) : pr (f_X12_peaksOf n σ a) (fun τ => ms_J τ = j) := by
  unfold f_X12_peaksOf
  repeat' (first
      | exact pr_s (by (first | assumption | (simp only [mJ_sE, mJ_sI]; assumption)))
      | exact pr_0
      | with_reducible refine pr_l ?_
      | with_reducible refine pr_g (fun _ _ => ?_)
      | with_reducible refine pr_n (fun _ => ?_)
      | with_reducible refine pr_i (fun _ => ?_) (fun _ => ?_)
      | with_reducible exact j_peaksOf_L10 n n _ (by (first | assumption | (simp only [mJ_sE, mJ_sI]; assumption))) _ _ _
      | with_reducible refine pr_b (T := fun (_ : Int32) => True) pr_t (fun _ _ => ?_))
theorem j_foldsGrowth (n : Nat) {j : Int64} : ∀ (d : Nat) (σ : ms_T) (h : ms_J σ = j) (a b c d1 : Int32), pr (f_X12_foldsGrowth n d σ a b c d1) (fun τ => ms_J τ = j) := by
  intro d
  induction d with
  | zero => intros; exact pr_0
  | succ d ih =>
    intro σ h a b c d1
    unfold f_X12_foldsGrowth f_X12_foldsGrowth_J24 f_X12_foldsGrowth_J50 f_X12_foldsGrowth_J157
    repeat' (first
        | exact pr_s (by (first | assumption | (simp only [mJ_sE, mJ_sI]; assumption)))
        | exact pr_0
        | with_reducible refine pr_l ?_
        | with_reducible refine pr_g (fun _ _ => ?_)
        | with_reducible refine pr_n (fun _ => ?_)
        | with_reducible refine pr_i (fun _ => ?_) (fun _ => ?_)
        | with_reducible refine pr_b (T := fun (τ : ms_T) => ms_J τ = j) (ih _ (by (first | assumption | (simp only [mJ_sE, mJ_sI]; assumption))) _ _ _ _) (fun _ _ => ?_)
        | with_reducible refine pr_b (T := fun (_ : Int32) => True) pr_t (fun _ _ => ?_))
theorem j_whyGrown (n : Nat) {j : Int64} {σ : ms_T} (h : ms_J σ = j) (a b c d e : Int32) : pr (f_X12_whyGrown n σ a b c d e) (fun τ => ms_J τ.2 = j) := by
  unfold f_X12_whyGrown f_X12_whyGrown_J39
  repeat' (first
      | exact pr_s (by (first | assumption | (simp only [mJ_sE, mJ_sI]; assumption)))
      | exact pr_0
      | with_reducible refine pr_l ?_
      | with_reducible refine pr_g (fun _ _ => ?_)
      | with_reducible refine pr_n (fun _ => ?_)
      | with_reducible refine pr_i (fun _ => ?_) (fun _ => ?_)
      | with_reducible refine pr_b (T := fun (τ : ms_T) => ms_J τ = j) (j_growth n (by (first | assumption | (simp only [mJ_sE, mJ_sI]; assumption))) _ _) (fun _ _ => ?_)
      | with_reducible refine pr_b (T := fun (τ : ms_T) => ms_J τ = j) (j_foldsGrowth n 40 _ (by (first | assumption | (simp only [mJ_sE, mJ_sI]; assumption))) _ _ _ _) (fun _ _ => ?_)
      | with_reducible refine pr_b (T := fun (_ : Int32) => True) pr_t (fun _ _ => ?_))
theorem j_whyByRecord (n : Nat) {j : Int64} {σ : ms_T} (h : ms_J σ = j) (a b c d e : Int32) : pr (f_X12_whyByRecord n σ a b c d e) (fun τ => ms_J τ.2 = j) := by
  unfold f_X12_whyByRecord
  repeat' (first
      | exact pr_s (by (first | assumption | (simp only [mJ_sE, mJ_sI]; assumption)))
      | exact pr_0
      | with_reducible refine pr_l ?_
      | with_reducible refine pr_g (fun _ _ => ?_)
      | with_reducible refine pr_n (fun _ => ?_)
      | with_reducible refine pr_i (fun _ => ?_) (fun _ => ?_)
      | with_reducible refine pr_b (T := fun (τ : ms_T) => ms_J τ = j) (j_growth n (by (first | assumption | (simp only [mJ_sE, mJ_sI]; assumption))) _ _) (fun _ _ => ?_)
      | with_reducible refine pr_b (T := fun (τ : ms_T) => ms_J τ = j) (j_fetches n (by (first | assumption | (simp only [mJ_sE, mJ_sI]; assumption))) _) (fun _ _ => ?_)
      | with_reducible refine pr_c (T := fun (τ : Int32 × ms_T) => ms_J τ.2 = j) (j_whyGrown n (by (first | assumption | (simp only [mJ_sE, mJ_sI]; assumption))) _ _ _ _ _) (fun _ _ _ => ?_)
      | with_reducible refine pr_b (T := fun (_ : Int32) => True) pr_t (fun _ _ => ?_))
theorem j_refuse (n : Nat) {j : Int64} {σ : ms_T} (h : ms_J σ = j) (a : Int32) : pr (f_X12_refuse n σ a) (fun τ => ms_J τ.2 = j) := by
  unfold f_X12_refuse
  repeat' (first
      | exact pr_s (by (first | assumption | (simp only [mJ_sE, mJ_sI]; assumption)))
      | exact pr_0
      | with_reducible refine pr_l ?_
      | with_reducible refine pr_g (fun _ _ => ?_)
      | with_reducible refine pr_n (fun _ => ?_)
      | with_reducible refine pr_i (fun _ => ?_) (fun _ => ?_)
      | with_reducible refine pr_b (T := fun (_ : Int32) => True) pr_t (fun _ _ => ?_))
theorem j_trusts (n : Nat) {j : Int64} {σ : ms_T} (h : ms_J σ = j) (a b c : Int32) : pr (f_X12_trusts n σ a b c) (fun τ => ms_J τ = j) := by
  unfold f_X12_trusts
  repeat' (first
      | exact pr_s (by (first | assumption | (simp only [mJ_sE, mJ_sI]; assumption)))
      | exact pr_0
      | with_reducible refine pr_l ?_
      | with_reducible refine pr_g (fun _ _ => ?_)
      | with_reducible refine pr_n (fun _ => ?_)
      | with_reducible refine pr_i (fun _ => ?_) (fun _ => ?_)
      | with_reducible refine pr_b (T := fun (_ : Int32) => True) pr_t (fun _ _ => ?_))
theorem j_shows_J92 (n : Nat) {j : Int64} {σ : ms_T} (h : ms_J σ = j) (a b : Int32) : pr (f_X12_shows_J92 n σ a b) (fun τ => ms_J τ.2 = j) := by
  unfold f_X12_shows_J92 f_X12_shows_J117
  repeat' (first
      | exact pr_s (by (first | assumption | (simp only [mJ_sE, mJ_sI]; assumption)))
      | exact pr_0
      | with_reducible refine pr_l ?_
      | with_reducible refine pr_g (fun _ _ => ?_)
      | with_reducible refine pr_n (fun _ => ?_)
      | with_reducible refine pr_i (fun _ => ?_) (fun _ => ?_)
      | with_reducible refine pr_b (T := fun (_ : Int32) => True) pr_t (fun _ _ => ?_))
theorem j_shows_J71 (n : Nat) {j : Int64} {σ : ms_T} (h : ms_J σ = j) (a b c d e : Int32) : pr (f_X12_shows_J71 n σ a b c d e) (fun τ => ms_J τ.2 = j) := by
  unfold f_X12_shows_J71
  repeat' (first
      | exact pr_s (by (first | assumption | (simp only [mJ_sE, mJ_sI]; assumption)))
      | exact pr_0
      | with_reducible refine pr_l ?_
      | with_reducible refine pr_g (fun _ _ => ?_)
      | with_reducible refine pr_n (fun _ => ?_)
      | with_reducible refine pr_i (fun _ => ?_) (fun _ => ?_)
      | with_reducible refine pr_b (T := fun (τ : ms_T) => ms_J τ = j) (j_trusts n (by (first | assumption | (simp only [mJ_sE, mJ_sI]; assumption))) _ _ _) (fun _ _ => ?_)
      | with_reducible exact j_shows_J92 n (by (first | assumption | (simp only [mJ_sE, mJ_sI]; assumption))) _ _
      | with_reducible refine pr_b (T := fun (_ : Int32) => True) pr_t (fun _ _ => ?_))
theorem j_shows (n : Nat) {j : Int64} {σ : ms_T} (h : ms_J σ = j) (a b c : Int32) : pr (f_X12_shows n σ a b c) (fun τ => ms_J τ.2 = j) := by
  unfold f_X12_shows
  repeat' (first
      | exact pr_s (by (first | assumption | (simp only [mJ_sE, mJ_sI]; assumption)))
      | exact pr_0
      | with_reducible refine pr_l ?_
      | with_reducible refine pr_g (fun _ _ => ?_)
      | with_reducible refine pr_n (fun _ => ?_)
      | with_reducible refine pr_i (fun _ => ?_) (fun _ => ?_)
      | with_reducible refine pr_c (T := fun (τ : Int32 × ms_T) => ms_J τ.2 = j) (j_whyByRecord n (by (first | assumption | (simp only [mJ_sE, mJ_sI]; assumption))) _ _ _ _ _) (fun _ _ _ => ?_)
      | with_reducible exact j_shows_J71 n (by (first | assumption | (simp only [mJ_sE, mJ_sI]; assumption))) _ _ _ _ _
      | with_reducible refine pr_b (T := fun (_ : Int32) => True) pr_t (fun _ _ => ?_))
theorem j_freezes_L98 (n : Nat) {j : Int64} : ∀ (d : Nat) (σ : ms_T) (h : ms_J σ = j) (a b : Int32), pr (f_X12_freezes_L98 n d σ a b) (fun τ => ms_J τ.2 = j) := by
  intro d
  induction d with
  | zero => intros; exact pr_0
  | succ d ih =>
    intro σ h a b
    unfold f_X12_freezes_L98
    repeat' (first
        | exact pr_s (by (first | assumption | (simp only [mJ_sE, mJ_sI]; assumption)))
        | exact pr_0
        | with_reducible refine pr_l ?_
        | with_reducible refine pr_g (fun _ _ => ?_)
        | with_reducible refine pr_n (fun _ => ?_)
        | with_reducible refine pr_i (fun _ => ?_) (fun _ => ?_)
        | with_reducible exact ih _ (by (first | assumption | (simp only [mJ_sE, mJ_sI]; assumption))) _ _
        | with_reducible refine pr_b (T := fun (_ : Int32) => True) pr_t (fun _ _ => ?_))
theorem j_freezes (n : Nat) {j : Int64} {σ : ms_T} (h : ms_J σ = j) (a : Int32) : pr (f_X12_freezes n σ a) (fun τ => ms_J τ.2 = j) := by
  unfold f_X12_freezes
  repeat' (first
      | exact pr_s (by (first | assumption | (simp only [mJ_sE, mJ_sI]; assumption)))
      | exact pr_0
      | with_reducible refine pr_l ?_
      | with_reducible refine pr_g (fun _ _ => ?_)
      | with_reducible refine pr_n (fun _ => ?_)
      | with_reducible refine pr_i (fun _ => ?_) (fun _ => ?_)
      | with_reducible refine pr_c (T := fun (τ : Int32 × ms_T) => ms_J τ.2 = j) (j_refuse n (by (first | assumption | (simp only [mJ_sE, mJ_sI]; assumption))) _) (fun _ _ _ => ?_)
      | with_reducible refine pr_b (T := fun (τ : ms_T) => ms_J τ = j) (j_peaksOf n (by (first | assumption | (simp only [mJ_sE, mJ_sI]; assumption))) _) (fun _ _ => ?_)
      | with_reducible refine pr_b (T := fun (τ : ms_T) => ms_J τ = j) (j_fetches n (by (first | assumption | (simp only [mJ_sE, mJ_sI]; assumption))) _) (fun _ _ => ?_)
      | with_reducible exact j_freezes_L98 n n _ (by (first | assumption | (simp only [mJ_sE, mJ_sI]; assumption))) _ _
      | with_reducible refine pr_b (T := fun (_ : Int32) => True) pr_t (fun _ _ => ?_))
theorem j_adds_L43 (n : Nat) {j : Int64} : ∀ (d : Nat) (σ : ms_T) (h : ms_J σ = j) (a b c : Int32), pr (f_X12_adds_L43 n d σ a b c) (fun τ => ms_J τ.2 = j) := by
  intro d
  induction d with
  | zero => intros; exact pr_0
  | succ d ih =>
    intro σ h a b c
    unfold f_X12_adds_L43
    repeat' (first
        | exact pr_s (by (first | assumption | (simp only [mJ_sE, mJ_sI]; assumption)))
        | exact pr_0
        | with_reducible refine pr_l ?_
        | with_reducible refine pr_g (fun _ _ => ?_)
        | with_reducible refine pr_n (fun _ => ?_)
        | with_reducible refine pr_i (fun _ => ?_) (fun _ => ?_)
        | with_reducible exact ih _ (by (first | assumption | (simp only [mJ_sE, mJ_sI]; assumption))) _ _ _
        | with_reducible refine pr_b (T := fun (_ : Int32) => True) pr_t (fun _ _ => ?_))
theorem j_adds (n : Nat) {j : Int64} {σ : ms_T} (h : ms_J σ = j) (a : Int32) : pr (f_X12_adds n σ a) (fun τ => ms_J τ.2 = j) := by
  unfold f_X12_adds
  repeat' (first
      | exact pr_s (by (first | assumption | (simp only [mJ_sE, mJ_sI]; assumption)))
      | exact pr_0
      | with_reducible refine pr_l ?_
      | with_reducible refine pr_g (fun _ _ => ?_)
      | with_reducible refine pr_n (fun _ => ?_)
      | with_reducible refine pr_i (fun _ => ?_) (fun _ => ?_)
      | with_reducible refine pr_c (T := fun (τ : Int32 × ms_T) => ms_J τ.2 = j) (j_refuse n (by (first | assumption | (simp only [mJ_sE, mJ_sI]; assumption))) _) (fun _ _ _ => ?_)
      | with_reducible exact j_adds_L43 n n _ (by (first | assumption | (simp only [mJ_sE, mJ_sI]; assumption))) _ _ _
      | with_reducible refine pr_b (T := fun (_ : Int32) => True) pr_t (fun _ _ => ?_))
theorem j_forks_L82 (n : Nat) {j : Int64} (rec : ms_T → Int32 → Int32 → Int32 → Int32 → Option (Int32 × ms_T)) (hr : ∀ τ, ms_J τ = j → ∀ a b c d, pr (rec τ a b c d) (fun τ => ms_J τ.2 = j)) : ∀ (d : Nat) (σ : ms_T) (h : ms_J σ = j) (a b c d1 e : Int32), pr (f_X12_forks_L82 n rec d σ a b c d1 e) (fun τ => ms_J τ.2 = j) := by
  intro d
  induction d with
  | zero => intros; exact pr_0
  | succ d ih =>
    intro σ h a b c d1 e
    unfold f_X12_forks_L82
    repeat' (first
        | exact pr_s (by (first | assumption | (simp only [mJ_sE, mJ_sI]; assumption)))
        | exact pr_0
        | with_reducible refine pr_l ?_
        | with_reducible refine pr_g (fun _ _ => ?_)
        | with_reducible refine pr_n (fun _ => ?_)
        | with_reducible refine pr_i (fun _ => ?_) (fun _ => ?_)
        | with_reducible exact ih _ (by (first | assumption | (simp only [mJ_sE, mJ_sI]; assumption))) _ _ _ _ _
        | with_reducible exact hr _ (by (first | assumption | (simp only [mJ_sE, mJ_sI]; assumption))) _ _ _ _
        | with_reducible refine pr_b (T := fun (_ : Int32) => True) pr_t (fun _ _ => ?_))
theorem j_forks_L41 (n : Nat) {j : Int64} : ∀ (d : Nat) (σ : ms_T) (h : ms_J σ = j) (a b c d1 : Int32), pr (f_X12_forks_L41 n d σ a b c d1) (fun τ => ms_J τ.2 = j) := by
  intro d
  induction d with
  | zero => intros; exact pr_0
  | succ d ih =>
    intro σ h a b c d1
    unfold f_X12_forks_L41
    repeat' (first
        | exact pr_s (by (first | assumption | (simp only [mJ_sE, mJ_sI]; assumption)))
        | exact pr_0
        | with_reducible refine pr_l ?_
        | with_reducible refine pr_g (fun _ _ => ?_)
        | with_reducible refine pr_n (fun _ => ?_)
        | with_reducible refine pr_i (fun _ => ?_) (fun _ => ?_)
        | with_reducible exact j_forks_L82 n _ (fun τ hτ a b c d => ih τ hτ a b c d) n _ (by (first | assumption | (simp only [mJ_sE, mJ_sI]; assumption))) _ _ _ _ _
        | with_reducible refine pr_b (T := fun (_ : Int32) => True) pr_t (fun _ _ => ?_))
theorem j_forks (n : Nat) {j : Int64} {σ : ms_T} (h : ms_J σ = j) (a b : Int32) : pr (f_X12_forks n σ a b) (fun τ => ms_J τ.2 = j) := by
  unfold f_X12_forks
  repeat' (first
      | exact pr_s (by (first | assumption | (simp only [mJ_sE, mJ_sI]; assumption)))
      | exact pr_0
      | with_reducible refine pr_l ?_
      | with_reducible refine pr_g (fun _ _ => ?_)
      | with_reducible refine pr_n (fun _ => ?_)
      | with_reducible refine pr_i (fun _ => ?_) (fun _ => ?_)
      | with_reducible refine pr_c (T := fun (τ : Int32 × ms_T) => ms_J τ.2 = j) (j_refuse n (by (first | assumption | (simp only [mJ_sE, mJ_sI]; assumption))) _) (fun _ _ _ => ?_)
      | with_reducible exact j_forks_L41 n n _ (by (first | assumption | (simp only [mJ_sE, mJ_sI]; assumption))) _ _ _ _
      | with_reducible refine pr_b (T := fun (_ : Int32) => True) pr_t (fun _ _ => ?_))
