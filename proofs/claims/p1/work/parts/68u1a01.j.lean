section JN9_0
set_option maxRecDepth 100000
abbrev enOK (f : Nat → Int32) (a b c : Int32) : Prop := 0 ≤ b.toInt ∧ 0 ≤ c.toInt ∧ (0 ≤ a.toInt ∧ a.toInt < (f 0).toInt) ∧ b.toInt < (f (72 + a.toInt.toNat)).toInt
def enA (f : Nat → Int32) (a b c : Int32) : Int32 := if enOK f a b c then (if c.toInt = 0 then f (252 + (48 * a.toInt.toNat + b.toInt.toNat)) else if c.toInt = 1 then EM f a.toInt.toNat b.toInt.toNat else if c.toInt - 2 < (f (252 + (48 * a.toInt.toNat + b.toInt.toNat))).toInt then f (444 + 8 * (48 * a.toInt.toNat + b.toInt.toNat) + (c.toInt - 2).toNat) else -1) else -1
theorem v_entry (n : Nat) (σ : ms_T) (hC : rC (ms_E σ 40)) (a b c : Int32) : pr (f_X12_entry n σ a b c) (fun res => res.1 = enA (ms_E σ 40) a b c) := by
  have h4 := hC.1
  have t2 := t_2
  have t48 := t_48
  have t252 := t_252
  have t444 := t_444
  have t8 := t_8
  have bad : ∀ v : Int32, ¬ v = 0 → ¬ enOK (ms_E σ 40) a b c → pr (f_X12_entry_J39 n σ a b c v) (fun res => res.1 = enA (ms_E σ 40) a b c) := fun v hv hno => by
    unfold f_X12_entry_J39 enA
    refine v_is1 n σ v hv (pr_s ?_)
    rw [if_neg hno]
  unfold f_X12_entry f_X12_entry_J9
  refine pr_lt (fun e => bad 1 (by decide) (fun q => by rw [lt0] at e; have := q.1; omega)) (fun e0 => pr_le (fun e1 => pr_bo (pr_w (s_isRecord hC a)) (fun h0 => bad 2 (by decide) (fun q => h0 q.2.2.1)) (fun h1 => ?_)) (fun e => bad 1 (by decide) (fun q => by rw [lt0] at e; have := q.2.1; omega)))
  rw [lt0] at e0 e1
  have hsz := hC.2.2.2.2.1 a.toInt.toNat (by omega)
  unfold f_X12_sizeOf
  refine pr_b (T := fun v => v = ms_E σ 40 (72 + a.toInt.toNat)) (pr_g (fun g0 g1 => pr_s ?_)) (fun v hv => ?_)
  · rw [cl_n (i := (72 : Int32) + a) (k := 72 + a.toInt.toNat) (by rw [iw_add, t_72]; omega)]
  · rw [hv]
    refine pr_lt (fun e2 => ?_) (fun e2 => bad 5 (by decide) (fun q => by have := q.2.2.2; omega))
    have ok : enOK (ms_E σ 40) a b c := ⟨e0, e1, h1, e2⟩
    have hq := hC.2.2.2.2.2.2.2.2 (48 * a.toInt.toNat + b.toInt.toNat) (by omega)
    unfold f_X12_entry_J39 enA
    rw [if_pos ok]
    refine v_is0 n σ (pr_ln (fun xx hxx => ?_))
    have hx : xx.toInt = ((48 * a.toInt.toNat + b.toInt.toNat : Nat) : Int) := by rw [hxx, iw_add, iw_mul, t48]; omega
    have e252 : ((252 : Int32) + xx).toNatClampNeg = 252 + (48 * a.toInt.toNat + b.toInt.toNat) := cl_n (by rw [iw_add, t252, hx]; omega)
    refine pr_le (fun c2 => pr_g (fun _ _ => ?_)) (fun c2 => pr_i (fun c0 => pr_g (fun _ _ => pr_s ?_)) (fun c0 => ?_))
    · rw [t2] at c2
      rw [e252, if_neg (show ¬ c.toInt = 0 by omega), if_neg (show ¬ c.toInt = 1 by omega)]
      have ec : (c - 2).toInt = c.toInt - 2 := by rw [iw_sub, t2]; have := ib_hi c; omega
      show pr (if ms_E σ 40 (252 + (48 * a.toInt.toNat + b.toInt.toNat)) ≤ c - 2 then _ else _) _
      refine pr_le (fun d => ?_) (fun d => ?_)
      · rw [ec] at d
        rw [if_neg (show ¬ c.toInt - 2 < (ms_E σ 40 (252 + (48 * a.toInt.toNat + b.toInt.toNat))).toInt by omega)]
        exact pr_c (v_refuse n _ 5) (fun r τ h => pr_s h)
      · rw [ec] at d
        rw [if_pos d]
        refine pr_g (fun _ _ => pr_s ?_)
        obtain ⟨K, hK⟩ : ∃ K, K = 48 * a.toInt.toNat + b.toInt.toNat := ⟨_, rfl⟩
        rw [← hK] at hx d hq ⊢
        have hK192 : K < 192 := by omega
        have s1 : ((8 : Int32) * xx).toInt = 8 * (K : Int) := by rw [iw_mul, t8, hx]; omega
        have s2 : ((444 : Int32) + 8 * xx).toInt = 444 + 8 * (K : Int) := by rw [iw_add, t444, s1]; omega
        have s3 : ((444 : Int32) + 8 * xx + c).toInt = 444 + 8 * (K : Int) + c.toInt := by rw [iw_add, s2]; omega
        have s4 : ((444 : Int32) + 8 * xx + c - 2).toInt = ((444 + 8 * K + (c.toInt - 2).toNat : Nat) : Int) := by rw [iw_sub, s3, t2]; omega
        rw [cl_n s4]
        rfl
    · have : c.toInt = 0 := by rw [c0]; rfl
      rw [if_pos this, e252]; rfl
    · rw [t2] at c2
      have n0 : ¬ c.toInt = 0 := fun q => c0 (Int32.toInt_inj.mp (by rw [q]; rfl))
      rw [if_neg n0, if_pos (show c.toInt = 1 by omega)]
      refine pr_b (v_entryMark n _ a.toInt.toNat b.toInt.toNat (by omega) (by omega) a b (by omega) (by omega) hq.1 hq.2) (fun v hv => pr_s hv)
theorem k_entry (n : Nat) (hn : 70000 ≤ n) (α : hp_T) (x : Nat) (f : Nat → Int32) (hC : rC f) (h : RWX α x f) (a b c : Int32) : ws (f_X11_entry n α x a b c) (fun res => res.1 = enA f a b c) := by
  have t2 := t_2
  have t1 := lt1
  have b4 := hC.1
  obtain ⟨w, u, h1, h2, h3, h4, -⟩ := h
  have bad : ∀ v : Int32, ¬ enOK f a b c → ws (hq_c (f_X11_refuse n α x v) fun r β => some (r, β)) (fun res => res.1 = enA f a b c) := fun v hno => by
    unfold enA
    rw [if_neg hno]
    exact ws_hc (k_refuse n α x v) (fun z γ hz => ws_s hz.1)
  unfold f_X11_entry f_X11_entry_J8
  refine ws_lt (fun e => bad 1 (fun q => by rw [lt0] at e; have := q.1; omega)) (fun e0 => ws_le (fun e1 => ws_l ?_) (fun e => bad 1 (fun q => by rw [lt0] at e; have := q.2.1; omega)))
  rw [lt0] at e0 e1
  rw [h1]
  refine ws_b (k_logAt n h4 hC a) (fun o ho => ?_)
  by_cases hr : 0 ≤ a.toInt ∧ a.toInt < (f 0).toInt
  · rw [if_pos hr] at ho
    subst ho
    have hsz := hC.2.2.2.2.1 a.toInt.toNat (by omega)
    have q152 := (h4.2.2.1 a.toInt.toNat (by omega)).1
    refine ws_hS (ws_b (k_wordAt2 n h4.1 (by omega) (s := (f (72 + a.toInt.toNat)).toInt.toNat) (by rw [q152]; omega) (by omega) b e0) (fun o ho => ?_))
    by_cases hb : b.toInt < (((f (72 + a.toInt.toNat)).toInt.toNat : Nat) : Int)
    · rw [if_pos hb] at ho
      subst ho
      have ok : enOK f a b c := ⟨e0, e1, hr, by omega⟩
      obtain ⟨hW, hmk⟩ := (h4.2.2.1 a.toInt.toNat (by omega)).2 b.toInt.toNat (by omega)
      have hll := ltr_len f a.toInt.toNat b.toInt.toNat
      have hle := hC.2.2.2.2.2.2.2.2 (48 * a.toInt.toNat + b.toInt.toNat) (by omega)
      have h501 := hW.2.1
      rw [hll] at h501
      have i501 : hp_I α 501 (wdA w a.toInt.toNat b.toInt.toNat) = f (252 + (48 * a.toInt.toNat + b.toInt.toNat)) := Int32.toInt_inj.mp (by rw [h501]; omega)
      have fin : ∀ v : Int32, v = enA f a b c → ws (hq_c (f_X11_answer n α x v) fun r β => some (r, β)) (fun res => res.1 = enA f a b c) := fun v hv => ws_hc (k_answer n α x v) (fun z γ hz => ws_s (hz.1.trans hv))
      have eA : enA f a b c = (if c.toInt = 0 then f (252 + (48 * a.toInt.toNat + b.toInt.toNat)) else if c.toInt = 1 then EM f a.toInt.toNat b.toInt.toNat else if c.toInt - 2 < (f (252 + (48 * a.toInt.toNat + b.toInt.toNat))).toInt then f (444 + 8 * (48 * a.toInt.toNat + b.toInt.toNat) + (c.toInt - 2).toNat) else -1) := by unfold enA; rw [if_pos ok]
      refine ws_hS (ws_i (fun c0 => ws_l (fin _ ?_)) (fun c0 => ws_i (fun c1 => ?_) (fun c1 => ws_l ?_)))
      · rw [i501, eA, if_pos (by rw [c0]; rfl)]
      · refine ws_b (k_markAt n (WR_LM h4 hC (by omega)) b.toInt.toNat b (by omega) (by rw [EL_len]; omega)) (fun v hv => fin v ?_)
        have hg := EL_get f a.toInt.toNat b.toInt.toNat (by omega)
        rw [List.getElem?_eq_getElem (by rw [EL_len]; omega)] at hg
        rw [hv, eA, if_neg (show ¬ c.toInt = 0 by rw [c1]; decide), if_pos (show c.toInt = 1 by rw [c1]; rfl)]
        exact Option.some.inj hg
      · have n0 : ¬ c.toInt = 0 := fun q => c0 (Int32.toInt_inj.mp (by rw [q]; rfl))
        have n1 : ¬ c.toInt = 1 := fun q => c1 (Int32.toInt_inj.mp (by rw [q]; rfl))
        have ec : (c - 2).toInt = c.toInt - 2 := by rw [iw_sub, t2]; have := ib_hi c; omega
        rw [i501]
        refine ws_le (fun d => ?_) (fun d => ?_)
        · rw [ec] at d
          refine ws_hc (k_refuse n α x 5) (fun z γ hz => ws_s (hz.1.trans ?_))
          rw [eA, if_neg n0, if_neg n1, if_neg (show ¬ c.toInt - 2 < (f (252 + (48 * a.toInt.toNat + b.toInt.toNat))).toInt by omega)]
        · rw [ec] at d
          have hk : (c.toInt - 2).toNat < (ltr f a.toInt.toNat b.toInt.toNat).length := by rw [hll]; omega
          refine ws_b (k_letterAt n hW (c.toInt - 2).toNat (c - 2) (by rw [ec]; omega) hk) (fun y hy => fin y ?_)
          have hg := ltr_get f a.toInt.toNat b.toInt.toNat (c.toInt - 2).toNat (by omega)
          rw [List.getElem?_eq_getElem hk] at hg
          rw [hy, eA, if_neg n0, if_neg n1, if_pos d]
          exact Option.some.inj hg
    · rw [if_neg hb] at ho
      subst ho
      exact ws_hN (bad 5 (fun q => hb (by have := q.2.2.2; omega)))
  · rw [if_neg hr] at ho
    subst ho
    exact ws_hN (bad 2 (fun q => hr q.2.2.1))
end JN9_0
section JN9_1
set_option maxRecDepth 100000
def szA (f : Nat → Int32) (a : Int32) : Int32 := if 0 ≤ a.toInt ∧ a.toInt < (f 0).toInt then f (72 + a.toInt.toNat) else -1
theorem v_size (n : Nat) (σ : ms_T) (hC : rC (ms_E σ 40)) (a : Int32) : pr (f_X12_size n σ a) (fun res => res.1 = szA (ms_E σ 40) a) := by
  have h4 := hC.1
  unfold f_X12_size f_X12_size_J14
  refine pr_bo (pr_w (s_isRecord hC a)) (fun h0 => v_is1 n σ 2 (by decide) (pr_s ?_)) (fun h1 => v_is0 n σ ?_)
  · unfold szA; rw [if_neg h0]
  · unfold f_X12_sizeOf
    refine pr_b (T := fun v => v = ms_E σ 40 (72 + a.toInt.toNat)) (pr_g (fun g0 g1 => pr_s ?_)) (fun v hv => pr_s ?_)
    · rw [cl_n (i := (72 : Int32) + a) (k := 72 + a.toInt.toNat) (by rw [iw_add, t_72]; omega)]; rfl
    · unfold szA; rw [if_pos h1]; exact hv
theorem k_size (n : Nat) (α : hp_T) (x : Nat) (f : Nat → Int32) (hC : rC f) (h : RWX α x f) (a : Int32) : ws (f_X11_size n α x a) (fun res => res.1 = szA f a) := by
  obtain ⟨w, u, h1, h2, h3, h4, -⟩ := h
  unfold f_X11_size
  refine ws_l ?_
  rw [h1]
  refine ws_b (k_logAt n h4 hC a) (fun o ho => ?_)
  unfold szA
  by_cases hr : 0 ≤ a.toInt ∧ a.toInt < (f 0).toInt
  · rw [if_pos hr] at ho
    subst ho
    refine ws_hS (ws_l ?_)
    rw [(h4.2.2.1 a.toInt.toNat (by omega)).1, if_pos hr]
    exact ws_hc (k_answer n α x _) (fun z γ hz => ws_s hz.1)
  · rw [if_neg hr] at ho
    subst ho
    rw [if_neg hr]
    refine ws_hN ?_
    exact ws_hc (k_refuse n α x 2) (fun z γ hz => ws_s hz.1)
end JN9_1
section JN9_2
set_option maxRecDepth 100000
theorem v_mark_L (n : Nat) (σ : ms_T) (l : List Int32) (hT : TYS σ l) : ∀ (d k : Nat) (vI kI : Int32), kI.toInt = (k : Int) → k ≤ l.length → vI = eml (ms_E σ 40 1) (fun j => l.getD j 0) k → pr (f_X12_mark_L10 n d σ vI kI) (fun res => res.1 = eml (ms_E σ 40 1) (fun j => l.getD j 0) l.length) := by
  intro d
  induction d with
  | zero => intro k vI kI _ _ _; rw [f_X12_mark_L10.eq_1]; exact pr_0
  | succ d ih =>
    intro k vI kI hk hl hv
    have h8 := hT.1
    rw [f_X12_mark_L10.eq_2]
    refine pr_le (fun e => pr_s ?_) (fun e => pr_g (fun g0 g1 => pr_b (v_mixed n σ _ _) (fun r hr => pr_l ?_)))
    · rw [hT.2.1] at e
      show vI = _
      rw [hv, show k = l.length by omega]
    · rw [hT.2.1] at e
      refine ih (k + 1) _ _ (by rw [iw_add, lt1]; omega) (by omega) ?_
      rw [hr, eml, hv, cl_n hk]
      have h2 := hT.2.2 k (by omega)
      rw [List.getD_eq_getElem?_getD, ← h2]
      rfl
theorem v_mark (n : Nat) (σ : ms_T) (l : List Int32) (hT : TYS σ l) : pr (f_X12_mark n σ) (fun res => res.1 = eml (ms_E σ 40 1) (fun j => l.getD j 0) l.length) := by
  unfold f_X12_mark
  refine pr_c (v_is2 n σ 0) (fun r τ hτ => ?_)
  have e9 : τ = ms_sI (ms_sI σ 653 0) 652 0 := hτ.2
  rw [e9]
  exact v_mark_L n (ms_sI (ms_sI σ 653 0) 652 0) l hT n 0 1 0 rfl (Nat.zero_le _) rfl
theorem k_mark (n : Nat) (hn : 70000 ≤ n) (α : hp_T) (x : Nat) (f : Nat → Int32) (hC : rC f) (h : RWX α x f) (l : List Int32) (hT : TYC α x l) : ws (f_X11_mark n α x) (fun res => res.1 = eml (f 1) (fun j => l.getD j 0) l.length) := by
  obtain ⟨w, u, h1, h2, h3, h4, -⟩ := h
  have hm := h4.2.1.1
  have hm0 := hC.2.1
  obtain ⟨ta, t1, t2, t3, t4⟩ := TYC_t hT
  unfold f_X11_mark
  refine ws_l (ws_l (ws_l ?_))
  rw [h1, hm, t2]
  refine ws_b (k_markBy n hn t4 (f 1) (by omega)) (fun v hv => ws_hc (k_answer n α x v) (fun z γ hz => ws_s (hz.1.trans hv)))
end JN9_2
section JN9_3
set_option maxRecDepth 100000
abbrev wtcOK (a b : Int32) : Prop := (0 ≤ b.toInt ∧ b.toInt ≤ 3) ∧ (0 ≤ a.toInt ∧ a.toInt ≤ 3)
def wtcA (f : Nat → Int32) (a b : Int32) : Int32 := if wtcOK a b then f (76 + 4 * a.toInt.toNat + b.toInt.toNat) else -1
theorem v_watcher (n : Nat) (σ : ms_T) (a b : Int32) : pr (f_X12_watcher n σ a b) (fun res => res.1 = wtcA (ms_E σ 40) a b) := by
  have t3 : (3 : Int32).toInt = 3 := by decide
  unfold f_X12_watcher f_X12_watcher_J26 wtcA
  refine pr_bo (v_isIn n b 0 3) (fun h0 => v_is1 n σ 1 (by decide) (pr_s ?_)) (fun h1 => pr_bo (pr_w (s_isWatcher n a)) (fun h0 => v_is1 n σ 2 (by decide) (pr_s ?_)) (fun h2 => v_is0 n σ ?_))
  · rw [lt0, t3] at h0
    rw [if_neg (fun q => h0 q.1)]
  · rw [if_neg (fun q => h0 q.2)]
  · rw [lt0, t3] at h1
    rw [if_pos ⟨h1, h2⟩]
    refine pr_b (v_trust n _ a.toInt.toNat (by omega) a (by omega) b.toInt.toNat (by omega) b (by omega)) (fun v hv => pr_s ?_)
    exact hv
theorem k_watcher (n : Nat) (α : hp_T) (x : Nat) (f : Nat → Int32) (hA : AL01 f) (h : RWX α x f) (a b : Int32) : ws (f_X11_watcher n α x a b) (fun res => res.1 = wtcA f a b) := by
  obtain ⟨w, u, h1, h2, h3, h4, -⟩ := h
  have t3 : (3 : Int32).toInt = 3 := by decide
  have t2 := t_2
  have t1 := lt1
  have bad : ∀ v : Int32, ¬ wtcOK a b → ws (hq_c (f_X11_refuse n α x v) fun r β => some (r, β)) (fun res => res.1 = wtcA f a b) := fun v hno => by
    unfold wtcA
    rw [if_neg hno]
    exact ws_hc (k_refuse n α x v) (fun z γ hz => ws_s hz.1)
  unfold f_X11_watcher f_X11_watcher_J9 f_X11_watcher_J91
  refine ws_lt (fun e => bad 1 (fun q => by rw [lt0] at e; omega)) (fun e0 => ws_le (fun e3 => ws_l ?_) (fun e => bad 1 (fun q => by omega)))
  rw [lt0] at e0
  rw [t3] at e3
  rw [h1]
  refine ws_b (k_watcherAt2 n h4.1 a) (fun o ho => ?_)
  by_cases hr : 0 ≤ a.toInt ∧ a.toInt ≤ 3
  · rw [if_pos hr] at ho
    subst ho
    have ok : wtcOK a b := ⟨⟨e0, e3⟩, hr⟩
    obtain ⟨q1, q2, q3, q4⟩ := h4.2.2.2.2.1 a.toInt.toNat (by omega)
    have fin : ∀ v : Int32, v = f (76 + 4 * a.toInt.toNat + b.toInt.toNat) → ws (hq_c (f_X11_answer n α x v) fun r β => some (r, β)) (fun res => res.1 = wtcA f a b) := fun v hv => by
      unfold wtcA
      rw [if_pos ok]
      exact ws_hc (k_answer n α x v) (fun z γ hz => ws_s (hz.1.trans hv))
    refine ws_hS (ws_i (fun e => ws_l (fin _ ?_)) (fun c0 => ws_i (fun e => ws_l (fin _ ?_)) (fun c1 => ws_i (fun e => ws_l ?_) (fun c2 => ws_l (fin _ ?_)))))
    · rw [q1, e]; rfl
    · rw [q2, e, show ((1 : Int32).toInt).toNat = 1 by decide, show 76 + 4 * a.toInt.toNat + 1 = 77 + 4 * a.toInt.toNat by omega]
    · have eb : f (76 + 4 * a.toInt.toNat + b.toInt.toNat) = f (78 + 4 * a.toInt.toNat) := by rw [e, show ((2 : Int32).toInt).toNat = 2 by decide, show 76 + 4 * a.toInt.toNat + 2 = 78 + 4 * a.toInt.toNat by omega]
      rw [q3]
      rcases hA.1 a.toInt.toNat (by omega) with z | z
      · refine ws_i (fun _ => fin _ (by rw [eb, z])) (fun q => absurd z q)
      · refine ws_i (fun q => absurd (z.symm.trans q) (by decide)) (fun _ => fin _ (by rw [eb, z]))
    · have n0 : ¬ b.toInt = 0 := fun q => c0 (Int32.toInt_inj.mp (by rw [q]; rfl))
      have n1 : ¬ b.toInt = 1 := fun q => c1 (Int32.toInt_inj.mp (by rw [q]; rfl))
      have n2 : ¬ b.toInt = 2 := fun q => c2 (Int32.toInt_inj.mp (by rw [q]; rfl))
      rw [q4, show 76 + 4 * a.toInt.toNat + b.toInt.toNat = 79 + 4 * a.toInt.toNat by omega]
  · rw [if_neg hr] at ho
    subst ho
    exact ws_hN (bad 2 (fun q => hr q.2))
end JN9_3
section JN9_4
set_option maxRecDepth 100000
def fwd (m : Int32) (xs : Nat → Int32) : List (Nat × Nat × Bool) → Nat → Int32 → Int32
  | [], _, s => s
  | q :: r, k, s => fwd m xs r (k + 1) (if q.2.2 then bt m (xs k) s else bt m s (xs k))
theorem fwd_app (m : Int32) (xs : Nat → Int32) : ∀ (l r : List (Nat × Nat × Bool)) (k : Nat) (s : Int32), fwd m xs (l ++ r) k s = fwd m xs r (k + l.length) (fwd m xs l k s) := by
  intro l
  induction l with
  | nil => intro r k s; rfl
  | cons q l ih =>
    intro r k s
    rw [List.cons_append, fwd, fwd, ih, List.length_cons, show k + 1 + l.length = k + (l.length + 1) by omega]
theorem fwd_c (m : Int32) {xs ys : Nat → Int32} : ∀ (l : List (Nat × Nat × Bool)) (k : Nat) (s : Int32), (∀ j, k ≤ j → j < k + l.length → xs j = ys j) → fwd m xs l k s = fwd m ys l k s := by
  intro l
  induction l with
  | nil => intro k s _; rfl
  | cons q l ih =>
    intro k s h
    rw [List.length_cons] at h
    rw [fwd, fwd, h k (Nat.le_refl _) (by omega)]
    exact ih (k + 1) _ (fun j h1 h2 => h j (by omega) (by omega))
theorem v_foldsIn (n : Nat) (mark : Int32) : ∀ (d e : Nat) (σ : ms_T) (f i m a0 : Nat) (iI mI : Int32), (ms_I σ 658).toInt = (a0 : Int) → a0 + e ≤ 100 → iI.toInt = (i : Int) → mI.toInt = (m : Int) → i < m → m ≤ 2 ^ e → pr (f_X12_foldsIn n d σ mark iI mI) (fun res => res.1 = fwd (ms_E σ 40 1) (ms_E σ 44) (wyT e i f m).reverse a0 mark ∧ (ms_I res.2 658).toInt = (a0 : Int) + (wyT e i f m).length ∧ fr [658] [] σ res.2) := by
  intro d
  induction d with
  | zero => intro e σ f i m a0 iI mI _ _ _ _ _ _; rw [f_X12_foldsIn.eq_1]; exact pr_0
  | succ d ih =>
    intro e σ f i m a0 iI mI h0 hae hi hm him hme
    rw [f_X12_foldsIn.eq_2]
    refine pr_e (fun h1 => ?_) (fun h1 => ?_)
    · have : m = 1 := by rw [h1, lt1] at hm; omega
      subst this
      have e1 : wyT e i f 1 = [] := by cases e <;> simp [wyT]
      rw [e1]
      exact pr_s ⟨rfl, by rw [h0]; simp, fr_rf⟩
    · rw [lt1, hm] at h1
      have hm2 : 2 ≤ m := by omega
      have hmb := ib_hi mI
      cases e with
      | zero => simp at hme; omega
      | succ e =>
      have hp1 := p0_lt hm2
      have hp2 := p0_le (m := m)
      have hp3 := p0_pos m
      have hp4 := p0_dn hm2 hme
      have e1 : wyT (e + 1) i f m = if i < p0 m then (f + p0 m, m - p0 m, false) :: wyT e i f (p0 m) else (f, p0 m, true) :: wyT e (i - p0 m) (f + p0 m) (m - p0 m) := by rw [wyT, if_neg (by omega)]
      rw [e1]
      refine pr_b (v_part0 n mI (by omega)) (fun r hr => ?_)
      rw [hm, Int.toNat_natCast] at hr
      refine pr_le (fun h2 => ?_) (fun h2 => ?_)
      · rw [if_neg (show ¬ i < p0 m by omega)]
        refine pr_c (ih e σ (f + p0 m) (i - p0 m) (m - p0 m) a0 _ _ h0 (by omega) (by rw [ii_sub (by omega) (by omega)]; omega) (by rw [ii_sub (by omega) (by omega)]; omega) (by omega) (by omega)) (fun v τ hτ => ?_)
        obtain ⟨t1, t2, t3⟩ := hτ
        replace t2 : (ms_I τ 658).toInt = _ := t2
        have hwl := wyT_len e (i - p0 m) (f + p0 m) (m - p0 m)
        have e44 : ms_E τ 44 = ms_E σ 44 := funext (t3.2 44 (by decide))
        have e40 : ms_E τ 40 1 = ms_E σ 40 1 := t3.2 40 (by decide) 1
        refine pr_ln (fun υ hυ => pr_g (fun _ _ => ?_))
        have u1 : (ms_I υ 658).toInt = (a0 : Int) + (wyT e (i - p0 m) (f + p0 m) (m - p0 m)).length + 1 := by rw [hυ, mI_sI, if_pos rfl, iw_add, lt1]; omega
        have hc : (ms_I υ 658 - 1).toNatClampNeg = a0 + (wyT e (i - p0 m) (f + p0 m) (m - p0 m)).length := cl_n (by rw [iw_sub, lt1, u1]; omega)
        have uE : ms_E υ = ms_E τ := by rw [hυ]; rfl
        rw [hc, uE, e44]
        refine pr_b (v_both n υ _ _) (fun w hw => pr_s ⟨?_, ?_, ?_⟩)
        · replace t1 : v = _ := t1
          rw [List.reverse_cons, fwd_app, List.length_reverse, ← t1, fwd, fwd]
          rw [uE, e40] at hw
          show w = _
          rw [hw]
          rfl
        · show (ms_I υ 658).toInt = _
          rw [u1, List.length_cons]; omega
        · show fr [658] [] σ υ
          rw [hυ]
          exact fr_tr t3 (fr_sI (by decide))
      · rw [if_pos (show i < p0 m by omega)]
        refine pr_c (ih e σ f i (p0 m) a0 _ _ h0 (by omega) hi hr (by omega) hp4) (fun v τ hτ => ?_)
        obtain ⟨t1, t2, t3⟩ := hτ
        replace t2 : (ms_I τ 658).toInt = _ := t2
        have hwl := wyT_len e i f (p0 m)
        have e44 : ms_E τ 44 = ms_E σ 44 := funext (t3.2 44 (by decide))
        have e40 : ms_E τ 40 1 = ms_E σ 40 1 := t3.2 40 (by decide) 1
        refine pr_ln (fun υ hυ => pr_g (fun _ _ => ?_))
        have u1 : (ms_I υ 658).toInt = (a0 : Int) + (wyT e i f (p0 m)).length + 1 := by rw [hυ, mI_sI, if_pos rfl, iw_add, lt1]; omega
        have hc : (ms_I υ 658 - 1).toNatClampNeg = a0 + (wyT e i f (p0 m)).length := cl_n (by rw [iw_sub, lt1, u1]; omega)
        have uE : ms_E υ = ms_E τ := by rw [hυ]; rfl
        rw [hc, uE, e44]
        refine pr_b (v_both n υ _ _) (fun w hw => pr_s ⟨?_, ?_, ?_⟩)
        · replace t1 : v = _ := t1
          rw [List.reverse_cons, fwd_app, List.length_reverse, ← t1, fwd, fwd]
          rw [uE, e40] at hw
          show w = _
          rw [hw]
          rfl
        · show (ms_I υ 658).toInt = _
          rw [u1, List.length_cons]; omega
        · show fr [658] [] σ υ
          rw [hυ]
          exact fr_tr t3 (fr_sI (by decide))
theorem v_folded (n : Nat) (σ : ms_T) (mark : Int32) (i m : Nat) (iI mI : Int32) (hi : iI.toInt = (i : Int)) (hm : mI.toInt = (m : Int)) (him : i < m) : pr (f_X12_folded n σ mark iI mI) (fun res => res.1 = fwd (ms_E σ 40 1) (ms_E σ 44) (wyT 31 i 0 m).reverse 0 mark ∧ fr [658] [] σ res.2) := by
  have hmb := ib_hi mI
  have h31 : (2 : Nat) ^ 31 = 2147483648 := by decide
  unfold f_X12_folded
  refine pr_ln (fun τ hτ => ?_)
  have h0 : (ms_I τ 658).toInt = ((0 : Nat) : Int) := by rw [hτ, mI_sI, if_pos rfl]; rfl
  refine pr_c (v_foldsIn n mark 40 31 τ 0 i m 0 iI mI h0 (by omega) hi hm him (by omega)) (fun r υ hr => pr_s ⟨?_, ?_⟩)
  · have := hr.1
    rw [hτ] at this
    exact this
  · have := hr.2.2
    rw [hτ] at this
    exact fr_tr (fr_sI (by decide)) this
theorem v_waysIn_fr (n : Nat) : ∀ (d : Nat) (σ : ms_T) (f i m : Int32), pr (f_X12_waysIn n d σ f i m) (fun τ => fr [657] [42, 43] σ τ) := by
  intro d
  induction d with
  | zero => intro σ f i m; rw [f_X12_waysIn.eq_1]; exact pr_0
  | succ d ih =>
    intro σ f i m
    rw [f_X12_waysIn.eq_2]
    refine pr_i (fun _ => pr_s fr_rf) (fun _ => pr_b (T := fun _ => True) (fun _ _ => trivial) (fun r _ => pr_i (fun _ => ?_) (fun _ => ?_)))
    · exact pr_b (ih σ _ _ _) (fun τ hτ => pr_b (pr_w_asks n τ _ _) (fun υ hυ => pr_s (fr_tr hτ hυ)))
    · exact pr_b (ih σ _ _ _) (fun τ hτ => pr_b (pr_w_asks n τ _ _) (fun υ hυ => pr_s (fr_tr hτ hυ)))
theorem v_incl_fr (n : Nat) (σ : ms_T) (i m : Int32) : pr (f_X12_inclusion n σ i m) (fun τ => fr [657] [42, 43] σ τ) := by
  unfold f_X12_inclusion
  exact pr_l (pr_b (v_waysIn_fr n 40 _ _ _ _) (fun τ hτ => pr_s (fr_tr (fr_sI (by decide)) hτ)))
def WIN (m : Int32) (xs : Nat → Int32) (c : Nat) (mark : Int32) (i N : Nat) (head : Int32) : Int32 :=
  if c < (wyT 31 i 0 N).length then 1 else if (wyT 31 i 0 N).length < c then 2 else if fwd m xs (wyT 31 i 0 N).reverse 0 mark = head then 0 else 3
theorem v_whyIn (n : Nat) (σ : ms_T) (c : Nat) (cI : Int32) (hc : cI.toInt = (c : Int)) (mark head : Int32) (i N : Nat) (iI NI : Int32) (hi : iI.toInt = (i : Int)) (hN : NI.toInt = (N : Int)) (hiN : i < N) : pr (f_X12_whyIn n σ cI mark iI NI head) (fun res => res.1 = WIN (ms_E σ 40 1) (ms_E σ 44) c mark i N head ∧ kq σ res.2) := by
  unfold f_X12_whyIn f_X12_whyIn_J36 f_X12_whyIn_J41
  refine pr_b (fun τ hτ => (⟨v_inclusion n σ iI NI (by omega) (by omega) τ hτ, z_X12_inclusion kq_rf τ hτ, v_incl_fr n σ iI NI τ hτ⟩ : WS τ _ ∧ kq σ τ ∧ fr [657] [42, 43] σ τ)) (fun τ hτ => pr_l ?_)
  obtain ⟨hW, hk, hf⟩ := hτ
  have h657 := hW.1
  rw [List.length_reverse, show iI.toInt.toNat = i by omega, show NI.toInt.toNat = N by omega] at h657
  have e40 : ms_E τ 40 1 = ms_E σ 40 1 := hf.2 40 (by decide) 1
  have e44 : ms_E τ 44 = ms_E σ 44 := funext (hf.2 44 (by decide))
  have hwhy : ∀ (τ2 : ms_T) (b : Int32), kq σ τ2 → (c = (wyT 31 i 0 N).length → b = if fwd (ms_E σ 40 1) (ms_E σ 44) (wyT 31 i 0 N).reverse 0 mark = head then 1 else 0) → pr (ms_b (f_X12_why n τ2 cI (ms_I τ 657) b) fun r => some (r, τ2)) (fun res => res.1 = WIN (ms_E σ 40 1) (ms_E σ 44) c mark i N head ∧ kq σ res.2) := fun τ2 b hk2 hb => by
    refine pr_b (T := fun r => r = WIN (ms_E σ 40 1) (ms_E σ 44) c mark i N head) ?_ (fun r hr => pr_s ⟨hr, hk2⟩)
    unfold f_X12_why WIN
    refine pr_le (fun z1 => ?_) (fun z1 => pr_s (by rw [if_pos (by omega)]))
    refine pr_le (fun z2 => ?_) (fun z2 => pr_s (by rw [if_neg (by omega), if_pos (by omega)]))
    have ec : c = (wyT 31 i 0 N).length := by omega
    rw [if_neg (show ¬ c < (wyT 31 i 0 N).length by omega), if_neg (show ¬ (wyT 31 i 0 N).length < c by omega)]
    have hb2 := hb ec
    by_cases hq : fwd (ms_E σ 40 1) (ms_E σ 44) (wyT 31 i 0 N).reverse 0 mark = head
    · rw [if_pos hq] at hb2 ⊢
      rw [hb2]
      exact pr_i (fun q => absurd q (by decide)) (fun _ => pr_s rfl)
    · rw [if_neg hq] at hb2 ⊢
      rw [hb2]
      exact pr_i (fun _ => pr_s rfl) (fun q => absurd rfl q)
  refine pr_e (fun z => ?_) (fun z => hwhy τ 1 hk (fun q => by omega))
  refine pr_c (v_folded n τ mark i N iI NI hi hN hiN) (fun v υ hυ => ?_)
  obtain ⟨h1, h2⟩ := hυ
  replace h1 : v = fwd (ms_E τ 40 1) (ms_E τ 44) (wyT 31 i 0 N).reverse 0 mark := h1
  rw [e40, e44] at h1
  have hkυ : kq σ υ := ⟨fun φ hφ => by rw [h2.1 φ (by rw [beq_iff_eq] at hφ; rw [hφ]; decide)]; exact hk.1 φ hφ, fun κ hκ j => by rw [h2.2 κ List.not_mem_nil j]; exact hk.2 κ hκ j⟩
  refine pr_i (fun q => hwhy υ 1 hkυ (fun _ => ?_)) (fun q => hwhy υ 0 hkυ (fun _ => ?_))
  · rw [if_pos (h1.symm.trans q)]
  · rw [if_neg (fun y => q (h1.trans y))]
theorem k_folded_L (n : Nat) (α : hp_T) (a row : Nat) (W : List (Nat × Nat × Bool)) (hW : WC α a W) (hW64 : W.length ≤ 64) (xl : List Int32) (hR : RWL α row xl) (m : Int32) (hm : 0 < m.toInt) (c : Nat) (cI : Int32) (hc : cI.toInt = (c : Int)) (hcW : c ≤ W.length) (hcx : c ≤ xl.length) : ∀ (d k : Nat) (s kI : Int32), kI.toInt = (k : Int) → k ≤ c → 65 - k ≤ d → ws (f_X8_folded_L6 n α a d m row cI s kI) (fun r => r = fwd m (fun j => xl.getD j 0) ((W.take c).drop k) k s) := by
  intro d
  induction d with
  | zero => intro k s kI _ _ hd; omega
  | succ d ih =>
    intro k s kI hk hkc hd
    have t64 := t_64
    rw [f_X8_folded_L6.eq_2]
    refine ws_le (fun e => ws_s ?_) (fun e => ws_l (ws_le (fun e2 => by have := hW.1; omega) (fun e2 => ?_)))
    · rw [List.drop_eq_nil_of_le (by rw [List.length_take]; omega)]; rfl
    · have hkc2 : k < c := by omega
      have hkt : k < (W.take c).length := by rw [List.length_take]; omega
      have e1 : (kI + 1).toInt = ((k + 1 : Nat) : Int) := by rw [iw_add, lt1]; omega
      refine ws_b (k_rat n hR k (by omega) kI hk) (fun x hx => ws_b (k_joined n hW hW64 k (by omega) kI hk m hm s x) (fun r hr => ws_l ?_))
      rw [List.drop_eq_getElem_cons hkt, fwd, List.getElem_take, ← hx, ← hr]
      exact ih (k + 1) r _ e1 (by omega) (by omega)
theorem k_folded (n : Nat) (hn : 70000 ≤ n) (α : hp_T) (a row : Nat) (W : List (Nat × Nat × Bool)) (hW : WC α a W) (hW64 : W.length ≤ 64) (xl : List Int32) (hR : RWL α row xl) (m : Int32) (hm : 0 < m.toInt) (c : Nat) (cI : Int32) (hc : cI.toInt = (c : Int)) (hcW : c ≤ W.length) (hcx : c ≤ xl.length) (s : Int32) : ws (f_X8_folded n α a m row s cI) (fun r => r = fwd m (fun j => xl.getD j 0) (W.take c) 0 s) := by
  unfold f_X8_folded
  have := k_folded_L n α a row W hW hW64 xl hR m hm c cI hc hcW hcx n 0 s 0 rfl (Nat.zero_le _) (by omega)
  rw [List.drop_zero] at this
  exact this
theorem k_whyIn (n : Nat) (hn : 70000 ≤ n) (α : hp_T) (a row : Nat) (i N : Nat) (hW : WC α a (wyT 31 i 0 N).reverse) (xl : List Int32) (hR : RWL α row xl) (m : Int32) (hm : 0 < m.toInt) (mark head : Int32) : ws (f_X8_whyInclusion n α a m row mark head) (fun r => r = WIN m (fun j => xl.getD j 0) xl.length mark i N head) := by
  have h1 := hR.2.1
  have h2 := hW.1
  rw [List.length_reverse] at h2
  have hl := wyT_len 31 i 0 N
  unfold f_X8_whyInclusion WIN
  refine ws_l (ws_l (ws_e (fun z => ws_l ?_) (fun z => ws_l (ws_l (ws_le (fun z2 => ws_s ?_) (fun z2 => ws_s ?_))))))
  · have ec : xl.length = (wyT 31 i 0 N).length := by rw [z, h2] at h1; omega
    rw [if_neg (by omega), if_neg (by omega)]
    refine ws_b (k_folded n hn α a row _ hW (by rw [List.length_reverse]; omega) xl hR m hm (wyT 31 i 0 N).length _ h2 (by rw [List.length_reverse]; exact Nat.le_refl _) (by omega) mark) (fun r hr => ?_)
    rw [List.take_of_length_le (by rw [List.length_reverse]; exact Nat.le_refl _)] at hr
    refine ws_i (fun q => ws_s ?_) (fun q => ws_s ?_)
    · rw [if_pos (hr.symm.trans q)]
    · rw [if_neg (fun y => q (hr.trans y))]
  · rw [if_neg (by omega), if_pos (by omega)]
  · rw [if_pos (by omega)]
end JN9_4
section JN9_5
set_option maxRecDepth 100000
theorem j_waysIn (n : Nat) {j : Int64} : ∀ (d : Nat) (σ : ms_T) (h : ms_J σ = j) (a b c : Int32), pr (f_X12_waysIn n d σ a b c) (fun τ => ms_J τ = j) := by
  intro d
  induction d with
  | zero => intros; exact pr_0
  | succ d ih =>
    intro σ h a b c
    unfold f_X12_waysIn
    repeat' (first
        | exact pr_s (by (first | assumption | (simp only [mJ_sE, mJ_sI]; assumption)))
        | exact pr_0
        | with_reducible refine pr_l ?_
        | with_reducible refine pr_g (fun _ _ => ?_)
        | with_reducible refine pr_n (fun _ => ?_)
        | with_reducible refine pr_i (fun _ => ?_) (fun _ => ?_)
        | with_reducible refine pr_b (T := fun (τ : ms_T) => ms_J τ = j) (j_asks n (by (first | assumption | (simp only [mJ_sE, mJ_sI]; assumption))) _ _) (fun _ _ => ?_)
        | with_reducible refine pr_b (T := fun (τ : ms_T) => ms_J τ = j) (ih _ (by (first | assumption | (simp only [mJ_sE, mJ_sI]; assumption))) _ _ _) (fun _ _ => ?_)
        | with_reducible refine pr_b (T := fun (_ : Int32) => True) pr_t (fun _ _ => ?_))
theorem j_inclusion (n : Nat) {j : Int64} {σ : ms_T} (h : ms_J σ = j) (a b : Int32) : pr (f_X12_inclusion n σ a b) (fun τ => ms_J τ = j) := by
  unfold f_X12_inclusion
  repeat' (first
      | exact pr_s (by (first | assumption | (simp only [mJ_sE, mJ_sI]; assumption)))
      | exact pr_0
      | with_reducible refine pr_l ?_
      | with_reducible refine pr_g (fun _ _ => ?_)
      | with_reducible refine pr_n (fun _ => ?_)
      | with_reducible refine pr_i (fun _ => ?_) (fun _ => ?_)
      | with_reducible refine pr_b (T := fun (τ : ms_T) => ms_J τ = j) (j_waysIn n 40 _ (by (first | assumption | (simp only [mJ_sE, mJ_sI]; assumption))) _ _ _) (fun _ _ => ?_)
      | with_reducible refine pr_b (T := fun (_ : Int32) => True) pr_t (fun _ _ => ?_))
theorem j_foldsIn (n : Nat) {j : Int64} : ∀ (d : Nat) (σ : ms_T) (h : ms_J σ = j) (a b c : Int32), pr (f_X12_foldsIn n d σ a b c) (fun τ => ms_J τ.2 = j) := by
  intro d
  induction d with
  | zero => intros; exact pr_0
  | succ d ih =>
    intro σ h a b c
    unfold f_X12_foldsIn
    repeat' (first
        | exact pr_s (by (first | assumption | (simp only [mJ_sE, mJ_sI]; assumption)))
        | exact pr_0
        | with_reducible refine pr_l ?_
        | with_reducible refine pr_g (fun _ _ => ?_)
        | with_reducible refine pr_n (fun _ => ?_)
        | with_reducible refine pr_i (fun _ => ?_) (fun _ => ?_)
        | with_reducible refine pr_c (T := fun (τ : Int32 × ms_T) => ms_J τ.2 = j) (ih _ (by (first | assumption | (simp only [mJ_sE, mJ_sI]; assumption))) _ _ _) (fun _ _ _ => ?_)
        | with_reducible refine pr_b (T := fun (_ : Int32) => True) pr_t (fun _ _ => ?_))
theorem j_folded (n : Nat) {j : Int64} {σ : ms_T} (h : ms_J σ = j) (a b c : Int32) : pr (f_X12_folded n σ a b c) (fun τ => ms_J τ.2 = j) := by
  unfold f_X12_folded
  repeat' (first
      | exact pr_s (by (first | assumption | (simp only [mJ_sE, mJ_sI]; assumption)))
      | exact pr_0
      | with_reducible refine pr_l ?_
      | with_reducible refine pr_g (fun _ _ => ?_)
      | with_reducible refine pr_n (fun _ => ?_)
      | with_reducible refine pr_i (fun _ => ?_) (fun _ => ?_)
      | with_reducible refine pr_c (T := fun (τ : Int32 × ms_T) => ms_J τ.2 = j) (j_foldsIn n 40 _ (by (first | assumption | (simp only [mJ_sE, mJ_sI]; assumption))) _ _ _) (fun _ _ _ => ?_)
      | with_reducible refine pr_b (T := fun (_ : Int32) => True) pr_t (fun _ _ => ?_))
theorem j_whyIn (n : Nat) {j : Int64} {σ : ms_T} (h : ms_J σ = j) (a b c d e : Int32) : pr (f_X12_whyIn n σ a b c d e) (fun τ => ms_J τ.2 = j) := by
  unfold f_X12_whyIn f_X12_whyIn_J36 f_X12_whyIn_J41
  repeat' (first
      | exact pr_s (by (first | assumption | (simp only [mJ_sE, mJ_sI]; assumption)))
      | exact pr_0
      | with_reducible refine pr_l ?_
      | with_reducible refine pr_g (fun _ _ => ?_)
      | with_reducible refine pr_n (fun _ => ?_)
      | with_reducible refine pr_i (fun _ => ?_) (fun _ => ?_)
      | with_reducible refine pr_b (T := fun (τ : ms_T) => ms_J τ = j) (j_inclusion n (by (first | assumption | (simp only [mJ_sE, mJ_sI]; assumption))) _ _) (fun _ _ => ?_)
      | with_reducible refine pr_c (T := fun (τ : Int32 × ms_T) => ms_J τ.2 = j) (j_folded n (by (first | assumption | (simp only [mJ_sE, mJ_sI]; assumption))) _ _ _) (fun _ _ _ => ?_)
      | with_reducible refine pr_b (T := fun (_ : Int32) => True) pr_t (fun _ _ => ?_))
end JN9_5
section JN9_6
set_option maxRecDepth 100000
theorem BBp {σ τ : ms_T} (h : BB σ τ) (g : 0 < (ms_I σ 670).toInt) : 0 < (ms_I τ 670).toInt := by rw [h.1]; exact g
theorem v_takesMark_B (n : Nat) (σ : ms_T) (h : 0 < (ms_I σ 670).toInt) : pr (f_X12_takesMark n σ) (fun res => BB σ res.2) := by
  unfold f_X12_takesMark
  exact pr_g (fun _ _ => pr_c (v_takesNumber_B n σ _ _ h) (fun _ _ hτ => pr_s hτ))
theorem v_marksL_B (n d : Nat) (σ : ms_T) (v : Int32) (h : 0 < (ms_I σ 670).toInt) : pr (f_X12_takesMarks_L8 n d σ v) (fun res => BB σ res.2) := by
  cases d with
  | zero => rw [f_X12_takesMarks_L8.eq_1]; exact pr_0
  | succ d =>
    rw [f_X12_takesMarks_L8.eq_2]
    refine pr_i (fun e => by rw [e, lt0] at h; omega) (fun _ => ?_)
    unfold f_X12_takesMarks_J82
    exact pr_b (v_takesEnd_B n σ h) (fun τ hτ => pr_s hτ)
theorem v_takesMarks_B (n : Nat) (σ : ms_T) (h : 0 < (ms_I σ 670).toInt) : pr (f_X12_takesMarks n σ) (fun res => BB σ res.2) := by
  unfold f_X12_takesMarks
  exact pr_b (v_takes_B n σ 11 h) (fun τ hτ => pr_m (v_marksL_B n n τ 0 (BBp hτ h)) (fun res hr => BB_tr hτ hr))
theorem TOK_e {α β : hp_T} {rd N q : Nat} {σ : ms_T} {t : Nat → Int32} (h : TOK α rd σ t N q) (eR : hp_R β = hp_R α) (eK : hp_K β = hp_K α) (e24 : ∀ b j, hp_E β 24 b j = hp_E α 24 b j) (eI : ∀ φ, 350 ≤ φ → φ ≤ 356 → hp_I β φ (hp_R α 200 rd) = hp_I α φ (hp_R α 200 rd)) : TOK β rd σ t N q := by
  obtain ⟨h1, ⟨b1, b2, b3, b4⟩, ⟨c1, c2, c3, c4, c5⟩, h4, h5, h6⟩ := h
  refine ⟨h1, ⟨b1, ?_, ?_, fun j hj => ?_⟩, ⟨?_, ?_, ?_, ?_, fun hs => ?_⟩, h4, h5, h6⟩
  · rw [eR, eI 351 (by decide) (by decide)]; exact b2
  · rw [eR, eK]; exact b3
  · rw [eR, e24]; exact b4 j hj
  · rw [eR, eI 354 (by decide) (by decide)]; exact c1
  · rw [eR, eI 353 (by decide) (by decide)]; exact c2
  · rw [eR, eI 352 (by decide) (by decide)]; exact c3
  · rw [eR, eI 355 (by decide) (by decide)]; exact c4
  · rw [eR, eI 356 (by decide) (by decide)]; exact c5 hs
theorem PRE_e {α β : hp_T} {rd N p : Nat} {σ : ms_T} {t : Nat → Int32} (h : PRE α rd σ t N p) (eR : hp_R β = hp_R α) (eK : hp_K β = hp_K α) (e24 : ∀ b j, hp_E β 24 b j = hp_E α 24 b j) (eI : ∀ φ, 350 ≤ φ → φ ≤ 356 → hp_I β φ (hp_R α 200 rd) = hp_I α φ (hp_R α 200 rd)) : PRE β rd σ t N p := by
  obtain ⟨h1, ⟨b1, b2, b3, b4⟩, h3, h4, h5, h6⟩ := h
  refine ⟨h1, ⟨b1, ?_, ?_, fun j hj => ?_⟩, ?_, h4, h5, h6⟩
  · rw [eR, eI 351 (by decide) (by decide)]; exact b2
  · rw [eR, eK]; exact b3
  · rw [eR, e24]; exact b4 j hj
  · rw [eR, eI 352 (by decide) (by decide)]; exact h3
theorem r_mark (n : Nat) (hn : 70000 ≤ n) {α : hp_T} {rd : Nat} {σ τ υ : ms_T} {v : Int32} {t : Nat → Int32} {N p : Nat} (h : PRE α rd σ t N p) (hM : hp_I α 203 rd = ms_E σ 40 1) (hC : rC (ms_E σ 40)) (w : Nat) (hw : w < 12) (wI : Int32) (hwI : wI.toInt = (w : Int)) (e1 : f_X12_takes n σ wI = some τ) (e2 : f_X12_takesMark n τ = some (v, υ)) :
    ws (f_X3_readMark n α rd (wtx w)) (fun a => OUT α rd σ t N p a.1 a.2 υ (hp_I a.2 209 rd = v ∧ 0 ≤ v.toInt ∧ v.toInt < (ms_E σ 40 1).toInt ∧ ∀ φ, φ < 350 → φ ≠ 209 → hp_I a.2 φ rd = hp_I α φ rd)) := by
  have hm := hC.2.1
  unfold f_X3_readMark
  refine ws_hc (r_word n hn h w hw wI hwI) (fun a β hab => ?_)
  obtain ⟨hf, hg, hc⟩ := hab τ e1
  have e2B := e2
  unfold f_X12_takesMark at e2
  replace e2 := ms_gE e2
  obtain ⟨-, e2⟩ := e2
  replace e2 := ms_cE e2
  obtain ⟨v', υ', e3, e4⟩ := e2
  cases e4
  rcases hc with ⟨ra, ⟨p2, hlt, hP2⟩, hk⟩ | ⟨ra, hB⟩
  · replace ra : a = 1 := ra
    subst ra
    rw [if_neg (by decide)]
    refine ws_l ?_
    have e203 : hp_I β 203 rd = ms_E σ 40 1 := by rw [hk 203 (by decide)]; exact hM
    have h40 : ms_E τ 40 = ms_E σ 40 := funext (hg.2 40 (by decide))
    have ec : ms_E τ 40 ((1 : Int32)).toNatClampNeg = ms_E σ 40 1 := by rw [h40]; rfl
    rw [ec] at e3
    rw [e203]
    have e200 : hp_R β 200 rd = hp_R α 200 rd := by rw [hf.1]
    have hb : (ms_E σ 40 1 - 1).toInt = (ms_E σ 40 1).toInt - 1 := by rw [iw_sub, lt1]; omega
    refine ws_hc (r_number n hn hP2 0 (ms_E σ 40 1 - 1) 0 (ms_E σ 40 1 - 1) (fun _ _ _ => Iff.rfl)) (fun a2 γ h2 => ?_)
    obtain ⟨hf2, hg2, hc2⟩ := h2 _ e3
    rw [e200] at hf2
    rcases hc2 with ⟨ra2, ⟨p3, hlt3, hP3⟩, ev, v0, v1, v2, v3, hk2⟩ | ⟨ra2, hB⟩
    · replace ra2 : a2 = 1 := ra2
      subst ra2
      rw [if_neg (by decide)]
      refine ws_s ⟨rdf_tr hf hf2, rg_tr hg hg2, Or.inl ⟨rfl, ⟨p3, by omega, hP3⟩, ev, v0, ?_, fun φ h1 h2 => (hk2 φ h1 h2).trans (hk φ h1)⟩⟩
      replace v3 : v.toInt ≤ (ms_E σ 40 1 - 1).toInt := v3
      omega
    · replace ra2 : a2 = 0 := ra2
      subst ra2
      rw [if_pos rfl]
      exact ws_s ⟨rdf_tr hf hf2, rg_tr hg hg2, Or.inr ⟨rfl, hB⟩⟩
  · replace ra : a = 0 := ra
    subst ra
    rw [if_pos rfl]
    have hb := v_takesMark_B n τ hB.1 _ e2B
    exact ws_s ⟨hf, rg_tr hg hb.2.2, Or.inr ⟨rfl, BAD_B hB hb⟩⟩
theorem r_end110 (n : Nat) {α : hp_T} {rd : Nat} {σ : ms_T} {t : Nat → Int32} {N q : Nat} (hT : TOK α rd σ t N q) (hR : hp_R α 200 rd = rd + 1) : ws (f_X3_readRow_J110 n rd α) (fun a => pr (f_X12_takesEnd n σ) (fun τ => rdf rd (rd + 1) α a.2 ∧ rg σ τ ∧ ((a.1 = 1 ∧ (∃ p', q < p' ∧ PRE a.2 rd τ t N p') ∧ a.2 = α) ∨ (a.1 = 0 ∧ BAD a.2 rd τ)))) := by
  unfold f_X3_readRow_J110 f_X3_readRow_J128
  obtain ⟨q1, q2, q3, q4, q5, q6⟩ := id hT
  unfold f_X12_takesEnd f_X12_takesEnd_J14
  refine ws_l (ws_l (ws_i (fun e => ?_) (fun e => ?_)))
  · have hs := q3.2.1.symm.trans e
    rw [if_pos (q5.2.1.trans hs)]
    exact ws_s (r_must n hT 1 (Or.inr rfl) (fun _ => q_lt hs (by decide)) (R := ms_T) _ (fun _ τ t1 t2 => ⟨rdf_rf, t2, Or.inl ⟨rfl, ⟨_, by have := (tkN_le t (q_lt hs (by decide))).1; omega, t1⟩, rfl⟩⟩) (fun h => absurd h (by decide)))
  · rw [if_neg (fun h => e (q3.2.1.trans (q5.2.1.symm.trans h)))]
    refine ws_hc (k_stray n q3) (fun r γ hr => ws_i (fun _ => ws_s ?_) (fun e => absurd hr.1 e))
    obtain ⟨g1, g2, g3, g4⟩ := hr
    refine r_must n hT 0 (Or.inl rfl) (fun h => absurd h (by decide)) (R := ms_T) _ (fun h => absurd h (by decide)) (fun _ τ t1 t2 t3 t4 => ⟨by rw [hR] at g4; exact g4, t4, Or.inr ⟨rfl, t1, by rw [g2, t2], ?_⟩⟩)
    exact Int32.toInt_inj.mp (by rw [g3, t3])
def RSH (α : hp_T) (rd : Nat) : Prop := RS α rd ∧ hp_R α 201 rd = rd + 3 ∧ hp_R α 300 (rd + 3) = rd + 4 ∧ hp_R α 202 rd = rd + 5 ∧ hp_R α 450 (rd + 5) = rd + 6 ∧ hp_R α 451 (rd + 5) = rd + 7 ∧ hp_R α 452 (rd + 5) = rd + 8
theorem RSH_R {rd : Nat} {α β : hp_T} (h : RSH α rd) (e : hp_R β = hp_R α) : RSH β rd := by unfold RSH RS; rw [e]; exact h
theorem rfr_ef {rd : Nat} {α β : hp_T} (hS : RSH α rd) (h : ef (rd + 3) α β) : rfr rd α β := by
  obtain ⟨h1, h2, h3, h4, h5, h6⟩ := h
  refine ⟨h1, h2, h3, h4, fun φ b hb => h5 φ b (fun z => by omega), fun κ b j hb => h6 κ b j (fun z => ?_)⟩
  have := z.2
  rw [hS.2.2.1] at this
  omega
theorem rfr_wf {rd : Nat} {α β : hp_T} (hS : RSH α rd) (h : wf (rd + 5) α β) : rfr rd α β := by
  obtain ⟨h1, h2, h3, h4, h5, h6⟩ := h
  refine ⟨h1, h2, h3, h4, fun φ b hb => h5 φ b (fun z => by omega), fun κ b j hb => h6 κ b j (fun z => ?_)⟩
  rw [hS.2.2.2.2.1, hS.2.2.2.2.2.1, hS.2.2.2.2.2.2] at z
  omega
def rgm (σ τ : ms_T) : Prop := fr [670, 671, 672, 673, 674, 675] [44] σ τ
theorem rgm_rg {σ τ : ms_T} (h : rg σ τ) : rgm σ τ := fr_sb h (by decide) (by decide)
def MKR (α : hp_T) (rd : Nat) (σ : ms_T) (c : Int32) (yl : List Int32) : Prop := RWL α (rd + 3) yl ∧ c.toInt = (yl.length : Int) ∧ ∀ j, j < yl.length → some (ms_E σ 44 j) = yl[j]?
def ROUT (α : hp_T) (rd : Nat) (σ : ms_T) (t : Nat → Int32) (N q : Nat) (a : Int32 × hp_T) (res : Int32 × ms_T) : Prop := rfr rd α a.2 ∧ rgm σ res.2 ∧ ((a.1 = 1 ∧ (∃ p, q < p ∧ PRE a.2 rd res.2 t N p) ∧ (∃ yl, MKR a.2 rd res.2 res.1 yl) ∧ ∀ φ, φ < 350 → hp_I a.2 φ rd = hp_I α φ rd) ∨ (a.1 = 0 ∧ BAD a.2 rd res.2))
theorem r_row_L (n : Nat) (hn : 70000 ≤ n) (rd : Nat) (t : Nat → Int32) (N : Nat) (res : Int32 × ms_T) : ∀ (d : Nat) (α : hp_T) (σ : ms_T) (xl : List Int32) (q : Nat) (kI vI : Int32) (d2 : Nat), RSH α rd → TOK α rd σ t N q → MKR α rd σ vI xl → hp_I α 203 rd = ms_E σ 40 1 → rC (ms_E σ 40) → kI = vI → 66 - xl.length ≤ d → f_X12_takesMarks_L8 n d2 σ vI = some res → ws (f_X3_readRow_L28 n rd d α kI) (fun a => ROUT α rd σ t N q a res) := by
  intro d
  induction d with
  | zero => intro α σ xl q kI vI d2 _ _ hK _ _ _ hd; have := hK.1.1; omega
  | succ d ih =>
    intro α σ xl q kI vI d2 hS hT hK hM hC hkv hd e
    subst hkv
    obtain ⟨hRW, hv, h44⟩ := id hK
    have t64 := t_64
    have hx := hRW.1
    have hm := hC.2.1
    obtain ⟨q1, q2, q3, q4, q5, q6⟩ := id hT
    have eR : hp_R α 200 rd = rd + 1 := hS.1.1
    cases d2 with
    | zero => rw [f_X12_takesMarks_L8.eq_1] at e; cases e
    | succ d2 =>
    rw [f_X12_takesMarks_L8.eq_2] at e
    rw [if_pos q6] at e
    rw [f_X3_readRow_L28.eq_2]
    refine ws_lt (fun c => by rw [t64] at c; omega) (fun _ => ws_l (ws_l ?_))
    have h353 : hp_I α 353 (hp_R α 200 rd) = tkS t N q := q3.2.1
    by_cases hs : tkS t N q = 2
    · refine ws_i (fun _ => ws_l (ws_l (ws_l ?_))) (fun z => absurd (h353.trans hs) z)
      rw [if_pos (q5.2.1.trans hs)] at e
      obtain ⟨hqN, h5, hv0, hv1⟩ := tk_num hs
      have hval := q3.2.2.2.2 hs
      have hval2 := q5.2.2.2.1 hs
      rw [hval2] at e
      rw [hval, hM]
      obtain ⟨V, hV⟩ : ∃ V, V = vl t q (tkN t N q - q) := ⟨_, rfl⟩
      rw [← hV] at e hval hval2 hv0 hv1 ⊢
      replace e := ms_bE e
      obtain ⟨b, eb, e⟩ := e
      obtain ⟨b', eb', hbo⟩ := s_isMark (n := n) hC V
      have hbb : b' = b := by rw [eb'] at eb; exact Option.some.inj eb
      subst hbb
      replace e := ms_bE e
      obtain ⟨σ8, e8, e⟩ := e
      -- the end where a fault stands
      have hend : ∀ (w : Int32) (σ9 : ms_T), 0 < (ms_I σ9 670).toInt → f_X12_takesMarks_J48 n (f_X12_takesMarks_L8 n d2) σ9 kI w = some res → res.2 = σ9 := by
        intro w σ9 h9 e9
        unfold f_X12_takesMarks_J48 at e9
        replace e9 := ms_bE e9
        obtain ⟨σ0, e0, e9⟩ := e9
        have := v_must2 n σ9 w 6 h9 σ0 e0
        subst this
        rw [if_neg (fun z => by have := il_le z; rw [lt0] at this; omega)] at e9
        cases e9
        rfl
      refine ws_lt (fun hlt => ?_) (fun hge => ?_)
      · have hb1 : b' = 1 := by
          rcases hbo with ⟨g, -⟩ | ⟨-, g⟩
          · exact g
          · exact absurd ⟨hv0, hlt⟩ g
        subst hb1
        have h8 := v_must1 n σ 1 3 (by decide) σ8 e8
        subst h8
        refine ws_l (ws_l ?_)
        have e201 : hp_R α 201 rd = rd + 3 := hS.2.1
        rw [e201]
        refine ws_hc (r_room n hT eR (hp_I α 301 (rd + 3)) 64) (fun a β hab => ?_)
        obtain ⟨hab1, hab2⟩ := hab
        by_cases h64 : xl.length < 64
        · obtain ⟨ra, rb⟩ := hab1 (by rw [hRW.2.1, t64]; omega)
          replace ra : a = 1 := ra
          replace rb : β = α := rb
          subst ra
          subst rb
          refine ws_i (fun z => absurd z (by decide)) (fun _ => ws_l (ws_l (ws_l ?_)))
          rw [e201, hval]
          rw [if_neg (fun z => by have := il_le z; rw [t64] at this; omega)] at e
          unfold f_X12_takesMarks_J48 at e
          replace e := ms_bE e
          obtain ⟨σ9, e9, e⟩ := e
          have h9 := v_must1 n σ8 1 6 (by decide) σ9 e9
          subst h9
          rw [if_pos (by rw [q6]; decide)] at e
          replace e := ms_gE e
          obtain ⟨-, e⟩ := e
          rw [cl_n hv, hval2] at e
          replace e := ms_lE rfl (ms_lE rfl e)
          replace e := ms_bE e
          obtain ⟨σ15, e15, e⟩ := e
          refine ws_b (k_rput n hRW h64 V) (fun γ hγ => ws_l ?_)
          obtain ⟨hRγ, hef⟩ := hγ
          have hSγ := RSH_R hS hef.1
          have eI : ∀ φ, 350 ≤ φ → φ ≤ 356 → hp_I γ φ (hp_R β 200 rd) = hp_I β φ (hp_R β 200 rd) := fun φ h1 h2 => hef.2.2.2.2.1 φ _ (fun z => by omega)
          have e24 : ∀ b j, hp_E γ 24 b j = hp_E β 24 b j := fun b j => hef.2.2.2.2.2 24 b j (fun z => absurd z.1 (by decide))
          have hTγ : TOK γ rd (ms_sE σ9 44 xl.length V) t N q := TOK_m (wI := []) (wE := [44]) (TOK_e hT hef.1 hef.2.1 e24 eI) (fr_sE (by decide)) (by decide) (by decide) rfl
          obtain ⟨hP, hg⟩ := r_reads n hTγ hqN σ15 e15
          have e200 : hp_R γ 200 rd = rd + 1 := hSγ.1.1
          refine ws_b (r_adv n hn hP) (fun δ hδ => ws_l ?_)
          obtain ⟨hTδ, hfδ, hkδ⟩ := hδ
          rw [e200] at hfδ
          have hfr : rfr rd β δ := rfr_tr (rfr_ef hS hef) (rfr_rdf hfδ)
          have hRδ : RWL δ (rd + 3) (xl ++ [V]) := ⟨hRγ.1, by rw [hkδ 301 (by decide)]; exact hRγ.2.1, fun k hk => by rw [hfδ.1, hfδ.2.2.2.2.1]; exact hRγ.2.2 k hk⟩
          have h40 : ms_E σ15 40 = ms_E σ9 40 := by
            funext j
            rw [hg.2 40 (by decide) j, mE_sE, if_neg (fun z => absurd z.1 (by decide))]
          have hk1 : (kI + 1).toInt = (xl.length : Int) + 1 := by rw [iw_add, lt1]; omega
          have hlen : (xl ++ [V]).length = xl.length + 1 := by rw [List.length_append, List.length_singleton]
          have hK2 : MKR δ rd σ15 (kI + 1) (xl ++ [V]) := by
            refine ⟨hRδ, by rw [hk1, hlen]; omega, fun j hj => ?_⟩
            rw [hlen] at hj
            rw [hg.2 44 (by decide) j, mE_sE]
            by_cases ej : j = xl.length
            · rw [if_pos ⟨rfl, ej⟩, ej, List.getElem?_append_right (Nat.le_refl _), Nat.sub_self]; rfl
            · rw [if_neg (fun z => ej z.2), List.getElem?_append_left (by omega)]
              exact h44 j (by omega)
          have e203 : hp_I δ 203 rd = ms_E σ15 40 1 := by
            rw [hkδ 203 (by decide), h40, hef.2.2.2.2.1 203 rd (fun z => absurd z.2 (by decide))]; exact hM
          have hq2 : q < tkP t N (tkN t N q) := by
            have h1 := (tkN_le t hqN).1
            have h2 : tkN t N q ≤ tkP t N (tkN t N q) := (ru_le isB t _ _).1
            omega
          refine ws_m (ih δ σ15 (xl ++ [V]) _ (kI + 1) (kI + 1) d2 (RSH_R hSγ hfδ.1) hTδ hK2 e203 (by rw [h40]; exact hC) rfl (by rw [hlen]; omega) e) (fun a ha => ?_)
          obtain ⟨g1, g2, g3⟩ := ha
          refine ⟨rfr_tr hfr g1, fr_tr (fr_sE (by decide)) (fr_tr (rgm_rg hg) g2), ?_⟩
          rcases g3 with ⟨r1, ⟨p, hp, hP2⟩, r3, r4⟩ | r
          · refine Or.inl ⟨r1, ⟨p, by omega, hP2⟩, r3, fun φ hφ => ?_⟩
            rw [r4 φ hφ, hkδ φ hφ, hef.2.2.2.2.1 φ rd (fun z => by omega)]
          · exact Or.inr r
        · obtain ⟨ra, rb, rc⟩ := hab2 (by rw [hRW.2.1, t64]; omega)
          replace ra : a = 0 := ra
          subst ra
          refine ws_i (fun _ => ws_s ?_) (fun z => absurd rfl z)
          rw [if_pos (by rw [Int32.le_iff_toInt_le, t64]; omega)] at e
          unfold f_X12_takesMarks_J48 at e
          replace e := ms_bE e
          obtain ⟨σ9, e9, e⟩ := e
          obtain ⟨u1, u2, u3⟩ := v_mustk n q6 6 (by decide) σ9 e9
          rw [if_neg (fun z => by rw [u1] at z; exact absurd z (by decide))] at e
          cases e
          exact ⟨rfr_rdf rb, rgm_rg u3, Or.inr ⟨rfl, rc σ9 u1 u2⟩⟩
      · have hb0 : b' = 0 := by
          rcases hbo with ⟨-, g⟩ | ⟨g, -⟩
          · exact absurd g.2 (by omega)
          · exact g
        subst hb0
        obtain ⟨u1, u2, u3⟩ := v_mustk n q6 3 (by decide) σ8 e8
        have hpos : 0 < (ms_I σ8 670).toInt := by rw [u1]; decide
        have hr2 : res.2 = σ8 := by
          by_cases h64 : (64 : Int32) ≤ kI
          · rw [if_pos h64] at e; exact hend 0 σ8 hpos e
          · rw [if_neg h64] at e; exact hend 1 σ8 hpos e
        refine ws_hc (k_fail n α rd 3) (fun r γ hr => ?_)
        obtain ⟨g1, g2, g3, g4⟩ := hr
        rw [eR] at g4
        refine ws_z (Or.inl g1) (ws_s ⟨rfr_rdf g4, by rw [hr2]; exact rgm_rg u3, Or.inr ⟨g1, ?_⟩⟩)
        rw [hr2]
        refine ⟨hpos, by rw [u1]; exact g2, ?_⟩
        show hp_I γ 205 rd = _
        rw [g3, u2]
        exact Int32.toInt_inj.mp (by rw [q3.1, q5.1])
    · refine ws_i (fun z => absurd (h353.symm.trans z) hs) (fun _ => ?_)
      rw [if_neg (fun z => hs (q5.2.1.symm.trans z))] at e
      unfold f_X12_takesMarks_J82 at e
      replace e := ms_bE e
      obtain ⟨σ4, e4, e⟩ := e
      cases e
      refine ws_m (r_end110 n hT eR) (fun a ha => ?_)
      obtain ⟨g1, g2, g3⟩ := ha σ4 e4
      refine ⟨rfr_rdf g1, rgm_rg g2, ?_⟩
      rcases g3 with ⟨r1, r2, r3⟩ | r
      · refine Or.inl ⟨r1, r2, ⟨xl, ?_⟩, fun φ _ => by rw [r3]⟩
        rw [r3]
        exact ⟨hRW, hv, fun j hj => by rw [g2.2 44 (by decide) j]; exact h44 j hj⟩
      · exact Or.inr r
theorem r_row (n : Nat) (hn : 70000 ≤ n) {α : hp_T} {rd : Nat} {σ : ms_T} {t : Nat → Int32} {N p : Nat} (hS : RSH α rd) (h : PRE α rd σ t N p) (hM : hp_I α 203 rd = ms_E σ 40 1) (hC : rC (ms_E σ 40)) (hr : 0 ≤ (hp_I α 301 (rd + 3)).toInt ∧ (hp_I α 301 (rd + 3)).toInt ≤ 64) (res : Int32 × ms_T) (e : f_X12_takesMarks n σ = some res) :
    ws (f_X3_readRow n α rd) (fun a => ROUT α rd σ t N p a res) := by
  unfold f_X12_takesMarks at e
  replace e := ms_bE e
  obtain ⟨τ, e1, e⟩ := e
  have eR : hp_R α 200 rd = rd + 1 := hS.1.1
  unfold f_X3_readRow
  refine ws_hc (r_word n hn h 11 (by decide) 11 (by decide)) (fun a β hab => ?_)
  obtain ⟨hf, hg, hc⟩ := hab τ e1
  rw [eR] at hf
  rcases hc with ⟨ra, ⟨p2, hlt, hP2⟩, hk⟩ | ⟨ra, hB⟩
  · replace ra : a = 1 := ra
    subst ra
    rw [if_neg (by decide)]
    have hSβ := RSH_R hS hf.1
    refine ws_l ?_
    rw [hSβ.2.1]
    obtain ⟨l, hl⟩ := RWL_any (α := β) (a := rd + 3) (by rw [hf.2.2.2.2.2 301 (rd + 3) (fun z => by omega) (fun z => by omega)]; exact hr.1) (by rw [hf.2.2.2.2.2 301 (rd + 3) (fun z => by omega) (fun z => by omega)]; exact hr.2)
    refine ws_b (k_rshort n hl 0 (Nat.zero_le _) 0 (by decide)) (fun γ hγ => ws_l ?_)
    obtain ⟨hRγ, hef⟩ := hγ
    rw [List.take_zero] at hRγ
    have hSγ := RSH_R hSβ hef.1
    have e200β : hp_R β 200 rd = rd + 1 := hSβ.1.1
    have e200 : hp_R γ 200 rd = rd + 1 := hSγ.1.1
    have hPγ : PRE γ rd τ t N p2 := PRE_e hP2 hef.1 hef.2.1 (fun b j => hef.2.2.2.2.2 24 b j (fun z => absurd z.1 (by decide))) (fun φ h1 h2 => hef.2.2.2.2.1 φ _ (fun z => by omega))
    refine ws_b (r_adv n hn hPγ) (fun δ hδ => ?_)
    obtain ⟨hTδ, hfδ, hkδ⟩ := hδ
    rw [e200] at hfδ
    have h40 : ms_E τ 40 = ms_E σ 40 := funext (hg.2 40 (by decide))
    have hfr : rfr rd α δ := rfr_tr (rfr_rdf hf) (rfr_tr (rfr_ef hSβ hef) (rfr_rdf hfδ))
    have hRδ : RWL δ (rd + 3) [] := ⟨by decide, by rw [hkδ 301 (by decide)]; exact hRγ.2.1, fun k hk => absurd hk (by simp)⟩
    have hkk : ∀ φ, φ < 350 → hp_I δ φ rd = hp_I α φ rd := fun φ hφ => by
      rw [hkδ φ hφ, hef.2.2.2.2.1 φ rd (fun z => by omega), hk φ hφ]
    have hq2 : p2 ≤ tkP t N p2 := (ru_le isB t _ _).1
    refine ws_m (r_row_L n hn rd t N res n δ τ [] _ 0 0 n (RSH_R hSγ hfδ.1) hTδ ⟨hRδ, rfl, fun j hj => absurd hj (by simp)⟩ (by rw [hkk 203 (by decide), h40]; exact hM) (by rw [h40]; exact hC) rfl (by simp; omega) e) (fun b hb => ?_)
    obtain ⟨g1, g2, g3⟩ := hb
    refine ⟨rfr_tr hfr g1, fr_tr (rgm_rg hg) g2, ?_⟩
    rcases g3 with ⟨r1, ⟨p3, hp3, hP3⟩, r3, r4⟩ | r
    · exact Or.inl ⟨r1, ⟨p3, by omega, hP3⟩, r3, fun φ hφ => (r4 φ hφ).trans (hkk φ hφ)⟩
    · exact Or.inr r
  · replace ra : a = 0 := ra
    subst ra
    rw [if_pos rfl]
    have hb := v_marksL_B n n τ 0 hB.1 res e
    exact ws_s ⟨rfr_rdf hf, rgm_rg (rg_tr hg hb.2.2), Or.inr ⟨rfl, BAD_B hB hb⟩⟩
end JN9_6
section JN9_7
set_option maxRecDepth 100000
theorem bI_8 (n : Nat) (σh8 : ms_T) (rh2 rh4 rh6 rh8 : Int32) (h : 0 < (ms_I σh8 670).toInt) : pr (ms_c (f_X12_takesMarks n σh8) fun rh9 σh9 => if (ms_I σh9 670) ≤ 0 then ms_c (f_X12_whyIn n σh9 rh9 rh6 rh2 rh4 rh8) fun rh11 σh11 => some (rh11, σh11) else some ((0 : Int32), σh9)) (fun z => z.1 = 0 ∧ BB σh8 z.2) :=
  pr_c (v_takesMarks_B n σh8 h) (fun a τ hτ => pr_le (fun z => by have := BBp (τ := τ) hτ h; rw [lt0] at z; omega) (fun _ => pr_s ⟨rfl, hτ⟩))
theorem bI_7 (n : Nat) (σh7 : ms_T) (rh2 rh4 rh6 : Int32) (h : 0 < (ms_I σh7 670).toInt) : pr (ms_c (f_X12_takesMark n σh7) fun rh8 σh8 => ms_c (f_X12_takesMarks n σh8) fun rh9 σh9 => if (ms_I σh9 670) ≤ 0 then ms_c (f_X12_whyIn n σh9 rh9 rh6 rh2 rh4 rh8) fun rh11 σh11 => some (rh11, σh11) else some ((0 : Int32), σh9)) (fun z => z.1 = 0 ∧ BB σh7 z.2) :=
  pr_c (v_takesMark_B n σh7 h) (fun a τ hτ => pr_m (bI_8 n τ rh2 rh4 rh6 a (BBp hτ h)) (fun z hz => ⟨hz.1, BB_tr hτ hz.2⟩))
theorem bI_6 (n : Nat) (σh6 : ms_T) (rh2 rh4 rh6 : Int32) (h : 0 < (ms_I σh6 670).toInt) : pr (ms_b (f_X12_takes n σh6 (10 : Int32)) fun σh7 => ms_c (f_X12_takesMark n σh7) fun rh8 σh8 => ms_c (f_X12_takesMarks n σh8) fun rh9 σh9 => if (ms_I σh9 670) ≤ 0 then ms_c (f_X12_whyIn n σh9 rh9 rh6 rh2 rh4 rh8) fun rh11 σh11 => some (rh11, σh11) else some ((0 : Int32), σh9)) (fun z => z.1 = 0 ∧ BB σh6 z.2) :=
  pr_b (v_takes_B n σh6 _ h) (fun τ hτ => pr_m (bI_7 n τ rh2 rh4 rh6 (BBp hτ h)) (fun z hz => ⟨hz.1, BB_tr hτ hz.2⟩))
theorem bI_5 (n : Nat) (σh5 : ms_T) (rh2 rh4 : Int32) (h : 0 < (ms_I σh5 670).toInt) : pr (ms_c (f_X12_takesMark n σh5) fun rh6 σh6 => ms_b (f_X12_takes n σh6 (10 : Int32)) fun σh7 => ms_c (f_X12_takesMark n σh7) fun rh8 σh8 => ms_c (f_X12_takesMarks n σh8) fun rh9 σh9 => if (ms_I σh9 670) ≤ 0 then ms_c (f_X12_whyIn n σh9 rh9 rh6 rh2 rh4 rh8) fun rh11 σh11 => some (rh11, σh11) else some ((0 : Int32), σh9)) (fun z => z.1 = 0 ∧ BB σh5 z.2) :=
  pr_c (v_takesMark_B n σh5 h) (fun a τ hτ => pr_m (bI_6 n τ rh2 rh4 a (BBp hτ h)) (fun z hz => ⟨hz.1, BB_tr hτ hz.2⟩))
theorem bI_4 (n : Nat) (σh4 : ms_T) (rh2 rh4 : Int32) (h : 0 < (ms_I σh4 670).toInt) : pr (ms_b (f_X12_takes n σh4 (9 : Int32)) fun σh5 => ms_c (f_X12_takesMark n σh5) fun rh6 σh6 => ms_b (f_X12_takes n σh6 (10 : Int32)) fun σh7 => ms_c (f_X12_takesMark n σh7) fun rh8 σh8 => ms_c (f_X12_takesMarks n σh8) fun rh9 σh9 => if (ms_I σh9 670) ≤ 0 then ms_c (f_X12_whyIn n σh9 rh9 rh6 rh2 rh4 rh8) fun rh11 σh11 => some (rh11, σh11) else some ((0 : Int32), σh9)) (fun z => z.1 = 0 ∧ BB σh4 z.2) :=
  pr_b (v_takes_B n σh4 _ h) (fun τ hτ => pr_m (bI_5 n τ rh2 rh4 (BBp hτ h)) (fun z hz => ⟨hz.1, BB_tr hτ hz.2⟩))
theorem bI_3 (n : Nat) (σh3 : ms_T) (rh2 : Int32) (h : 0 < (ms_I σh3 670).toInt) : pr (ms_c (f_X12_takesNumber n σh3 (rh2 + (1 : Int32)) (99999 : Int32)) fun rh4 σh4 => ms_b (f_X12_takes n σh4 (9 : Int32)) fun σh5 => ms_c (f_X12_takesMark n σh5) fun rh6 σh6 => ms_b (f_X12_takes n σh6 (10 : Int32)) fun σh7 => ms_c (f_X12_takesMark n σh7) fun rh8 σh8 => ms_c (f_X12_takesMarks n σh8) fun rh9 σh9 => if (ms_I σh9 670) ≤ 0 then ms_c (f_X12_whyIn n σh9 rh9 rh6 rh2 rh4 rh8) fun rh11 σh11 => some (rh11, σh11) else some ((0 : Int32), σh9)) (fun z => z.1 = 0 ∧ BB σh3 z.2) :=
  pr_c (v_takesNumber_B n σh3 _ _ h) (fun a τ hτ => pr_m (bI_4 n τ rh2 a (BBp hτ h)) (fun z hz => ⟨hz.1, BB_tr hτ hz.2⟩))
theorem bI_2 (n : Nat) (σh2 : ms_T) (rh2 : Int32) (h : 0 < (ms_I σh2 670).toInt) : pr (ms_b (f_X12_takes n σh2 (8 : Int32)) fun σh3 => ms_c (f_X12_takesNumber n σh3 (rh2 + (1 : Int32)) (99999 : Int32)) fun rh4 σh4 => ms_b (f_X12_takes n σh4 (9 : Int32)) fun σh5 => ms_c (f_X12_takesMark n σh5) fun rh6 σh6 => ms_b (f_X12_takes n σh6 (10 : Int32)) fun σh7 => ms_c (f_X12_takesMark n σh7) fun rh8 σh8 => ms_c (f_X12_takesMarks n σh8) fun rh9 σh9 => if (ms_I σh9 670) ≤ 0 then ms_c (f_X12_whyIn n σh9 rh9 rh6 rh2 rh4 rh8) fun rh11 σh11 => some (rh11, σh11) else some ((0 : Int32), σh9)) (fun z => z.1 = 0 ∧ BB σh2 z.2) :=
  pr_b (v_takes_B n σh2 _ h) (fun τ hτ => pr_m (bI_3 n τ rh2 (BBp hτ h)) (fun z hz => ⟨hz.1, BB_tr hτ hz.2⟩))
theorem bG_8 (n : Nat) (σh8 : ms_T) (rh2 rh4 rh6 rh8 : Int32) (h : 0 < (ms_I σh8 670).toInt) : pr (ms_c (f_X12_takesMarks n σh8) fun rh9 σh9 => if (ms_I σh9 670) ≤ 0 then ms_c (f_X12_whyGrown n σh9 rh9 rh2 rh4 rh6 rh8) fun rh11 σh11 => some (rh11, σh11) else some ((0 : Int32), σh9)) (fun z => z.1 = 0 ∧ BB σh8 z.2) :=
  pr_c (v_takesMarks_B n σh8 h) (fun a τ hτ => pr_le (fun z => by have := BBp (τ := τ) hτ h; rw [lt0] at z; omega) (fun _ => pr_s ⟨rfl, hτ⟩))
theorem bG_7 (n : Nat) (σh7 : ms_T) (rh2 rh4 rh6 : Int32) (h : 0 < (ms_I σh7 670).toInt) : pr (ms_c (f_X12_takesMark n σh7) fun rh8 σh8 => ms_c (f_X12_takesMarks n σh8) fun rh9 σh9 => if (ms_I σh9 670) ≤ 0 then ms_c (f_X12_whyGrown n σh9 rh9 rh2 rh4 rh6 rh8) fun rh11 σh11 => some (rh11, σh11) else some ((0 : Int32), σh9)) (fun z => z.1 = 0 ∧ BB σh7 z.2) :=
  pr_c (v_takesMark_B n σh7 h) (fun a τ hτ => pr_m (bG_8 n τ rh2 rh4 rh6 a (BBp hτ h)) (fun z hz => ⟨hz.1, BB_tr hτ hz.2⟩))
theorem bG_6 (n : Nat) (σh6 : ms_T) (rh2 rh4 rh6 : Int32) (h : 0 < (ms_I σh6 670).toInt) : pr (ms_b (f_X12_takes n σh6 (10 : Int32)) fun σh7 => ms_c (f_X12_takesMark n σh7) fun rh8 σh8 => ms_c (f_X12_takesMarks n σh8) fun rh9 σh9 => if (ms_I σh9 670) ≤ 0 then ms_c (f_X12_whyGrown n σh9 rh9 rh2 rh4 rh6 rh8) fun rh11 σh11 => some (rh11, σh11) else some ((0 : Int32), σh9)) (fun z => z.1 = 0 ∧ BB σh6 z.2) :=
  pr_b (v_takes_B n σh6 _ h) (fun τ hτ => pr_m (bG_7 n τ rh2 rh4 rh6 (BBp hτ h)) (fun z hz => ⟨hz.1, BB_tr hτ hz.2⟩))
theorem bG_5 (n : Nat) (σh5 : ms_T) (rh2 rh4 : Int32) (h : 0 < (ms_I σh5 670).toInt) : pr (ms_c (f_X12_takesNumber n σh5 rh2 (99999 : Int32)) fun rh6 σh6 => ms_b (f_X12_takes n σh6 (10 : Int32)) fun σh7 => ms_c (f_X12_takesMark n σh7) fun rh8 σh8 => ms_c (f_X12_takesMarks n σh8) fun rh9 σh9 => if (ms_I σh9 670) ≤ 0 then ms_c (f_X12_whyGrown n σh9 rh9 rh2 rh4 rh6 rh8) fun rh11 σh11 => some (rh11, σh11) else some ((0 : Int32), σh9)) (fun z => z.1 = 0 ∧ BB σh5 z.2) :=
  pr_c (v_takesNumber_B n σh5 _ _ h) (fun a τ hτ => pr_m (bG_6 n τ rh2 rh4 a (BBp hτ h)) (fun z hz => ⟨hz.1, BB_tr hτ hz.2⟩))
theorem bG_4 (n : Nat) (σh4 : ms_T) (rh2 rh4 : Int32) (h : 0 < (ms_I σh4 670).toInt) : pr (ms_b (f_X12_takes n σh4 (2 : Int32)) fun σh5 => ms_c (f_X12_takesNumber n σh5 rh2 (99999 : Int32)) fun rh6 σh6 => ms_b (f_X12_takes n σh6 (10 : Int32)) fun σh7 => ms_c (f_X12_takesMark n σh7) fun rh8 σh8 => ms_c (f_X12_takesMarks n σh8) fun rh9 σh9 => if (ms_I σh9 670) ≤ 0 then ms_c (f_X12_whyGrown n σh9 rh9 rh2 rh4 rh6 rh8) fun rh11 σh11 => some (rh11, σh11) else some ((0 : Int32), σh9)) (fun z => z.1 = 0 ∧ BB σh4 z.2) :=
  pr_b (v_takes_B n σh4 _ h) (fun τ hτ => pr_m (bG_5 n τ rh2 rh4 (BBp hτ h)) (fun z hz => ⟨hz.1, BB_tr hτ hz.2⟩))
theorem bG_3 (n : Nat) (σh3 : ms_T) (rh2 : Int32) (h : 0 < (ms_I σh3 670).toInt) : pr (ms_c (f_X12_takesMark n σh3) fun rh4 σh4 => ms_b (f_X12_takes n σh4 (2 : Int32)) fun σh5 => ms_c (f_X12_takesNumber n σh5 rh2 (99999 : Int32)) fun rh6 σh6 => ms_b (f_X12_takes n σh6 (10 : Int32)) fun σh7 => ms_c (f_X12_takesMark n σh7) fun rh8 σh8 => ms_c (f_X12_takesMarks n σh8) fun rh9 σh9 => if (ms_I σh9 670) ≤ 0 then ms_c (f_X12_whyGrown n σh9 rh9 rh2 rh4 rh6 rh8) fun rh11 σh11 => some (rh11, σh11) else some ((0 : Int32), σh9)) (fun z => z.1 = 0 ∧ BB σh3 z.2) :=
  pr_c (v_takesMark_B n σh3 h) (fun a τ hτ => pr_m (bG_4 n τ rh2 a (BBp hτ h)) (fun z hz => ⟨hz.1, BB_tr hτ hz.2⟩))
theorem bG_2 (n : Nat) (σh2 : ms_T) (rh2 : Int32) (h : 0 < (ms_I σh2 670).toInt) : pr (ms_b (f_X12_takes n σh2 (9 : Int32)) fun σh3 => ms_c (f_X12_takesMark n σh3) fun rh4 σh4 => ms_b (f_X12_takes n σh4 (2 : Int32)) fun σh5 => ms_c (f_X12_takesNumber n σh5 rh2 (99999 : Int32)) fun rh6 σh6 => ms_b (f_X12_takes n σh6 (10 : Int32)) fun σh7 => ms_c (f_X12_takesMark n σh7) fun rh8 σh8 => ms_c (f_X12_takesMarks n σh8) fun rh9 σh9 => if (ms_I σh9 670) ≤ 0 then ms_c (f_X12_whyGrown n σh9 rh9 rh2 rh4 rh6 rh8) fun rh11 σh11 => some (rh11, σh11) else some ((0 : Int32), σh9)) (fun z => z.1 = 0 ∧ BB σh2 z.2) :=
  pr_b (v_takes_B n σh2 _ h) (fun τ hτ => pr_m (bG_3 n τ rh2 (BBp hτ h)) (fun z hz => ⟨hz.1, BB_tr hτ hz.2⟩))
def FWH : List Nat := [657, 658, 659, 660, 670, 671, 672, 673, 674, 675]
def FEH : List Nat := [42, 43, 44]
theorem frg {σ τ : ms_T} (h : rg σ τ) : fr FWH FEH σ τ := fr_sb h (by decide) (by decide)
theorem frgm {σ τ : ms_T} (h : rgm σ τ) : fr FWH FEH σ τ := fr_sb h (by decide) (by decide)
def hfr (rd w : Nat) (α β : hp_T) : Prop := hp_R β = hp_R α ∧ hp_K β = hp_K α ∧ hp_Q β = hp_Q α ∧ hp_N β = hp_N α ∧ (∀ φ b, ¬ (φ = 301 ∧ b = w) → (b < rd ∨ rd + 11 ≤ b) → hp_I β φ b = hp_I α φ b) ∧ ∀ κ b j, ¬ (κ = 20 ∧ b = w + 1) → (b < rd ∨ rd + 11 ≤ b) → hp_E β κ b j = hp_E α κ b j
theorem hfr_rf {rd w : Nat} {α : hp_T} : hfr rd w α α := ⟨rfl, rfl, rfl, rfl, fun _ _ _ _ => rfl, fun _ _ _ _ _ => rfl⟩
theorem hfr_tr {rd w : Nat} {α β γ : hp_T} (h : hfr rd w α β) (g : hfr rd w β γ) : hfr rd w α γ := by
  obtain ⟨h1, h2, h3, h4, h5, h6⟩ := h
  obtain ⟨g1, g2, g3, g4, g5, g6⟩ := g
  exact ⟨g1.trans h1, g2.trans h2, g3.trans h3, g4.trans h4, fun φ b q r => (g5 φ b q r).trans (h5 φ b q r), fun κ b j q r => (g6 κ b j q r).trans (h6 κ b j q r)⟩
theorem hfr_r {rd w : Nat} {α β : hp_T} (h : rfr rd α β) : hfr rd w α β := ⟨h.1, h.2.1, h.2.2.1, h.2.2.2.1, fun φ b _ r => h.2.2.2.2.1 φ b r, fun κ b j _ r => h.2.2.2.2.2 κ b j r⟩
theorem hfr_ef {rd w : Nat} {α β : hp_T} (h : ef w α β) (h3 : hp_R α 300 w = w + 1) : hfr rd w α β := by
  obtain ⟨h1, h2, h3', h4, h5, h6⟩ := h
  exact ⟨h1, h2, h3', h4, fun φ b q _ => h5 φ b (fun z => q ⟨z.2, z.1⟩), fun κ b j q _ => h6 κ b j (fun z => q ⟨z.1, by rw [z.2, h3]⟩)⟩
theorem RWL_rfr {α β : hp_T} {rd w : Nat} {l : List Int32} (h : RWL α w l) (f : rfr rd α β) (h3 : hp_R α 300 w = w + 1) (hw : w + 2 ≤ rd) : RWL β w l :=
  ⟨h.1, by rw [f.2.2.2.2.1 301 w (by omega)]; exact h.2.1, fun k hk => by rw [f.1, f.2.2.2.2.2 20 _ k (by omega)]; exact h.2.2 k hk⟩
theorem WIN_h (m : Int32) {xs ys : Nat → Int32} (c : Nat) (mark : Int32) (i N : Nat) (head : Int32) (h : ∀ j, j < c → xs j = ys j) : WIN m xs c mark i N head = WIN m ys c mark i N head := by
  unfold WIN
  by_cases h1 : c < (wyT 31 i 0 N).length
  · rw [if_pos h1, if_pos h1]
  · rw [if_neg h1, if_neg h1]
    by_cases h2 : (wyT 31 i 0 N).length < c
    · rw [if_pos h2, if_pos h2]
    · rw [if_neg h2, if_neg h2, fwd_c m _ _ _ (fun j _ hj => h j (by rw [List.length_reverse] at hj; omega))]
theorem v_whyIn_fr (n : Nat) (σ : ms_T) (cI mark head : Int32) (i N : Nat) (iI NI : Int32) (hi : iI.toInt = (i : Int)) (hN : NI.toInt = (N : Int)) (hiN : i < N) : pr (f_X12_whyIn n σ cI mark iI NI head) (fun res => fr [657, 658] [42, 43] σ res.2) := by
  unfold f_X12_whyIn f_X12_whyIn_J36 f_X12_whyIn_J41
  have hy : ∀ (τ : ms_T) (a b c : Int32), fr [657, 658] [42, 43] σ τ → pr (ms_b (f_X12_why n τ a b c) fun r => some (r, τ)) (fun res => fr [657, 658] [42, 43] σ res.2) := fun τ a b c h => pr_b pr_any (fun _ _ => pr_s h)
  refine pr_b (v_incl_fr n σ iI NI) (fun τ hτ => pr_l ?_)
  have h1 : fr [657, 658] [42, 43] σ τ := fr_sb hτ (by decide) (by decide)
  refine pr_i (fun _ => pr_c (v_folded n τ mark i N iI NI hi hN hiN) (fun v υ hυ => ?_)) (fun _ => hy τ _ _ _ h1)
  have h2 : fr [657, 658] [42, 43] σ υ := fr_tr h1 (fr_sb hυ.2 (by decide) (by decide))
  exact pr_i (fun _ => hy υ _ _ _ h2) (fun _ => hy υ _ _ _ h2)
def STO (rd w : Nat) (wl : List Int32) (α : hp_T) (σ : ms_T) (t : Nat → Int32) (N q : Nat) (a : Int32 × hp_T) (res : Int32 × ms_T) : Prop := hfr rd w α a.2 ∧ fr FWH FEH σ res.2 ∧ ((a.1 = 1 ∧ (∃ p, q < p ∧ PRE a.2 rd res.2 t N p) ∧ RWL a.2 w (wl ++ [res.1]) ∧ (∀ φ, φ < 350 → φ ≠ 209 → hp_I a.2 φ rd = hp_I α φ rd) ∧ 0 ≤ (hp_I a.2 301 (rd + 3)).toInt ∧ (hp_I a.2 301 (rd + 3)).toInt ≤ 64) ∨ (a.1 = 0 ∧ res.1 = 0 ∧ BAD a.2 rd res.2))
theorem tMx : (2147483647 : Int32).toInt = 2147483647 := by decide
theorem t99k : (99999 : Int32).toInt = 99999 := by decide
theorem mkD {σ : ms_T} {yl : List Int32} (h : ∀ j, j < yl.length → some (ms_E σ 44 j) = yl[j]?) : ∀ j, j < yl.length → ms_E σ 44 j = yl.getD j 0 := fun j hj => by
  rw [List.getD_eq_getElem?_getD, ← h j hj]; rfl
theorem r_statIn (n : Nat) (hn : 70000 ≤ n) {α : hp_T} {rd w : Nat} {wl : List Int32} {σ : ms_T} {t : Nat → Int32} {N q : Nat} (hS : RSH α rd) (hT : TOK α rd σ t N q) (hqN : q < N) (hM : hp_I α 203 rd = ms_E σ 40 1) (hC : rC (ms_E σ 40)) (hr : 0 ≤ (hp_I α 301 (rd + 3)).toInt ∧ (hp_I α 301 (rd + 3)).toInt ≤ 64) (hw : w + 2 ≤ rd) (hw3 : hp_R α 300 w = w + 1) (hW : RWL α w wl) (hwl : wl.length < 64) (res : Int32 × ms_T) (e : f_X12_statementIn n σ = some res) :
    ws (f_X3_readInclusion n α rd w) (fun a => STO rd w wl α σ t N q a res) := by
  have hm := hC.2.1
  have eR : hp_R α 200 rd = rd + 1 := hS.1.1
  unfold f_X12_statementIn at e
  replace e := ms_bE e
  obtain ⟨σ1, e1, e⟩ := e
  obtain ⟨hP1, hg1⟩ := r_reads n hT hqN σ1 e1
  have c1 : ms_E σ1 40 = ms_E σ 40 := funext (hg1.2 40 (by decide))
  replace e := ms_cE e
  obtain ⟨i, σ2, e2, e⟩ := e
  have hq1 := (tkN_le t hqN).1
  unfold f_X3_readInclusion
  have hbad : ∀ (β : hp_T) (τ : ms_T), rfr rd α β → fr FWH FEH σ τ → BAD β rd τ → (res.1 = 0 ∧ BB τ res.2) → ws (some ((0 : Int32), β)) (fun a => STO rd w wl α σ t N q a res) := fun β τ hf hg hB hb => ws_s ⟨hfr_r hf, fr_tr hg (frg hb.2.2.2), Or.inr ⟨rfl, hb.1, BAD_B hB hb.2⟩⟩
  refine ws_hc (r_number n hn hP1 0 2147483647 0 99999 (fun v h0 h1 => by rw [lt0, tMx, t99k]; omega)) (fun a β hab => ?_)
  obtain ⟨hf2, hg2, hc2⟩ := hab _ e2
  rw [eR] at hf2
  have F2 : rfr rd α β := rfr_rdf hf2
  have g2 : rg σ σ2 := rg_tr hg1 hg2
  have c2 : ms_E σ2 40 = ms_E σ 40 := funext (g2.2 40 (by decide))
  rcases hc2 with ⟨ra, ⟨p2, hl2, hP2⟩, ev2, a0, a1, -, -, hk2⟩ | ⟨ra, hB⟩
  rotate_left
  · replace ra : a = 0 := ra
    subst ra
    rw [if_pos rfl]
    exact hbad β σ2 F2 (frg g2) hB (bI_2 n σ2 i hB.1 res e)
  replace ra : a = 1 := ra
  subst ra
  rw [if_neg (by decide)]
  refine ws_l ?_
  replace ev2 : hp_I β 209 rd = i := ev2
  replace a0 : 0 ≤ i.toInt := a0
  replace a1 : i.toInt ≤ 99999 := a1
  rw [ev2]
  replace e := ms_bE e
  obtain ⟨σ3, e3, e⟩ := e
  have eR2 : hp_R β 200 rd = rd + 1 := by rw [F2.1]; exact eR
  refine ws_hc (r_word n hn hP2 8 (by decide) 8 (by decide)) (fun a γ h3 => ?_)
  obtain ⟨hf3, hg3, hc3⟩ := h3 _ e3
  rw [eR2] at hf3
  have F3 : rfr rd α γ := rfr_tr F2 (rfr_rdf hf3)
  have g3 : rg σ σ3 := rg_tr g2 hg3
  rcases hc3 with ⟨ra, ⟨p3, hl3, hP3⟩, hk3⟩ | ⟨ra, hB⟩
  rotate_left
  · replace ra : a = 0 := ra
    subst ra
    rw [if_pos rfl]
    exact hbad γ σ3 F3 (frg g3) hB (bI_3 n σ3 i hB.1 res e)
  replace ra : a = 1 := ra
  subst ra
  rw [if_neg (by decide)]
  replace e := ms_cE e
  obtain ⟨NI, σ4, e4, e⟩ := e
  have eR3 : hp_R γ 200 rd = rd + 1 := by rw [F3.1]; exact eR
  refine ws_hc (r_number n hn hP3 (i + 1) 2147483647 (i + 1) 99999 (fun v h0 h1 => by rw [tMx, t99k]; omega)) (fun a δ h4 => ?_)
  obtain ⟨hf4, hg4, hc4⟩ := h4 _ e4
  rw [eR3] at hf4
  have F4 : rfr rd α δ := rfr_tr F3 (rfr_rdf hf4)
  have g4 : rg σ σ4 := rg_tr g3 hg4
  have c4 : ms_E σ4 40 = ms_E σ 40 := funext (g4.2 40 (by decide))
  rcases hc4 with ⟨ra, ⟨p4, hl4, hP4⟩, ev4, b0, b1, b2, -, hk4⟩ | ⟨ra, hB⟩
  rotate_left
  · replace ra : a = 0 := ra
    subst ra
    rw [if_pos rfl]
    exact hbad δ σ4 F4 (frg g4) hB (bI_4 n σ4 i NI hB.1 res e)
  replace ra : a = 1 := ra
  subst ra
  rw [if_neg (by decide)]
  refine ws_l ?_
  replace ev4 : hp_I δ 209 rd = NI := ev4
  replace b0 : 0 ≤ NI.toInt := b0
  replace b1 : NI.toInt ≤ 99999 := b1
  replace b2 : (i + 1).toInt ≤ NI.toInt := b2
  have hi1 : (i + 1).toInt = i.toInt + 1 := by rw [iw_add, lt1]; omega
  rw [ev4]
  replace e := ms_bE e
  obtain ⟨σ5, e5, e⟩ := e
  replace e := ms_cE e
  obtain ⟨mk, σ6, e6, e⟩ := e
  have k203 : hp_I δ 203 rd = ms_E σ4 40 1 := by
    rw [hk4 203 (by decide) (by decide), hk3 203 (by decide), hk2 203 (by decide) (by decide), c4]; exact hM
  refine ws_hc (r_mark n hn hP4 k203 (by rw [c4]; exact hC) 9 (by decide) 9 (by decide) e5 e6) (fun a ε h6 => ?_)
  obtain ⟨hf6, hg6, hc6⟩ := h6
  have eR4 : hp_R δ 200 rd = rd + 1 := by rw [F4.1]; exact eR
  rw [eR4] at hf6
  have F6 : rfr rd α ε := rfr_tr F4 (rfr_rdf hf6)
  have g6 : rg σ σ6 := rg_tr g4 hg6
  have c6 : ms_E σ6 40 = ms_E σ 40 := funext (g6.2 40 (by decide))
  rcases hc6 with ⟨ra, ⟨p6, hl6, hP6⟩, ev6, d0, d1, hk6⟩ | ⟨ra, hB⟩
  rotate_left
  · replace ra : a = 0 := ra
    subst ra
    rw [if_pos rfl]
    exact hbad ε σ6 F6 (frg g6) hB (bI_6 n σ6 i NI mk hB.1 res e)
  replace ra : a = 1 := ra
  subst ra
  rw [if_neg (by decide)]
  refine ws_l ?_
  replace ev6 : hp_I ε 209 rd = mk := ev6
  rw [ev6]
  replace e := ms_bE e
  obtain ⟨σ7, e7, e⟩ := e
  replace e := ms_cE e
  obtain ⟨hd, σ8, e8, e⟩ := e
  have k203b : hp_I ε 203 rd = ms_E σ6 40 1 := by
    rw [hk6 203 (by decide) (by decide), k203, c4, c6]
  refine ws_hc (r_mark n hn hP6 k203b (by rw [c6]; exact hC) 10 (by decide) 10 (by decide) e7 e8) (fun a ζ h8 => ?_)
  obtain ⟨hf8, hg8, hc8⟩ := h8
  have eR6 : hp_R ε 200 rd = rd + 1 := by rw [F6.1]; exact eR
  rw [eR6] at hf8
  have F8 : rfr rd α ζ := rfr_tr F6 (rfr_rdf hf8)
  have g8 : rg σ σ8 := rg_tr g6 hg8
  have c8 : ms_E σ8 40 = ms_E σ 40 := funext (g8.2 40 (by decide))
  rcases hc8 with ⟨ra, ⟨p8, hl8, hP8⟩, ev8, f0, f1, hk8⟩ | ⟨ra, hB⟩
  rotate_left
  · replace ra : a = 0 := ra
    subst ra
    rw [if_pos rfl]
    exact hbad ζ σ8 F8 (frg g8) hB (bI_8 n σ8 i NI mk hd hB.1 res e)
  replace ra : a = 1 := ra
  subst ra
  rw [if_neg (by decide)]
  replace ev8 : hp_I ζ 209 rd = hd := ev8
  replace e := ms_cE e
  obtain ⟨cI, σ9, e9, e⟩ := e
  have k203c : hp_I ζ 203 rd = ms_E σ8 40 1 := by
    rw [hk8 203 (by decide) (by decide), k203b, c6, c8]
  have k301 : hp_I ζ 301 (rd + 3) = hp_I α 301 (rd + 3) := by
    rw [hf8.2.2.2.2.2 301 (rd + 3) (fun z => by omega) (fun z => by omega), hf6.2.2.2.2.2 301 (rd + 3) (fun z => by omega) (fun z => by omega), hf4.2.2.2.2.2 301 (rd + 3) (fun z => by omega) (fun z => by omega), hf3.2.2.2.2.2 301 (rd + 3) (fun z => by omega) (fun z => by omega), hf2.2.2.2.2.2 301 (rd + 3) (fun z => by omega) (fun z => by omega)]
  have hSζ := RSH_R hS F8.1
  refine ws_hc (r_row n hn hSζ hP8 k203c (by rw [c8]; exact hC) (by rw [k301]; exact hr) (cI, σ9) e9) (fun a η h9 => ?_)
  obtain ⟨hf9, hg9, hc9⟩ := h9
  replace hf9 : rfr rd ζ η := hf9
  replace hg9 : rgm σ8 σ9 := hg9
  have F9 : rfr rd α η := rfr_tr F8 hf9
  have g9 : fr FWH FEH σ σ9 := fr_tr (frg g8) (frgm hg9)
  have c9 : ms_E σ9 40 = ms_E σ 40 := funext (g9.2 40 (by decide))
  rcases hc9 with ⟨ra, ⟨p9, hl9, hP9⟩, ⟨yl, hRy, hcy, h44⟩, hk9⟩ | ⟨ra, hB⟩
  rotate_left
  · replace ra : a = 0 := ra
    subst ra
    rw [if_pos rfl]
    replace hB : BAD η rd σ9 := hB
    have hp := hB.1
    rw [if_neg (fun z => by have := il_le z; rw [lt0] at this; omega)] at e
    cases e
    exact ws_s ⟨hfr_r F9, g9, Or.inr ⟨rfl, rfl, hB⟩⟩
  replace ra : a = 1 := ra
  subst ra
  rw [if_neg (by decide)]
  replace hP9 : PRE η rd σ9 t N p9 := hP9
  replace hcy : cI.toInt = (yl.length : Int) := hcy
  replace hRy : RWL η (rd + 3) yl := hRy
  replace hk9 : ∀ φ, φ < 350 → hp_I η φ rd = hp_I ζ φ rd := hk9
  rw [if_pos (by rw [hP9.2.2.2.2.2]; decide)] at e
  replace e := ms_cE e
  obtain ⟨rv, σx, ew, e⟩ := e
  cases e
  have hSη := RSH_R hSζ hf9.1
  refine ws_l ?_
  rw [hSη.2.2.2.1]
  refine ws_b (k_toThing n hn η (rd + 5) i NI a0 (by omega)) (fun θ hθ => ws_l (ws_l (ws_l (ws_l ?_))))
  obtain ⟨hWC, hwf⟩ := hθ
  have hSθ := RSH_R hSη hwf.1
  have i203 : hp_I θ 203 rd = ms_E σ 40 1 := by
    rw [hwf.2.2.2.2.1 203 rd (fun z => by omega), hk9 203 (by decide), k203c, c8]
  have i209 : hp_I θ 209 rd = hd := by
    rw [hwf.2.2.2.2.1 209 rd (fun z => by omega), hk9 209 (by decide)]; exact ev8
  rw [hSθ.2.2.2.1, hSθ.2.1, i203, i209]
  obtain ⟨hv, -⟩ := v_whyIn n σ9 yl.length cI hcy mk hd i.toInt.toNat NI.toInt.toNat i NI (by omega) (by omega) (by omega) _ ew
  have hvf := v_whyIn_fr n σ9 cI mk hd i.toInt.toNat NI.toInt.toNat i NI (by omega) (by omega) (by omega) _ ew
  have hvj := j_whyIn n (j := ms_J σ9) rfl cI mk i NI hd _ ew
  replace hv : rv = WIN (ms_E σ9 40 1) (ms_E σ9 44) yl.length mk i.toInt.toNat NI.toInt.toNat hd := hv
  replace hvf : fr [657, 658] [42, 43] σ9 σx := hvf
  replace hvj : ms_J σx = ms_J σ9 := hvj
  refine ws_b (k_whyIn n hn θ (rd + 5) (rd + 3) i.toInt.toNat NI.toInt.toNat hWC yl (RWL_wf hRy hwf) (ms_E σ 40 1) (by omega) mk hd) (fun r hr2 => ?_)
  have F10 : rfr rd α θ := rfr_tr F9 (rfr_wf hSη hwf)
  have hWθ : RWL θ w wl := RWL_rfr hW F10 hw3 hw
  refine ws_b (k_rput n hWθ hwl r) (fun κ hκ => ws_s ?_)
  obtain ⟨hRκ, hef⟩ := hκ
  have hrv : r = rv := by
    rw [hr2, hv, c9]
    exact WIN_h _ _ _ _ _ _ (fun j hj => (mkD h44 j hj).symm)
  have e300 : hp_R θ 300 w = w + 1 := by rw [F10.1]; exact hw3
  have hPx : PRE η rd σx t N p9 := PRE_fr hP9 hvf (by decide) (by decide) hvj
  have eRη : hp_R η 200 rd = rd + 1 := hSη.1.1
  have eRθ : hp_R θ 200 rd = rd + 1 := hSθ.1.1
  have hPθ : PRE θ rd σx t N p9 := PRE_e hPx hwf.1 hwf.2.1 (fun b j => hwf.2.2.2.2.2 24 b j (fun z => by omega)) (fun φ h1 h2 => by rw [eRη]; exact hwf.2.2.2.2.1 φ _ (fun z => by omega))
  have hPκ : PRE κ rd σx t N p9 := PRE_e hPθ hef.1 hef.2.1 (fun b j => hef.2.2.2.2.2 24 b j (fun z => absurd z.1 (by decide))) (fun φ h1 h2 => by rw [eRθ]; exact hef.2.2.2.2.1 φ _ (fun z => by omega))
  refine ⟨hfr_tr (hfr_r F10) (hfr_ef hef e300), fr_tr g9 (fr_sb hvf (by decide) (by decide)), Or.inl ⟨rfl, ⟨p9, by omega, hPκ⟩, by rw [← hrv]; exact hRκ, fun φ h1 h2 => ?_, ?_⟩⟩
  rotate_left
  · have := RWL_m hRy
    show 0 ≤ (hp_I κ 301 (rd + 3)).toInt ∧ (hp_I κ 301 (rd + 3)).toInt ≤ 64
    rw [hef.2.2.2.2.1 301 (rd + 3) (fun z => by omega), hwf.2.2.2.2.1 301 (rd + 3) (fun z => by omega)]; exact this
  show hp_I κ φ rd = _
  rw [hef.2.2.2.2.1 φ rd (fun z => by omega), hwf.2.2.2.2.1 φ rd (fun z => by omega), hk9 φ h1, hk8 φ h1 h2, hk6 φ h1 h2, hk4 φ h1 h2, hk3 φ h1, hk2 φ h1 h2]
theorem r_takesW (n : Nat) {α : hp_T} {rd : Nat} {σ : ms_T} {t : Nat → Int32} {N q : Nat} (hT : TOK α rd σ t N q) (w : Nat) (hw : w < 12) (wI : Int32) (hwI : wI.toInt = (w : Int)) (hs : spl t N q (wtx w)) : pr (f_X12_takes n σ wI) (fun τ => PRE α rd τ t N (tkN t N q) ∧ rg σ τ) := by
  obtain ⟨q1, q2, q3, q4, q5, q6⟩ := id hT
  have hN := q2.1
  unfold f_X12_takes
  refine pr_b (v_isWord n q5 (by omega) hN w hw wI hwI) (fun r2 hr2 => ?_)
  rcases hr2 with ⟨rfl, -⟩ | ⟨-, hno⟩
  · exact r_must n hT 1 (Or.inr rfl) (fun _ => q_lt hs.1 (by decide)) (R := ms_T) _ (fun _ τ t1 t2 => ⟨t1, t2⟩) (fun h => absurd h (by decide))
  · exact absurd ⟨q6, hs⟩ hno
theorem r_statGrow (n : Nat) (hn : 70000 ≤ n) {α : hp_T} {rd w : Nat} {wl : List Int32} {σ : ms_T} {t : Nat → Int32} {N q : Nat} (hS : RSH α rd) (hT : TOK α rd σ t N q) (hqN : q < N) (hsp : spl t N q (wtx 7)) (hM : hp_I α 203 rd = ms_E σ 40 1) (hC : rC (ms_E σ 40)) (hr : 0 ≤ (hp_I α 301 (rd + 3)).toInt ∧ (hp_I α 301 (rd + 3)).toInt ≤ 64) (hw : w + 2 ≤ rd) (hw3 : hp_R α 300 w = w + 1) (hW : RWL α w wl) (hwl : wl.length < 64) (res : Int32 × ms_T) (e : f_X12_statementGrow n σ = some res) :
    ws (f_X3_readGrowth n α rd w) (fun a => STO rd w wl α σ t N q a res) := by
  have hm := hC.2.1
  have eR : hp_R α 200 rd = rd + 1 := hS.1.1
  unfold f_X12_statementGrow at e
  replace e := ms_bE e
  obtain ⟨σ1, e1, e⟩ := e
  obtain ⟨hP1, hg1⟩ := r_takesW n hT 7 (by decide) 7 (by decide) hsp σ1 e1
  have c1 : ms_E σ1 40 = ms_E σ 40 := funext (hg1.2 40 (by decide))
  replace e := ms_cE e
  obtain ⟨i, σ2, e2, e⟩ := e
  have hq1 := (tkN_le t hqN).1
  unfold f_X3_readGrowth
  have hbad : ∀ (β : hp_T) (τ : ms_T), rfr rd α β → fr FWH FEH σ τ → BAD β rd τ → (res.1 = 0 ∧ BB τ res.2) → ws (some ((0 : Int32), β)) (fun a => STO rd w wl α σ t N q a res) := fun β τ hf hg hB hb => ws_s ⟨hfr_r hf, fr_tr hg (frg hb.2.2.2), Or.inr ⟨rfl, hb.1, BAD_B hB hb.2⟩⟩
  refine ws_hc (r_number n hn hP1 0 2147483647 0 99999 (fun v h0 h1 => by rw [lt0, tMx, t99k]; omega)) (fun a β hab => ?_)
  obtain ⟨hf2, hg2, hc2⟩ := hab _ e2
  rw [eR] at hf2
  have F2 : rfr rd α β := rfr_rdf hf2
  have g2 : rg σ σ2 := rg_tr hg1 hg2
  have c2 : ms_E σ2 40 = ms_E σ 40 := funext (g2.2 40 (by decide))
  rcases hc2 with ⟨ra, ⟨p2, hl2, hP2⟩, ev2, a0, a1, -, -, hk2⟩ | ⟨ra, hB⟩
  rotate_left
  · replace ra : a = 0 := ra
    subst ra
    rw [if_pos rfl]
    exact hbad β σ2 F2 (frg g2) hB (bG_2 n σ2 i hB.1 res e)
  replace ra : a = 1 := ra
  subst ra
  rw [if_neg (by decide)]
  refine ws_l ?_
  replace ev2 : hp_I β 209 rd = i := ev2
  replace a0 : 0 ≤ i.toInt := a0
  replace a1 : i.toInt ≤ 99999 := a1
  rw [ev2]
  replace e := ms_bE e
  obtain ⟨σ3, e3, e⟩ := e
  replace e := ms_cE e
  obtain ⟨od, σ4, e4, e⟩ := e
  have eR2 : hp_R β 200 rd = rd + 1 := by rw [F2.1]; exact eR
  have k203 : hp_I β 203 rd = ms_E σ2 40 1 := by rw [hk2 203 (by decide) (by decide), c2]; exact hM
  refine ws_hc (r_mark n hn hP2 k203 (by rw [c2]; exact hC) 9 (by decide) 9 (by decide) e3 e4) (fun a γ h4 => ?_)
  obtain ⟨hf4, hg4, hc4⟩ := h4
  rw [eR2] at hf4
  have F4 : rfr rd α γ := rfr_tr F2 (rfr_rdf hf4)
  have g4 : rg σ σ4 := rg_tr g2 hg4
  have c4 : ms_E σ4 40 = ms_E σ 40 := funext (g4.2 40 (by decide))
  rcases hc4 with ⟨ra, ⟨p4, hl4, hP4⟩, ev4, b0, b1, hk4⟩ | ⟨ra, hB⟩
  rotate_left
  · replace ra : a = 0 := ra
    subst ra
    rw [if_pos rfl]
    exact hbad γ σ4 F4 (frg g4) hB (bG_4 n σ4 i od hB.1 res e)
  replace ra : a = 1 := ra
  subst ra
  rw [if_neg (by decide)]
  refine ws_l ?_
  replace ev4 : hp_I γ 209 rd = od := ev4
  rw [ev4]
  replace e := ms_bE e
  obtain ⟨σ5, e5, e⟩ := e
  have eR4 : hp_R γ 200 rd = rd + 1 := by rw [F4.1]; exact eR
  refine ws_hc (r_word n hn hP4 2 (by decide) 2 (by decide)) (fun a δ h5 => ?_)
  obtain ⟨hf5, hg5, hc5⟩ := h5 _ e5
  rw [eR4] at hf5
  have F5 : rfr rd α δ := rfr_tr F4 (rfr_rdf hf5)
  have g5 : rg σ σ5 := rg_tr g4 hg5
  rcases hc5 with ⟨ra, ⟨p5, hl5, hP5⟩, hk5⟩ | ⟨ra, hB⟩
  rotate_left
  · replace ra : a = 0 := ra
    subst ra
    rw [if_pos rfl]
    exact hbad δ σ5 F5 (frg g5) hB (bG_5 n σ5 i od hB.1 res e)
  replace ra : a = 1 := ra
  subst ra
  rw [if_neg (by decide)]
  replace e := ms_cE e
  obtain ⟨NI, σ6, e6, e⟩ := e
  have eR5 : hp_R δ 200 rd = rd + 1 := by rw [F5.1]; exact eR
  refine ws_hc (r_number n hn hP5 i 2147483647 i 99999 (fun v h0 h1 => by rw [tMx, t99k]; omega)) (fun a ε h6 => ?_)
  obtain ⟨hf6, hg6, hc6⟩ := h6 _ e6
  rw [eR5] at hf6
  have F6 : rfr rd α ε := rfr_tr F5 (rfr_rdf hf6)
  have g6 : rg σ σ6 := rg_tr g5 hg6
  have c6 : ms_E σ6 40 = ms_E σ 40 := funext (g6.2 40 (by decide))
  rcases hc6 with ⟨ra, ⟨p6, hl6, hP6⟩, ev6, d0, d1, d2, -, hk6⟩ | ⟨ra, hB⟩
  rotate_left
  · replace ra : a = 0 := ra
    subst ra
    rw [if_pos rfl]
    exact hbad ε σ6 F6 (frg g6) hB (bG_6 n σ6 i od NI hB.1 res e)
  replace ra : a = 1 := ra
  subst ra
  rw [if_neg (by decide)]
  refine ws_l ?_
  replace ev6 : hp_I ε 209 rd = NI := ev6
  replace d0 : 0 ≤ NI.toInt := d0
  replace d1 : NI.toInt ≤ 99999 := d1
  replace d2 : i.toInt ≤ NI.toInt := d2
  rw [ev6]
  replace e := ms_bE e
  obtain ⟨σ7, e7, e⟩ := e
  replace e := ms_cE e
  obtain ⟨nw, σ8, e8, e⟩ := e
  have k203b : hp_I ε 203 rd = ms_E σ6 40 1 := by
    rw [hk6 203 (by decide) (by decide), hk5 203 (by decide), hk4 203 (by decide) (by decide), k203, c2, c6]
  refine ws_hc (r_mark n hn hP6 k203b (by rw [c6]; exact hC) 10 (by decide) 10 (by decide) e7 e8) (fun a ζ h8 => ?_)
  obtain ⟨hf8, hg8, hc8⟩ := h8
  have eR6 : hp_R ε 200 rd = rd + 1 := by rw [F6.1]; exact eR
  rw [eR6] at hf8
  have F8 : rfr rd α ζ := rfr_tr F6 (rfr_rdf hf8)
  have g8 : rg σ σ8 := rg_tr g6 hg8
  have c8 : ms_E σ8 40 = ms_E σ 40 := funext (g8.2 40 (by decide))
  rcases hc8 with ⟨ra, ⟨p8, hl8, hP8⟩, ev8, f0, f1, hk8⟩ | ⟨ra, hB⟩
  rotate_left
  · replace ra : a = 0 := ra
    subst ra
    rw [if_pos rfl]
    exact hbad ζ σ8 F8 (frg g8) hB (bG_8 n σ8 i od NI nw hB.1 res e)
  replace ra : a = 1 := ra
  subst ra
  rw [if_neg (by decide)]
  replace ev8 : hp_I ζ 209 rd = nw := ev8
  replace e := ms_cE e
  obtain ⟨cI, σ9, e9, e⟩ := e
  have k203c : hp_I ζ 203 rd = ms_E σ8 40 1 := by
    rw [hk8 203 (by decide) (by decide), k203b, c6, c8]
  have k301 : hp_I ζ 301 (rd + 3) = hp_I α 301 (rd + 3) := by
    rw [hf8.2.2.2.2.2 301 (rd + 3) (fun z => by omega) (fun z => by omega), hf6.2.2.2.2.2 301 (rd + 3) (fun z => by omega) (fun z => by omega), hf5.2.2.2.2.2 301 (rd + 3) (fun z => by omega) (fun z => by omega), hf4.2.2.2.2.2 301 (rd + 3) (fun z => by omega) (fun z => by omega), hf2.2.2.2.2.2 301 (rd + 3) (fun z => by omega) (fun z => by omega)]
  have hSζ := RSH_R hS F8.1
  refine ws_hc (r_row n hn hSζ hP8 k203c (by rw [c8]; exact hC) (by rw [k301]; exact hr) (cI, σ9) e9) (fun a η h9 => ?_)
  obtain ⟨hf9, hg9, hc9⟩ := h9
  replace hf9 : rfr rd ζ η := hf9
  replace hg9 : rgm σ8 σ9 := hg9
  have F9 : rfr rd α η := rfr_tr F8 hf9
  have g9 : fr FWH FEH σ σ9 := fr_tr (frg g8) (frgm hg9)
  have c9 : ms_E σ9 40 = ms_E σ 40 := funext (g9.2 40 (by decide))
  rcases hc9 with ⟨ra, ⟨p9, hl9, hP9⟩, ⟨yl, hRy, hcy, h44⟩, hk9⟩ | ⟨ra, hB⟩
  rotate_left
  · replace ra : a = 0 := ra
    subst ra
    rw [if_pos rfl]
    replace hB : BAD η rd σ9 := hB
    have hp := hB.1
    rw [if_neg (fun z => by have := il_le z; rw [lt0] at this; omega)] at e
    cases e
    exact ws_s ⟨hfr_r F9, g9, Or.inr ⟨rfl, rfl, hB⟩⟩
  replace ra : a = 1 := ra
  subst ra
  rw [if_neg (by decide)]
  replace hP9 : PRE η rd σ9 t N p9 := hP9
  replace hcy : cI.toInt = (yl.length : Int) := hcy
  replace hRy : RWL η (rd + 3) yl := hRy
  replace hk9 : ∀ φ, φ < 350 → hp_I η φ rd = hp_I ζ φ rd := hk9
  rw [if_pos (by rw [hP9.2.2.2.2.2]; decide)] at e
  replace e := ms_cE e
  obtain ⟨rv, σx, ew, e⟩ := e
  cases e
  have hSη := RSH_R hSζ hf9.1
  have i203 : hp_I η 203 rd = ms_E σ 40 1 := by
    rw [hk9 203 (by decide), k203c, c8]
  have i209 : hp_I η 209 rd = nw := by
    rw [hk9 209 (by decide)]; exact ev8
  refine ws_l (ws_l (ws_l (ws_l ?_)))
  rw [hSη.2.2.2.1, hSη.2.1, i203, i209]
  obtain ⟨hv, hvf⟩ := v_whyGrown n σ9 yl.length cI hcy i.toInt.toNat NI.toInt.toNat i NI od nw (by omega) (by omega) (by omega) _ ew
  have hvj := j_whyGrown n (j := ms_J σ9) rfl cI i od NI nw _ ew
  replace hv : rv = WHY (ms_E σ9 40 1) (ms_E σ9 44) yl.length i.toInt.toNat od NI.toInt.toNat nw := hv
  replace hvf : fr [657, 658, 659, 660] [42, 43] σ9 σx := hvf
  replace hvj : ms_J σx = ms_J σ9 := hvj
  refine ws_hc (k_whyGrowth n hn η (rd + 5) (rd + 3) yl hRy (ms_E σ 40 1) (by omega) i.toInt.toNat NI.toInt.toNat i NI od nw (by omega) (by omega) (by omega)) (fun r θ hr2 => ?_)
  obtain ⟨hr2, hwf⟩ := hr2
  replace hwf : wf (rd + 5) η θ := hwf
  have hSθ := RSH_R hSη hwf.1
  have F10 : rfr rd α θ := rfr_tr F9 (rfr_wf hSη hwf)
  have hWθ : RWL θ w wl := RWL_rfr hW F10 hw3 hw
  refine ws_b (k_rput n hWθ hwl r) (fun κ hκ => ws_s ?_)
  obtain ⟨hRκ, hef⟩ := hκ
  have hrv : r = rv := by
    rw [show r = _ from hr2, hv, c9]
    exact WHY_c _ _ _ _ _ _ (fun j hj => (mkD h44 j hj).symm)
  have e300 : hp_R θ 300 w = w + 1 := by rw [F10.1]; exact hw3
  have hPx : PRE η rd σx t N p9 := PRE_fr hP9 hvf (by decide) (by decide) hvj
  have eRη : hp_R η 200 rd = rd + 1 := hSη.1.1
  have eRθ : hp_R θ 200 rd = rd + 1 := hSθ.1.1
  have hPθ : PRE θ rd σx t N p9 := PRE_e hPx hwf.1 hwf.2.1 (fun b j => hwf.2.2.2.2.2 24 b j (fun z => by omega)) (fun φ h1 h2 => by rw [eRη]; exact hwf.2.2.2.2.1 φ _ (fun z => by omega))
  have hPκ : PRE κ rd σx t N p9 := PRE_e hPθ hef.1 hef.2.1 (fun b j => hef.2.2.2.2.2 24 b j (fun z => absurd z.1 (by decide))) (fun φ h1 h2 => by rw [eRθ]; exact hef.2.2.2.2.1 φ _ (fun z => by omega))
  refine ⟨hfr_tr (hfr_r F10) (hfr_ef hef e300), fr_tr g9 (fr_sb hvf (by decide) (by decide)), Or.inl ⟨rfl, ⟨p9, by omega, hPκ⟩, by rw [← hrv]; exact hRκ, fun φ h1 h2 => ?_, ?_⟩⟩
  rotate_left
  · have := RWL_m hRy
    show 0 ≤ (hp_I κ 301 (rd + 3)).toInt ∧ (hp_I κ 301 (rd + 3)).toInt ≤ 64
    rw [hef.2.2.2.2.1 301 (rd + 3) (fun z => by omega), hwf.2.2.2.2.1 301 (rd + 3) (fun z => by omega)]; exact this
  show hp_I κ φ rd = _
  rw [hef.2.2.2.2.1 φ rd (fun z => by omega), hwf.2.2.2.2.1 φ rd (fun z => by omega), hk9 φ h1, hk8 φ h1 h2, hk6 φ h1 h2, hk5 φ h1, hk4 φ h1 h2, hk2 φ h1 h2]
end JN9_7
section JN9_8
set_option maxRecDepth 100000
def cn0 : List Int32 → Nat
  | [] => 0
  | a :: l => (if a = 0 then 1 else 0) + cn0 l
theorem cn0_app (l : List Int32) (a : Int32) : cn0 (l ++ [a]) = cn0 l + (if a = 0 then 1 else 0) := by
  induction l with
  | nil => simp [cn0]
  | cons b l ih => rw [List.cons_append, cn0, cn0, ih]; omega
theorem cn0_le (l : List Int32) : cn0 l ≤ l.length := by
  induction l with
  | nil => simp [cn0]
  | cons b l ih => rw [cn0, List.length_cons]; split <;> omega
def WH5 (σ : ms_T) (wl : List Int32) : Prop := ∀ j, j < wl.length → some (ms_E σ 50 j) = wl[j]?
def HPO (n rd w : Nat) (res : Int32 × ms_T) (α : hp_T) (σ : ms_T) (a : Int32 × hp_T) : Prop := hfr rd w α a.2 ∧ ∃ (τ : ms_T) (mI gI : Int32), fr FWH (50 :: FEH) σ τ ∧ f_X12_hear_J153 n τ mI gI = some res ∧ ((a.1 = 0 ∧ BAD a.2 rd τ) ∨ (a.1 = 1 ∧ ms_I τ 670 = 0 ∧ (∃ yl, RWL a.2 w yl ∧ yl.length ≤ 20 ∧ mI.toInt = (yl.length : Int) ∧ gI.toInt = (cn0 yl : Int) ∧ WH5 τ yl) ∧ KF rd α a.2))
theorem HPO_tr {n rd w : Nat} {res : Int32 × ms_T} {α β : hp_T} {σ τ : ms_T} {a : Int32 × hp_T} (hf : hfr rd w α β) (hg : fr FWH (50 :: FEH) σ τ) (hk : KF rd α β) (h : HPO n rd w res β τ a) : HPO n rd w res α σ a := by
  obtain ⟨h1, υ, m, g, h2, h3, h4⟩ := h
  refine ⟨hfr_tr hf h1, υ, m, g, fr_tr hg h2, h3, ?_⟩
  rcases h4 with h4 | ⟨r1, r2, r3, r4⟩
  · exact Or.inl h4
  · exact Or.inr ⟨r1, r2, r3, KF_tr hk r4⟩
theorem fr5 {σ τ : ms_T} (h : fr FWH FEH σ τ) : fr FWH (50 :: FEH) σ τ := fr_sb h (fun _ q => q) (fun _ q => List.mem_cons_of_mem _ q)
theorem v_hear_B (n d2 : Nat) (σ : ms_T) (vI gI : Int32) (res : Int32 × ms_T) (h : 0 < (ms_I σ 670).toInt) (e : f_X12_hear_L35 n d2 σ vI gI = some res) : f_X12_hear_J153 n σ vI gI = some res := by
  cases d2 with
  | zero => rw [f_X12_hear_L35.eq_1] at e; cases e
  | succ d2 =>
    rw [f_X12_hear_L35.eq_2, if_neg (fun z => by rw [z, lt0] at h; omega)] at e
    exact e
theorem v_hear_129 (n d2 : Nat) (σ : ms_T) (vI gI v : Int32) (res : Int32 × ms_T) (e : f_X12_hear_J129 n (f_X12_hear_L35 n d2) σ vI gI v vI = some res) : ∃ g2 : Int32, g2 = gI + (if v = 0 then 1 else 0) ∧ f_X12_hear_L35 n d2 (ms_sE σ 50 vI.toNatClampNeg v) (vI + 1) g2 = some res := by
  unfold f_X12_hear_J129 at e
  replace e := ms_gE e
  obtain ⟨-, e⟩ := e
  replace e := ms_lE rfl e
  replace e := ms_gE e
  obtain ⟨-, e⟩ := e
  have h50 : ms_E (ms_sE σ 50 vI.toNatClampNeg v) 50 vI.toNatClampNeg = v := by rw [mE_sE, if_pos ⟨rfl, rfl⟩]
  rw [h50] at e
  unfold f_X12_hear_J145 at e
  by_cases h : v = 0
  · rw [if_pos h] at e
    exact ⟨_, rfl, by rw [if_pos h]; exact ms_lE rfl (ms_lE rfl e)⟩
  · rw [if_neg h] at e
    exact ⟨_, rfl, by rw [if_neg h]; exact ms_lE rfl (ms_lE rfl e)⟩
theorem r_proofs_L (n : Nat) (hn : 70000 ≤ n) (rd w : Nat) (t : Nat → Int32) (N : Nat) (res : Int32 × ms_T) (hw : w + 2 ≤ rd) : ∀ (d : Nat) (α : hp_T) (σ : ms_T) (wl : List Int32) (q k : Nat) (kI vI gI : Int32) (d2 : Nat), RSH α rd → TOK α rd σ t N q → hp_I α 203 rd = ms_E σ 40 1 → rC (ms_E σ 40) → (0 ≤ (hp_I α 301 (rd + 3)).toInt ∧ (hp_I α 301 (rd + 3)).toInt ≤ 64) → hp_R α 300 w = w + 1 → RWL α w wl → wl.length ≤ 20 → vI.toInt = (wl.length : Int) → gI.toInt = (cn0 wl : Int) → WH5 σ wl → kI.toInt = (k : Int) → k ≤ q → N + 1 - q ≤ d → f_X12_hear_L35 n d2 σ vI gI = some res → ws (f_X3_readProofs_L12 n rd d α w kI) (HPO n rd w res α σ) := by
  intro d
  induction d with
  | zero => intro α σ wl q k kI vI gI d2 _ hT _ _ _ _ _ _ _ _ _ _ _ hd; have := hT.1; omega
  | succ d ih =>
    intro α σ wl q k kI vI gI d2 hS hT hM hC hr h3 hW hwl hv hg h5 hk hkq hd e
    have t900 := t_900
    have t20 := t_20
    have hN := hT.2.1.1
    have hqN := hT.1
    have eR : hp_R α 200 rd = rd + 1 := hS.1.1
    obtain ⟨q1, q2, q3, q4, q5, q6⟩ := id hT
    cases d2 with
    | zero => rw [f_X12_hear_L35.eq_1] at e; cases e
    | succ d2 =>
    rw [f_X12_hear_L35.eq_2, if_pos q6] at e
    rw [f_X3_readProofs_L12.eq_2]
    have hend : q = N → ms_I σ 674 = 0 := fun hq => by
      rw [q5.2.1]; exact tkS_e (by omega)
    have hmid : q < N → ¬ tkS t N q = 0 := fun hq => tkS_0 hq
    have hdone : q = N → HPO n rd w res α σ (1, α) := fun hq => by
      rw [if_pos (hend hq)] at e
      exact ⟨hfr_rf, σ, vI, gI, fr_rf, e, Or.inr ⟨rfl, q6, ⟨wl, hW, hwl, hv, hg, h5⟩, rfl, rfl⟩⟩
    refine ws_le (fun e9 => ws_s (hdone (by omega))) (fun e9 => ?_)
    unfold f_X3_isAtEnd
    have h353 : hp_I α 353 (hp_R α 200 rd) = tkS t N q := q3.2.1
    by_cases hq : q = N
    · refine ws_b (S := fun v => v = 1) (ws_l (ws_l (ws_i (fun _ => ws_s rfl) (fun hne => absurd (by rw [h353]; rw [← q5.2.1]; exact hend hq) hne)))) (fun v hv => ?_)
      subst hv
      exact ws_i (fun h => absurd h (by decide)) (fun _ => ws_s (hdone hq))
    have hqN2 : q < N := by omega
    refine ws_b (S := fun v => v = 0) (ws_l (ws_l (ws_i (fun h0 => absurd (by rw [h353] at h0; exact h0) (hmid hqN2)) (fun _ => ws_s rfl)))) (fun v hv0 => ?_)
    subst hv0
    refine ws_i (fun _ => ws_l ?_) (fun h => absurd rfl h)
    rw [if_neg (fun h => hmid hqN2 (q5.2.1.symm.trans h))] at e
    replace e := ms_bE e
    obtain ⟨x6, ex6, e⟩ := e
    obtain ⟨w61, w60⟩ := v_isW n hT 6 (by decide) 6 (by decide) ex6
    -- a STATEMENT of either kind
    have hJ : ∀ (b4 : Int32), ((b4 = 1 ∧ spl t N q (wtx 6)) ∨ (b4 = 0 ∧ ¬ spl t N q (wtx 6) ∧ spl t N q (wtx 7))) → f_X12_hear_J73 n (f_X12_hear_L35 n d2) σ vI gI 1 = some res → ws (f_X3_readProofs_J59 n rd (f_X3_readProofs_L12 n rd d) α w kI b4) (HPO n rd w res α σ) := by
      clear e
      intro b4 hb4 e
      unfold f_X12_hear_J73 at e
      replace e := ms_bE e
      obtain ⟨σ1, e1, e⟩ := e
      have := v_must1 n σ 1 2 (by decide) σ1 e1
      subst this
      unfold f_X3_readProofs_J59
      refine ws_l (ws_hc (r_room n hT eR (hp_I α 301 w) 20) (fun a β hab => ?_))
      obtain ⟨hab1, hab2⟩ := hab
      by_cases h20 : wl.length < 20
      · obtain ⟨ra, rb⟩ := hab1 (by rw [hW.2.1, t20]; omega)
        replace ra : a = 1 := ra
        replace rb : β = α := rb
        subst ra
        subst rb
        rw [if_neg (by decide)]
        rw [if_neg (fun z => by have := il_le z; rw [t20] at this; omega)] at e
        unfold f_X12_hear_J89 at e
        replace e := ms_bE e
        obtain ⟨σ2, e2, e⟩ := e
        have := v_must1 n σ1 1 6 (by decide) σ2 e2
        subst this
        rw [if_pos (by rw [q6]; decide)] at e
        replace e := ms_bE e
        obtain ⟨x7, ex7, e⟩ := e
        obtain ⟨w71, w70⟩ := v_isW n hT 6 (by decide) 6 (by decide) ex7
        -- behind the STATEMENT
        have hS9 : ∀ (z : Int32 × hp_T) (r : Int32 × ms_T), STO rd w wl β σ2 t N q z r → f_X12_hear_J129 n (f_X12_hear_L35 n d2) r.2 vI gI r.1 vI = some res → ws (if z.1 = 0 then some ((0 : Int32), z.2) else f_X3_readProofs_J98 n rd (f_X3_readProofs_L12 n rd d) z.2 w kI) (HPO n rd w res β σ2) := by
          intro z r hz er
          obtain ⟨hf, hg2, hc⟩ := hz
          obtain ⟨g2, hg2e, er2⟩ := v_hear_129 n d2 r.2 vI gI r.1 res er
          have ev : vI.toNatClampNeg = wl.length := cl_n hv
          rw [ev] at er2
          have g50 : fr FWH (50 :: FEH) r.2 (ms_sE r.2 50 wl.length r.1) := fr_sE List.mem_cons_self
          rcases hc with ⟨z1, ⟨p, hp, hP⟩, hRW, hkk, hr2⟩ | ⟨z0, hr0, hB⟩
          · rw [if_neg (by rw [z1]; decide)]
            unfold f_X3_readProofs_J98
            have hSz := RSH_R hS hf.1
            have eRz : hp_R z.2 200 rd = rd + 1 := hSz.1.1
            have hP2 : PRE z.2 rd (ms_sE r.2 50 wl.length r.1) t N p := PRE_fr (wI := []) (wE := [50]) hP (fr_sE (by decide)) (by decide) (by decide) rfl
            refine ws_l (ws_b (r_adv n hn hP2) (fun δ hδ => ws_l ?_))
            obtain ⟨hTδ, hfδ, hkδ⟩ := hδ
            rw [eRz] at hfδ
            have e1 : (kI + 1).toInt = ((k + 1 : Nat) : Int) := by rw [iw_add, lt1]; omega
            have ev1 : (vI + 1).toInt = ((wl ++ [r.1]).length : Int) := by rw [iw_add, lt1, List.length_append, List.length_singleton]; omega
            have eg1 : g2.toInt = (cn0 (wl ++ [r.1]) : Int) := by
              have := cn0_le wl
              rw [hg2e, cn0_app]
              split
              · rw [iw_add, lt1]; omega
              · rw [iw_add, lt0]; omega
            have c40 : ms_E (ms_sE r.2 50 wl.length r.1) 40 = ms_E σ2 40 := by
              funext j
              rw [mE_sE, if_neg (fun q => absurd q.1 (by decide)), hg2.2 40 (by decide) j]
            have hp2 : p ≤ tkP t N p := (ru_le isB t _ _).1
            have hRδ : RWL δ w (wl ++ [r.1]) := ⟨hRW.1, by rw [hkδ 301 (by decide)]; exact hRW.2.1, fun j hj => by rw [hfδ.1, hfδ.2.2.2.2.1]; exact hRW.2.2 j hj⟩
            refine ws_m (ih δ (ms_sE r.2 50 wl.length r.1) (wl ++ [r.1]) (tkP t N p) (k + 1) (kI + 1) (vI + 1) g2 d2 (RSH_R hSz hfδ.1) hTδ ?_ (by rw [c40]; exact hC) ?_ ?_ hRδ ?_ ev1 eg1 ?_ e1 (by omega) (by omega) er2) (fun a ha => HPO_tr (hfr_tr hf (hfr_r (rfr_rdf hfδ))) (fr_tr (fr5 hg2) g50) ?_ ha)
            · rw [hkδ 203 (by decide), hkk 203 (by decide) (by decide), c40]; exact hM
            · rw [hkδ 301 (by decide)]; exact hr2
            · rw [hfδ.1, hf.1]; exact h3
            · rw [List.length_append, List.length_singleton]; omega
            · intro j hj
              rw [List.length_append, List.length_singleton] at hj
              rw [mE_sE]
              by_cases ej : j = wl.length
              · rw [if_pos ⟨rfl, ej⟩, ej, List.getElem?_append_right (Nat.le_refl _), Nat.sub_self]; rfl
              · rw [if_neg (fun q => ej q.2), List.getElem?_append_left (by omega), hg2.2 50 (by decide) j]
                exact h5 j (by omega)
            · exact ⟨by rw [hkδ 204 (by decide), hkk 204 (by decide) (by decide)], by rw [hkδ 205 (by decide), hkk 205 (by decide) (by decide)]⟩
          · rw [if_pos z0]
            refine ws_s ⟨hf, ms_sE r.2 50 wl.length r.1, vI + 1, g2, fr_tr (fr5 hg2) g50, ?_, Or.inl ⟨rfl, BAD_m hB rfl rfl⟩⟩
            exact v_hear_B n d2 _ _ _ res hB.1 er2
        rcases hb4 with ⟨rfl, hin⟩ | ⟨rfl, hnin, hgr⟩
        · rw [if_neg (by decide)]
          rw [w71 hin, if_neg (by decide)] at e
          replace e := ms_cE e
          obtain ⟨v, υ, ev, e⟩ := e
          exact ws_hc (r_statIn n hn hS hT hqN2 hM hC hr hw h3 hW (by omega) (v, υ) ev) (fun a γ hz => hS9 (a, γ) (v, υ) hz e)
        · rw [if_pos rfl]
          rw [w70 hnin, if_pos rfl] at e
          replace e := ms_cE e
          obtain ⟨v, υ, ev, e⟩ := e
          exact ws_hc (r_statGrow n hn hS hT hqN2 hgr hM hC hr hw h3 hW (by omega) (v, υ) ev) (fun a γ hz => hS9 (a, γ) (v, υ) hz e)
      · obtain ⟨ra, rb, rc⟩ := hab2 (by rw [hW.2.1, t20]; omega)
        replace ra : a = 0 := ra
        subst ra
        rw [if_pos rfl]
        rw [if_pos (by rw [Int32.le_iff_toInt_le, t20]; omega)] at e
        unfold f_X12_hear_J89 at e
        replace e := ms_bE e
        obtain ⟨σ2, e2, e⟩ := e
        obtain ⟨u1, u2, u3⟩ := v_mustk n q6 6 (by decide) σ2 e2
        rw [if_neg (fun z => by rw [u1] at z; exact absurd z (by decide))] at e
        exact ws_s ⟨hfr_r (rfr_rdf rb), σ2, vI, gI, fr5 (frg u3), e, Or.inl ⟨rfl, rc σ2 u1 u2⟩⟩
    refine ws_b (k_spells n hn (by decide) q2 q3 q1) (fun b4 hb4 => ?_)
    rcases hb4 with ⟨rfl, hin⟩ | ⟨rfl, hnin⟩
    · rw [if_neg (by decide)]
      rw [w61 hin, if_neg (by decide)] at e
      unfold f_X12_hear_J68 at e
      exact hJ 1 (Or.inl ⟨rfl, hin⟩) e
    · rw [if_pos rfl]
      rw [w60 hnin, if_pos rfl] at e
      replace e := ms_bE e
      obtain ⟨x7, ex7, e⟩ := e
      obtain ⟨w71, w70⟩ := v_isW n hT 7 (by decide) 7 (by decide) ex7
      refine ws_l (ws_b (k_spells n hn (by decide) q2 q3 q1) (fun b5 hb5 => ?_))
      rcases hb5 with ⟨rfl, hgr⟩ | ⟨rfl, hngr⟩
      · rw [if_neg (by decide)]
        rw [w71 hgr, if_neg (by decide)] at e
        unfold f_X12_hear_J68 at e
        exact hJ 0 (Or.inr ⟨rfl, hnin, hgr⟩) e
      · rw [if_pos rfl]
        rw [w70 hngr, if_pos rfl] at e
        refine ws_hc (k_stray n q3) (fun r γ hr9 => ?_)
        obtain ⟨g1, g2, g3, g4⟩ := hr9
        rw [eR] at g4
        replace g1 : r = 0 := g1
        subst g1
        refine ws_z (Or.inl rfl) ?_
        unfold f_X12_hear_J73 at e
        replace e := ms_bE e
        obtain ⟨σ1, e1, e⟩ := e
        obtain ⟨u1, u2, u3⟩ := v_must0 n q6 2 σ1 e1
        have u1' : ms_I σ1 670 = (if tkS t N q = 4 then 1 else 2) := by
          rw [u1]
          by_cases h4 : tkS t N q = 4
          · rw [if_pos h4, if_pos ⟨rfl, q5.2.1.trans h4⟩]
          · rw [if_neg h4, if_neg (fun h => h4 (q5.2.1.symm.trans h.2))]
        have hpos : 0 < (ms_I σ1 670).toInt := by rw [u1']; split <;> decide
        have hx : ∀ b : Int32, f_X12_hear_J89 n (f_X12_hear_L35 n d2) σ1 vI gI b = some res → f_X12_hear_J153 n σ1 vI gI = some res := by
          intro b eb
          unfold f_X12_hear_J89 at eb
          replace eb := ms_bE eb
          obtain ⟨σ2, e2, eb⟩ := eb
          have := v_must2 n σ1 b 6 hpos σ2 e2
          subst this
          rw [if_neg (fun z => by have := il_le z; rw [lt0] at this; omega)] at eb
          exact eb
        have e9 : f_X12_hear_J153 n σ1 vI gI = some res := by
          by_cases h64 : (20 : Int32) ≤ vI
          · rw [if_pos h64] at e; exact hx 0 e
          · rw [if_neg h64] at e; exact hx 1 e
        refine ws_s ⟨hfr_r (rfr_rdf g4), σ1, vI, gI, fr5 (frg (rg_m u3)), e9, Or.inl ⟨rfl, hpos, by rw [u1']; exact g2, ?_⟩⟩
        show hp_I γ 205 rd = _
        rw [u2]
        exact Int32.toInt_inj.mp (by rw [q5.1]; exact g3)
end JN9_8
section JN9_9
set_option maxRecDepth 100000
theorem k_countOf_L (n : Nat) {α : hp_T} {a : Nat} {l : List Int32} (h : RWL α a l) : ∀ (d k : Nat) (cI kI : Int32), kI.toInt = (k : Int) → k ≤ l.length → cI.toInt = (cn0 (l.take k) : Int) → l.length + 1 - k ≤ d → ws (f_X5_countOf_L4 n α a d 0 cI kI) (fun r => r.toInt = (cn0 l : Int)) := by
  intro d
  induction d with
  | zero => intro k cI kI _ hk _ hd; omega
  | succ d ih =>
    intro k cI kI hkI hk hc hd
    have h64 := h.1
    rw [f_X5_countOf_L4.eq_2]
    refine ws_l (ws_le (fun c => ws_s ?_) (fun c => ?_))
    · rw [h.2.1] at c
      rw [hc, List.take_of_length_le (by omega)]
    · rw [h.2.1] at c
      have hkl : k < l.length := by omega
      have htk : l.take (k + 1) = l.take k ++ [l[k]] := by rw [List.take_succ_eq_append_getElem hkl]
      have hcl := cn0_le (l.take k)
      rw [List.length_take] at hcl
      have e1 : (kI + 1).toInt = ((k + 1 : Nat) : Int) := by rw [iw_add, lt1]; omega
      refine ws_b (k_rat n h k hkl kI hkI) (fun r hr => ?_)
      have hrk : r = l[k] := by rw [hr, List.getD_eq_getElem?_getD, List.getElem?_eq_getElem hkl]; rfl
      unfold f_X5_countOf_J24
      refine ws_i (fun z => ws_l (ws_l (ih (k + 1) _ _ e1 (by omega) ?_ (by omega)))) (fun z => ws_l (ih (k + 1) _ _ e1 (by omega) ?_ (by omega)))
      · rw [htk, cn0_app, if_pos (by rw [← hrk]; exact z), iw_add, lt1]; omega
      · rw [htk, cn0_app, if_neg (by rw [← hrk]; exact z)]; omega
theorem k_countOf (n : Nat) (hn : 70000 ≤ n) {α : hp_T} {a : Nat} {l : List Int32} (h : RWL α a l) : ws (f_X5_countOf n α a 0) (fun r => r.toInt = (cn0 l : Int)) := by
  unfold f_X5_countOf
  have h64 := h.1
  exact k_countOf_L n h n 0 0 0 (by decide) (Nat.zero_le _) (by rw [List.take_zero]; rfl) (by omega)
theorem v_hear_169 (n M : Nat) (mI gI : Int32) (hm : mI.toInt = (M : Int)) (σ0 : ms_T) : ∀ (d k : Nat) (σ : ms_T) (kI : Int32), kI.toInt = (k : Int) → k ≤ M → fr [682] [49] σ0 σ → (∀ j, j < k → ms_E σ 49 j = ms_E σ0 50 j) → pr (f_X12_hear_L169 n d σ mI gI kI) (fun res => res.1 = gI ∧ ms_I res.2 682 = mI ∧ (∀ j, j < M → ms_E res.2 49 j = ms_E σ0 50 j) ∧ fr [682] [49] σ0 res.2) := by
  intro d
  induction d with
  | zero => intro k σ kI _ _ _ _; rw [f_X12_hear_L169.eq_1]; exact pr_0
  | succ d ih =>
    intro k σ kI hk hkM hf h
    have hmb := ib_hi mI
    rw [f_X12_hear_L169.eq_2]
    refine pr_le (fun c => pr_ln (fun τ hτ => pr_s ⟨rfl, ?_, fun j hj => ?_, ?_⟩)) (fun c => pr_g (fun _ _ => pr_g (fun _ _ => pr_l (pr_l ?_))))
    · rw [hτ, mI_sI, if_pos rfl]
    · show ms_E τ 49 j = _
      rw [hτ, mE_sI]
      exact h j (by omega)
    · show fr [682] [49] σ0 τ
      rw [hτ]
      exact fr_tr hf (fr_sI (by decide))
    · have e1 : (kI + 1).toInt = ((k + 1 : Nat) : Int) := by rw [iw_add, lt1]; omega
      rw [cl_n hk]
      refine ih (k + 1) _ _ e1 (by omega) (fr_tr hf (fr_sE (by decide))) (fun j hj => ?_)
      rw [mE_sE]
      by_cases ej : j = k
      · rw [if_pos ⟨rfl, ej⟩, ej]; exact hf.2 50 (by decide) k
      · rw [if_neg (fun q => ej q.2)]; exact h j (by omega)
def XHR (α : hp_T) (x : Nat) : Prop := RSH α (x + 944) ∧ ((hp_R α 608 x = x + 926 ∧ hp_R α 609 x = x + 928) ∨ (hp_R α 608 x = x + 928 ∧ hp_R α 609 x = x + 926)) ∧ hp_R α 300 (x + 926) = x + 927 ∧ hp_R α 300 (x + 928) = x + 929
def hdl (σ : ms_T) : List Int32 := (List.range (ms_I σ 682).toInt.toNat).map (fun j => ms_E σ 49 j)
theorem hdl_e {σ τ : ms_T} (h1 : ms_I τ 682 = ms_I σ 682) (h2 : ∀ j, ms_E τ 49 j = ms_E σ 49 j) : hdl τ = hdl σ := by
  unfold hdl
  rw [h1]
  exact List.map_congr_left (fun j _ => h2 j)
def HDX (α : hp_T) (x : Nat) (σ : ms_T) : Prop := RWL α (hp_R α 608 x) (hdl σ)
def hef (x : Nat) (α β : hp_T) : Prop := (∀ φ b, ¬ (b = x ∧ (φ = 608 ∨ φ = 609)) → ¬ (b = x + 945 ∧ φ = 350) → hp_R β φ b = hp_R α φ b) ∧ hp_K β = hp_K α ∧ hp_Q β = hp_Q α ∧ hp_N β = hp_N α ∧ (∀ φ b, ¬ (b = x ∧ (φ = 600 ∨ φ = 605)) → ¬ (φ = 301 ∧ (b = x + 926 ∨ b = x + 928)) → (b < x + 944 ∨ x + 955 ≤ b) → hp_I β φ b = hp_I α φ b) ∧ ∀ κ b j, ¬ (κ = 20 ∧ (b = x + 927 ∨ b = x + 929)) → (b < x + 944 ∨ x + 955 ≤ b) → hp_E β κ b j = hp_E α κ b j
def hew0 : List Nat := [652, 653, 657, 658, 659, 660, 667, 668, 669, 670, 671, 672, 673, 674, 675, 676]
def hew : List Nat := [652, 653, 657, 658, 659, 660, 667, 668, 669, 670, 671, 672, 673, 674, 675, 676, 682]
def HRO (x : Nat) (α : hp_T) (σ : ms_T) (res r : Int32 × ms_T) (a : Int32 × hp_T) : Prop := a.1 = res.1 ∧ TPX a.2 x res.2 ∧ XHR a.2 x ∧ (HDX α x σ → HDX a.2 x res.2) ∧ (FLX α x σ → FLX a.2 x res.2) ∧ hef x α a.2 ∧ fr hew [42, 43, 44, 49, 50] σ res.2
theorem r_hear (n : Nat) (hn : 70000 ≤ n) (α : hp_T) (x : Nat) (σ : ms_T) (hR : RI σ) (hG : GC α) (hX : XSH α x) (hH : XHR α x) (hRW : RWX α x (ms_E σ 40)) (tp : TPX α x σ) (a : Int32) (res : Int32 × ms_T) (e : f_X12_hear n σ a = some res) :
    ws (f_X11_hear n α x a) (HRO x α σ res res) := by
  obtain ⟨s1, s2, s3, s4, s5, s6⟩ := id hX
  obtain ⟨tp1, tp2⟩ := id tp
  obtain ⟨hS, h89, h926, h928⟩ := id hH
  have hC := hR.2
  have h667 := hR.1.2.1
  unfold f_X12_hear at e
  replace e := ms_bE e
  obtain ⟨x1, ex1, e⟩ := e
  have hin := v_isIn n a 0 (ms_I σ 667) x1 ex1
  rw [lt0] at hin
  have hrefuse : ¬ (0 ≤ a.toInt ∧ a.toInt ≤ (ms_I σ 667).toInt) → ws (f_X11_hear_J12 n x α) (HRO x α σ res res) := by
    intro hno
    have hx1 : x1 = 0 := by
      rcases hin with ⟨-, g⟩ | ⟨g, -⟩
      · exact absurd g hno
      · exact g
    rw [if_pos hx1] at e
    unfold f_X12_hear_J18 at e
    have he := v_is1 n σ 1 (by decide) (k := fun τ => some ((-1 : Int32), τ)) (l := fun τ => ms_b (f_X12_begins n τ a) fun σh5 => f_X12_hear_L35 n n σh5 0 0) (P := fun r => r = (-1, ms_sI (ms_sI σ 653 0) 652 1)) (pr_s rfl) res e
    subst he
    unfold f_X11_hear_J12
    refine ws_hc (k_refuse n α x 1) (fun v β hv => ws_s ?_)
    obtain ⟨rfl, hβ⟩ := hv
    dsimp only at hβ
    subst hβ
    have hfr : fr hew [42, 43, 44, 49, 50] σ (ms_sI (ms_sI σ 653 0) 652 1) := fr_tr (fr_sI (by decide)) (fr_sI (by decide))
    refine ⟨rfl, ⟨by rw [hI_sI, if_neg (fun z => absurd z.1 (by decide))]; exact tp1, tp2⟩, hH, fun h => ?_, fun h => ?_, ⟨fun _ _ _ _ => rfl, rfl, rfl, rfl, fun φ b h1 _ _ => by rw [hI_sI, if_neg (fun z => h1 ⟨z.2, Or.inl z.1⟩)], fun _ _ _ _ _ => rfl⟩, hfr⟩
    · unfold HDX at h ⊢
      show RWL (hp_sI α 600 x 1) (hp_R α 608 x) (hdl (ms_sI (ms_sI σ 653 0) 652 1))
      rw [hdl_e (σ := σ) (τ := ms_sI (ms_sI σ 653 0) 652 1) rfl (fun _ => rfl)]
      exact RWL_st h
    · exact ⟨by rw [hI_sI, if_neg (fun z => absurd z.1 (by decide))]; exact h.1, by rw [hI_sI, if_neg (fun z => absurd z.1 (by decide))]; exact h.2⟩
  unfold f_X11_hear
  refine ws_lt (fun hneg => hrefuse (by rw [lt0] at hneg; omega)) (fun hpos => ws_l ?_)
  rw [lt0] at hpos
  rw [tp1]
  refine ws_le (fun hle => ?_) (fun hgt => hrefuse (by omega))
  have hx1 : x1 = 1 := by
    rcases hin with ⟨g, -⟩ | ⟨-, g⟩
    · exact g
    · exact absurd ⟨by omega, hle⟩ g
  rw [if_neg (by rw [hx1]; decide)] at e
  unfold f_X12_hear_J18 at e
  replace e := v_is0 n σ (k := fun τ => some ((-1 : Int32), τ)) (l := fun τ => ms_b (f_X12_begins n τ a) fun σh5 => f_X12_hear_L35 n n σh5 0 0) (P := fun r => (ms_b (f_X12_begins n (ms_sI (ms_sI σ 653 0) 652 0) a) fun σh5 => f_X12_hear_L35 n n σh5 0 0) = some r) (fun r hr => hr) res e
  obtain ⟨σ0, hσ0⟩ : ∃ τ, τ = ms_sI (ms_sI σ 653 0) 652 0 := ⟨_, rfl⟩
  rw [← hσ0] at e
  have f0 : fr [653, 652] [] σ σ0 := by rw [hσ0]; exact fr_tr (fr_sI (by decide)) (fr_sI (by decide))
  replace e := ms_bE e
  obtain ⟨σ5, eb, e⟩ := e
  obtain ⟨N, hNN⟩ : ∃ N : Nat, a.toInt = (N : Int) := ⟨a.toInt.toNat, by omega⟩
  obtain ⟨t, ht⟩ : ∃ t : Nat → Int32, t = fun j => ms_E σ 47 j := ⟨_, rfl⟩
  have t1 : ∀ j, j < N → hp_E α 24 (x + 921) j = t j := fun j hj => by rw [ht]; exact tp2 j (by omega)
  have t2 : ∀ j, j < N → ms_E σ0 47 j = t j := fun j hj => by rw [f0.2 47 (by decide) j, ht]
  obtain ⟨w, u, h1, h2, h3, hWR, -⟩ := id hRW
  refine ws_l (ws_l ?_)
  rw [s5, s3]
  refine ws_b (r_begin9 n hn (t := t) (N := N) s6.1 s4 (by omega) a hNN t1) (fun γ hγ => ?_)
  obtain ⟨⟨g1, g2, g3, gR, gR2, gK, gQ, gN, gI, gE⟩, g301⟩ := hγ
  obtain ⟨hT, hfb⟩ := g1 σ0 σ5 t2 eb
  have gRx : ∀ φ b, φ ≠ 350 → hp_R γ φ b = hp_R α φ b := fun φ b hφ => gR φ b (fun z => hφ z.1)
  have c5 : ms_E σ5 40 = ms_E σ 40 := funext (fun j => (hfb.2 40 (by decide) j).trans (f0.2 40 (by decide) j))
  have hSγ : RSH γ (x + 944) := by
    obtain ⟨⟨r1, r2, r3⟩, r4, r5, r6, r7, r8, r9⟩ := hS
    exact ⟨⟨by rw [gRx 200 _ (by decide)]; exact r1, by rw [gRx 207 _ (by decide)]; exact r2, by rw [gRx 500 _ (by decide)]; exact r3⟩, by rw [gRx 201 _ (by decide)]; exact r4, by rw [gRx 300 _ (by decide)]; exact r5, by rw [gRx 202 _ (by decide)]; exact r6, by rw [gRx 450 _ (by decide)]; exact r7, by rw [gRx 451 _ (by decide)]; exact r8, by rw [gRx 452 _ (by decide)]; exact r9⟩
  obtain ⟨V, hV⟩ : ∃ V, V = hp_R α 609 x := ⟨_, rfl⟩
  obtain ⟨U, hU⟩ : ∃ U, U = hp_R α 608 x := ⟨_, rfl⟩
  have hUV : (U = x + 926 ∧ V = x + 928) ∨ (U = x + 928 ∧ V = x + 926) := by rw [hU, hV]; exact h89
  have hV3 : hp_R γ 300 V = V + 1 := by
    rw [gRx 300 _ (by decide)]
    rcases hUV with z | z
    · rw [z.2, h928]
    · rw [z.2, h926]
  have hU3 : hp_R γ 300 U = U + 1 := by
    rw [gRx 300 _ (by decide)]
    rcases hUV with z | z
    · rw [z.1, h926]
    · rw [z.1, h928]
  refine ws_l (ws_l (ws_l (ws_l ?_)))
  have wr : x + 1 ≤ w ∧ w + 459 ≤ x + 919 := by omega
  have e550 : hp_I γ 550 w = ms_E σ 40 1 := by rw [gI 550 w (by omega)]; exact hWR.2.1.1
  rw [gRx 616 _ (by decide), s5, gRx 601 _ (by decide), h1, e550, gRx 609 _ (by decide), ← hV]
  have hread : ws (f_X3_readProofs n γ (x + 944) (ms_E σ 40 1) V) (HPO n (x + 944) V res γ σ5) := by
    unfold f_X3_readProofs
    refine ws_l ?_
    obtain ⟨γ1, hγ1⟩ : ∃ z, z = hp_sI γ 203 (x + 944) (ms_E σ 40 1) := ⟨_, rfl⟩
    rw [← hγ1]
    have r1 : rfr (x + 944) γ γ1 := by rw [hγ1]; exact rfr_sI
    have i301 : ∀ b, hp_I γ1 301 b = hp_I γ 301 b := fun b => by rw [hγ1, hI_sI, if_neg (fun z => absurd z.1 (by decide))]
    have gV : 0 ≤ (hp_I γ1 301 V).toInt ∧ (hp_I γ1 301 V).toInt ≤ 64 := by
      rw [i301, gI 301 V (by omega)]; exact hG.1 301 V rfl
    obtain ⟨l, hl⟩ := RWL_any (α := γ1) (a := V) gV.1 gV.2
    refine ws_b (k_rshort n hl 0 (Nat.zero_le _) 0 (by decide)) (fun γ2 hγ2 => ?_)
    obtain ⟨hR2, hef2⟩ := hγ2
    rw [List.take_zero] at hR2
    have hS2 : RSH γ2 (x + 944) := RSH_R hSγ (hef2.1.trans r1.1)
    have eRγ : hp_R γ 200 (x + 944) = x + 944 + 1 := hSγ.1.1
    have eRγ1 : hp_R γ1 200 (x + 944) = x + 944 + 1 := by rw [r1.1]; exact eRγ
    have hT1 : TOK γ1 (x + 944) σ5 t N (tkP t N 0) := TOK_e hT r1.1 r1.2.1 (fun b j => by rw [hγ1]; rfl) (fun φ p q => by rw [hγ1, hI_sI, if_neg (fun z => by omega)])
    have hT2 : TOK γ2 (x + 944) σ5 t N (tkP t N 0) := TOK_e hT1 hef2.1 hef2.2.1 (fun b j => hef2.2.2.2.2.2 24 b j (fun z => absurd z.1 (by decide))) (fun φ p q => hef2.2.2.2.2.1 φ _ (fun z => by omega))
    have hV1 : hp_R γ1 300 V = V + 1 := by rw [r1.1]; exact hV3
    have i203 : hp_I γ2 203 (x + 944) = ms_E σ5 40 1 := by
      rw [hef2.2.2.2.2.1 203 _ (fun z => absurd z.2 (by decide)), hγ1, hI_sI, if_pos ⟨rfl, rfl⟩, c5]
    have hrr : 0 ≤ (hp_I γ2 301 (x + 944 + 3)).toInt ∧ (hp_I γ2 301 (x + 944 + 3)).toInt ≤ 64 := by
      rw [hef2.2.2.2.2.1 301 _ (fun z => by omega), i301, g301]
      exact hG.1 301 (x + 944 + 3) rfl
    have kf : KF (x + 944) γ γ2 := ⟨by rw [hef2.2.2.2.2.1 204 _ (fun z => absurd z.2 (by decide)), hγ1, hI_sI, if_neg (fun z => absurd z.1 (by decide))], by rw [hef2.2.2.2.2.1 205 _ (fun z => absurd z.2 (by decide)), hγ1, hI_sI, if_neg (fun z => absurd z.1 (by decide))]⟩
    refine ws_m (r_proofs_L n hn (x + 944) V t N res (by omega) n γ2 σ5 [] _ 0 0 0 0 n hS2 hT2 i203 (by rw [c5]; exact hC) hrr (by rw [hef2.1]; exact hV1) hR2 (by decide) (by decide) rfl (fun j hj => absurd hj (by simp)) (by decide) (Nat.zero_le _) (by omega) e) (fun b hb => HPO_tr (hfr_tr (hfr_r r1) (hfr_ef hef2 hV1)) fr_rf kf hb)
  refine ws_hc hread (fun v δ hδ => ws_l ?_)
  obtain ⟨⟨dR, dK, dQ, dN, dI, dE⟩, τ, mI, gI', fτ, e, hc⟩ := hδ
  replace dR : hp_R δ = hp_R γ := dR
  replace dI : ∀ φ b, ¬ (φ = 301 ∧ b = V) → (b < x + 944 ∨ x + 944 + 11 ≤ b) → hp_I δ φ b = hp_I γ φ b := dI
  replace dE : ∀ κ b j, ¬ (κ = 20 ∧ b = V + 1) → (b < x + 944 ∨ x + 944 + 11 ≤ b) → hp_E δ κ b j = hp_E γ κ b j := dE
  unfold f_X12_hear_J153 at e
  replace e := ms_bE e
  obtain ⟨υ, eυ, e⟩ := e
  obtain ⟨n7, n8, n9, n2, fυ⟩ := v_ends n τ υ eυ
  have ff0 : fr hew0 [42, 43, 44, 50] σ υ := fr_tr (fr_sb f0 (by decide) (by decide)) (fr_tr (fr_sb hfb (by decide) (by decide)) (fr_tr (fr_sb fτ (by decide) (by decide)) (fr_sb fυ (by decide) (by decide))))
  have ff : fr hew [42, 43, 44, 49, 50] σ υ := fr_sb ff0 (by decide) (by decide)
  have e670 : ms_I υ 670 = ms_I τ 670 := fυ.1 670 (by decide)
  obtain ⟨ε, hε⟩ : ∃ z, z = hp_sI δ 605 x 0 := ⟨_, rfl⟩
  rw [← hε]
  have eR : hp_R ε = hp_R γ := by rw [hε]; exact dR
  have eI : ∀ φ b, hp_I ε φ b = if φ = 605 ∧ b = x then 0 else hp_I δ φ b := fun φ b => by rw [hε, hI_sI]
  have eE : hp_E ε = hp_E δ := by rw [hε]; rfl
  have eK : hp_K ε = hp_K α := by rw [hε]; exact dK.trans gK
  have eQ : hp_Q ε = hp_Q α := by rw [hε]; exact dQ.trans gQ
  have eN : hp_N ε = hp_N α := by rw [hε]; exact dN.trans gN
  -- the row heard ahead
  have hUd : ∀ l, RWL α U l → ∀ β : hp_T, hp_R β 300 U = U + 1 → hp_I β 301 U = hp_I δ 301 U → (∀ j, hp_E β 20 (U + 1) j = hp_E δ 20 (U + 1) j) → RWL β U l := fun l hl β b1 b2 b3 => by
    refine ⟨hl.1, by rw [b2, dI 301 U (by omega) (by omega), gI 301 U (by omega)]; exact hl.2.1, fun k hk => ?_⟩
    have := hl.2.2 k hk
    rw [show hp_R α 300 U = U + 1 by rw [← gRx 300 _ (by decide)]; exact hU3] at this
    rw [b1, b3, dE 20 (U + 1) k (by omega) (by omega), gE]
    exact this
  rcases hc with ⟨v0, hB⟩ | ⟨v1, h670, ⟨yl, hRy, hy20, hmI, hgI, hWy⟩, hKF⟩
  · replace v0 : v = 0 := v0
    subst v0
    replace hB : BAD δ (x + 944) τ := hB
    have hp := hB.1
    rw [if_neg (fun z => by have := il_le z; rw [e670, lt0] at this; omega)] at e
    cases e
    refine ws_i (fun _ => ?_) (fun z => absurd rfl z)
    refine ws_hc (k_refuse n ε x 9) (fun r ζ hz => ws_s ?_)
    obtain ⟨z1, z2⟩ := hz
    replace z1 : r = -1 := z1
    replace z2 : ζ = hp_sI ε 600 x 9 := z2
    have zI : ∀ φ b, φ ≠ 600 → hp_I ζ φ b = hp_I ε φ b := fun φ b hφ => by rw [z2, hI_sI, if_neg (fun z => hφ z.1)]
    have zR : hp_R ζ = hp_R γ := by rw [z2]; exact eR
    have zE : hp_E ζ = hp_E δ := by rw [z2]; exact eE
    refine ⟨z1, ⟨?_, fun j hj => ?_⟩, ⟨RSH_R hSγ zR, ?_, ?_, ?_⟩, fun h => ?_, fun _ => ⟨?_, ?_⟩, ⟨fun φ b p q => ?_, by rw [z2]; exact eK, by rw [z2]; exact eQ, by rw [z2]; exact eN, fun φ b p q r => ?_, fun κ b j p q => ?_⟩, ff⟩
    · show hp_I ζ 605 x = ms_I υ 667
      rw [zI 605 x (by decide), eI, if_pos ⟨rfl, rfl⟩, n7]
    · replace hj : (j : Int) < (ms_I υ 667).toInt := hj
      rw [n7, lt0] at hj; omega
    · show (hp_R ζ 608 x = _ ∧ _) ∨ _
      rw [zR, gRx 608 _ (by decide), gRx 609 _ (by decide)]; exact h89
    · show hp_R ζ 300 _ = _
      rw [zR, gRx 300 _ (by decide)]; exact h926
    · show hp_R ζ 300 _ = _
      rw [zR, gRx 300 _ (by decide)]; exact h928
    · unfold HDX at h ⊢
      rw [hdl_e (σ := σ) (τ := υ) (ff0.1 682 (by decide)) (fun j => ff0.2 49 (by decide) j)]
      show RWL ζ (hp_R ζ 608 x) _
      rw [zR, gRx 608 _ (by decide), ← hU]
      rw [← hU] at h
      exact hUd _ h ζ (by rw [zR]; exact hU3) (by rw [zI 301 _ (by decide), eI, if_neg (fun z => absurd z.1 (by decide))]) (fun j => by rw [zE])
    · show hp_I ζ 204 _ = ms_I υ 668
      rw [zI 204 _ (by decide), eI, if_neg (fun z => absurd z.1 (by decide)), n8]; exact hB.2.1
    · show hp_I ζ 205 _ = ms_I υ 669
      rw [zI 205 _ (by decide), eI, if_neg (fun z => absurd z.1 (by decide)), n9, if_neg (by omega)]; exact hB.2.2
    · show hp_R ζ φ b = _
      rw [zR, gR φ b (fun z => q ⟨z.2, z.1⟩)]
    · show hp_I ζ φ b = _
      rw [z2, hI_sI, if_neg (fun z => p ⟨z.2, Or.inl z.1⟩), eI, if_neg (fun z => p ⟨z.2, Or.inr z.1⟩), dI φ b (fun z => q ⟨z.1, by omega⟩) (by omega), gI φ b (by omega)]
    · show hp_E ζ κ b j = _
      rw [zE, dE κ b j (fun z => p ⟨z.1, by omega⟩) (by omega), gE]
  · replace v1 : v = 1 := v1
    subst v1
    replace hRy : RWL δ V yl := hRy
    replace hKF : KF (x + 944) γ δ := hKF
    rw [if_pos (by rw [e670, h670]; decide)] at e
    obtain ⟨p1, p2, p3, p4⟩ := v_hear_169 n yl.length mI gI' hmI υ n 0 υ 0 (by decide) (Nat.zero_le _) fr_rf (fun j hj => absurd hj (Nat.not_lt_zero _)) res e
    refine ws_i (fun z => absurd z (by decide)) (fun _ => ws_l (ws_l ?_))
    rw [show hp_R ε 609 x = V by rw [eR, gRx 609 _ (by decide)]; exact hV.symm, show hp_R ε 608 x = U by rw [eR, gRx 608 _ (by decide)]; exact hU.symm]
    obtain ⟨ζ, hζ⟩ : ∃ z, z = hp_sR (hp_sR ε 608 x V) 609 x U := ⟨_, rfl⟩
    refine ws_ln (fun ε1 hε1 => ws_ln (fun ζ' hζ' => ?_))
    have hζζ : ζ' = ζ := by rw [hζ', hε1, hζ]
    rw [hζζ]
    clear hζζ hζ' ε1 hε1 ζ'
    have zR : ∀ φ b, hp_R ζ φ b = if φ = 609 ∧ b = x then U else if φ = 608 ∧ b = x then V else hp_R γ φ b := fun φ b => by rw [hζ, hR_sR, hR_sR, eR]
    have zRn : ∀ φ b, ¬ (b = x ∧ (φ = 608 ∨ φ = 609)) → hp_R ζ φ b = hp_R γ φ b := fun φ b hb => by rw [zR, if_neg (fun h => hb ⟨h.2, Or.inr h.1⟩), if_neg (fun h => hb ⟨h.2, Or.inl h.1⟩)]
    have zI : hp_I ζ = hp_I ε := by rw [hζ]; rfl
    have zE : hp_E ζ = hp_E δ := by rw [hζ]; exact eE
    have z608 : hp_R ζ 608 x = V := by rw [zR, if_neg (fun h => absurd h.1 (by decide)), if_pos ⟨rfl, rfl⟩]
    have z609 : hp_R ζ 609 x = U := by rw [zR, if_pos ⟨rfl, rfl⟩]
    refine ws_l ?_
    rw [z608]
    have zV3 : hp_R ζ 300 V = V + 1 := by rw [zRn 300 V (by omega)]; exact hV3
    have dV3 : hp_R δ 300 V = V + 1 := by rw [dR]; exact hV3
    have hRζ : RWL ζ V yl := ⟨hRy.1, by rw [zI, eI, if_neg (fun z => absurd z.1 (by decide))]; exact hRy.2.1, fun k hk => by rw [zV3, zE, ← dV3]; exact hRy.2.2 k hk⟩
    refine ws_b (k_countOf n hn hRζ) (fun r hr => ws_hc (k_answer n ζ x r) (fun v2 η hη => ws_s ?_))
    obtain ⟨y1, y2⟩ := hη
    replace y1 : v2 = r := y1
    replace y2 : η = hp_sI ζ 600 x 0 := y2
    have yR : ∀ φ b, hp_R η φ b = hp_R ζ φ b := fun φ b => by rw [y2]; rfl
    have yI : ∀ φ b, φ ≠ 600 → hp_I η φ b = hp_I ε φ b := fun φ b hφ => by rw [y2, hI_sI, if_neg (fun z => hφ z.1), zI]
    have yE : hp_E η = hp_E δ := by rw [y2]; exact zE
    have h682 : ms_I res.2 682 = mI := p2
    have hhd : hdl res.2 = yl := by
      unfold hdl
      rw [h682, show mI.toInt.toNat = yl.length by omega]
      refine List.ext_getElem (by rw [List.length_map, List.length_range]) (fun i g1 g2 => ?_)
      rw [List.getElem_map, List.getElem_range]
      have q1 := p3 i g2
      have q2 := hWy i g2
      rw [List.getElem?_eq_getElem g2] at q2
      rw [q1, fυ.2 50 (by decide) i]
      exact Option.some.inj q2
    have e7 : ms_I res.2 667 = 0 := by rw [p4.1 667 (by decide)]; exact n7
    have f2 : fr hew [42, 43, 44, 49, 50] σ res.2 := fr_tr ff (fr_sb p4 (by decide) (by decide))
    refine ⟨?_, ⟨?_, fun j hj => ?_⟩, ⟨?_, ?_, ?_, ?_⟩, fun _ => ?_, fun _ => ⟨?_, ?_⟩, ⟨fun φ b p q => ?_, ?_, ?_, ?_, fun φ b p q r => ?_, fun κ b j p q => ?_⟩, f2⟩
    · show v2 = res.1
      rw [y1, p1]
      exact Int32.toInt_inj.mp (by rw [hr, hgI])
    · show hp_I η 605 x = _
      rw [yI 605 x (by decide), eI, if_pos ⟨rfl, rfl⟩, e7]
    · rw [e7, lt0] at hj; omega
    · obtain ⟨⟨r1, r2, r3⟩, r4, r5, r6, r7, r8, r9⟩ := hSγ
      have q : ∀ φ b, ¬ b = x → hp_R η φ b = hp_R γ φ b := fun φ b hb => by rw [yR, zRn φ b (fun z => hb z.1)]
      exact ⟨⟨by rw [q 200 _ (by omega)]; exact r1, by rw [q 207 _ (by omega)]; exact r2, by rw [q 500 _ (by omega)]; exact r3⟩, by rw [q 201 _ (by omega)]; exact r4, by rw [q 300 _ (by omega)]; exact r5, by rw [q 202 _ (by omega)]; exact r6, by rw [q 450 _ (by omega)]; exact r7, by rw [q 451 _ (by omega)]; exact r8, by rw [q 452 _ (by omega)]; exact r9⟩
    · show (hp_R η 608 x = _ ∧ _) ∨ _
      rw [yR, yR, z608, z609]; omega
    · show hp_R η 300 _ = _
      rw [yR, zRn 300 _ (by omega), gRx 300 _ (by decide)]; exact h926
    · show hp_R η 300 _ = _
      rw [yR, zRn 300 _ (by omega), gRx 300 _ (by decide)]; exact h928
    · unfold HDX
      show RWL η (hp_R η 608 x) _
      rw [hhd, yR, z608, y2]
      exact RWL_st hRζ
    · show hp_I η 204 _ = ms_I res.2 668
      rw [yI 204 _ (by decide), eI, if_neg (fun z => absurd z.1 (by decide)), hKF.1, g2, p4.1 668 (by decide), n8, h670]
    · show hp_I η 205 _ = ms_I res.2 669
      rw [yI 205 _ (by decide), eI, if_neg (fun z => absurd z.1 (by decide)), hKF.2, g3, p4.1 669 (by decide), n9, if_pos (by rw [h670]; decide)]
    · show hp_R η φ b = _
      rw [yR, zRn φ b p, gR φ b (fun z => q ⟨z.2, z.1⟩)]
    · show hp_K η = _
      rw [y2]
      show hp_K ζ = _
      rw [hζ]; exact eK
    · show hp_Q η = _
      rw [y2]
      show hp_Q ζ = _
      rw [hζ]; exact eQ
    · show hp_N η = _
      rw [y2]
      show hp_N ζ = _
      rw [hζ]; exact eN
    · show hp_I η φ b = _
      rw [y2, hI_sI, if_neg (fun z => p ⟨z.2, Or.inl z.1⟩), zI, eI, if_neg (fun z => p ⟨z.2, Or.inr z.1⟩), dI φ b (fun z => q ⟨z.1, by omega⟩) (by omega), gI φ b (by omega)]
    · show hp_E η κ b j = _
      rw [yE, dE κ b j (fun z => p ⟨z.1, by omega⟩) (by omega), gE]
end JN9_9
section JN9_10
set_option maxRecDepth 100000
theorem k_isMark (n : Nat) {α : hp_T} {x w : Nat} {m : Int32} (h1 : hp_R α 601 x = w) (hm : hp_I α 550 w = m) (a : Int32) : ws (f_X11_isMark n α x a) (fun r => bo r (0 ≤ a.toInt ∧ a.toInt < m.toInt)) := by
  unfold f_X11_isMark
  refine ws_lt (fun e => ws_s (Or.inr ⟨rfl, fun q => by rw [lt0] at e; omega⟩)) (fun e => ws_l (ws_l ?_))
  rw [h1, hm]
  rw [lt0] at e
  exact ws_le (fun e2 => ws_s (Or.inr ⟨rfl, fun q => by omega⟩)) (fun e2 => ws_s (Or.inl ⟨rfl, e, e2⟩))
end JN9_10
section JN9_11
set_option maxRecDepth 100000
theorem v_noSize (n : Nat) (σ : ms_T) (hC : rC (ms_E σ 40)) (a b : Int32) : pr (f_X12_noSize n σ a b) (fun v => (v = 0 ∧ 0 ≤ b.toInt ∧ (0 ≤ a.toInt ∧ a.toInt < (ms_E σ 40 0).toInt) ∧ b.toInt ≤ (ms_E σ 40 (72 + a.toInt.toNat)).toInt) ∨ (¬ v = 0 ∧ ¬ (0 ≤ b.toInt ∧ (0 ≤ a.toInt ∧ a.toInt < (ms_E σ 40 0).toInt) ∧ b.toInt ≤ (ms_E σ 40 (72 + a.toInt.toNat)).toInt))) := by
  have h4 := hC.1
  unfold f_X12_noSize
  refine pr_le (fun e => pr_bo (pr_w (s_isRecord hC a)) (fun h0 => pr_s (Or.inr ⟨by decide, fun q => h0 q.2.1⟩)) (fun h1 => ?_)) (fun e => pr_s (Or.inr ⟨by decide, fun q => by rw [lt0] at e; omega⟩))
  rw [lt0] at e
  unfold f_X12_sizeOf
  refine pr_b (T := fun v => v = ms_E σ 40 (72 + a.toInt.toNat)) (pr_g (fun g0 g1 => pr_s ?_)) (fun v hv => ?_)
  · rw [cl_n (i := (72 : Int32) + a) (k := 72 + a.toInt.toNat) (by rw [iw_add, t_72]; omega)]
  · rw [hv]
    exact pr_le (fun e2 => pr_s (Or.inl ⟨rfl, e, h1, e2⟩)) (fun e2 => pr_s (Or.inr ⟨by decide, fun q => by omega⟩))
abbrev hdOK (f : Nat → Int32) (a b : Int32) : Prop := 0 ≤ b.toInt ∧ (0 ≤ a.toInt ∧ a.toInt < (f 0).toInt) ∧ b.toInt ≤ (f (72 + a.toInt.toNat)).toInt
def hdA (f : Nat → Int32) (a b : Int32) : Int32 := if hdOK f a b then TMK (f 1) (EL f a.toInt.toNat) 0 b.toInt.toNat else -1
theorem v_head (n : Nat) (σ : ms_T) (hC : rC (ms_E σ 40)) (a b : Int32) : pr (f_X12_head n σ a b) (fun res => res.1 = hdA (ms_E σ 40) a b) := by
  have h4 := hC.1
  unfold f_X12_head hdA
  refine pr_b (v_noSize n σ hC a b) (fun v hv => ?_)
  rcases hv with ⟨rfl, ok⟩ | ⟨hv, no⟩
  · refine v_is0 n σ ?_
    rw [if_pos ok]
    refine pr_b (v_headOf n (ms_sI (ms_sI σ 653 0) 652 0) hC a.toInt.toNat (by omega) a (by omega) b.toInt.toNat b (by omega) ?_) (fun v hv => pr_s hv)
    rw [EL_len]
    show b.toInt.toNat ≤ (ms_E σ 40 (72 + a.toInt.toNat)).toInt.toNat
    omega
  · refine v_is1 n σ v hv (pr_s ?_)
    rw [if_neg no]
theorem k_head (n : Nat) (hn : 70000 ≤ n) (α : hp_T) (x : Nat) (f : Nat → Int32) (hC : rC f) (h : RWX α x f) (a b : Int32) : ws (f_X11_head n α x a b) (fun res => res.1 = hdA f a b) := by
  obtain ⟨w, u, h1, h2, h3, h4, -⟩ := h
  have hm := h4.2.1.1
  have hm0 := hC.2.1
  have bad : ∀ v : Int32, ¬ hdOK f a b → ws (hq_c (f_X11_refuse n α x v) fun r β => some (r, β)) (fun res => res.1 = hdA f a b) := fun v hno => by
    unfold hdA
    rw [if_neg hno]
    exact ws_hc (k_refuse n α x v) (fun z γ hz => ws_s hz.1)
  unfold f_X11_head f_X11_wrongGrowth
  refine ws_l ?_
  rw [h1]
  refine ws_b (k_logAt n h4 hC a) (fun o ho => ?_)
  by_cases hr : 0 ≤ a.toInt ∧ a.toInt < (f 0).toInt
  · rw [if_pos hr] at ho
    subst ho
    have q152 := (h4.2.2.1 a.toInt.toNat (by have := hC.1; omega)).1
    refine ws_hS ?_
    refine ws_b (S := fun v => (v = 0 ∧ hdOK f a b) ∨ (¬ v = 0 ∧ ¬ hdOK f a b)) (ws_hS (ws_lt (fun e => absurd e (by decide)) (fun _ => ws_le (fun e => ws_l ?_) (fun e => ws_s (Or.inr ⟨by decide, fun q => by rw [lt0] at e; have := q.1; omega⟩))))) (fun v hv => ?_)
    · rw [lt0] at e
      rw [q152]
      exact ws_le (fun e2 => ws_s (Or.inl ⟨rfl, e, hr, e2⟩)) (fun e2 => ws_s (Or.inr ⟨by decide, fun q => by have := q.2.2; omega⟩))
    · rcases hv with ⟨rfl, ok⟩ | ⟨hv, no⟩
      · refine ws_i (fun _ => ws_l ?_) (fun q => absurd rfl q)
        refine ws_hc (k_headOf n hn w α (f 1) (by omega) hm (lpA w a.toInt.toNat) (EL f a.toInt.toNat) (WR_LM h4 hC (by omega)) b.toInt.toNat (by rw [EL_len]; have := ok.2.2; omega) b (by have := ok.1; omega)) (fun v β hβ => ws_hc (k_answer n β x v) (fun z γ hz => ws_s ?_))
        unfold hdA
        rw [if_pos ok]
        exact hz.1.trans hβ.1
      · exact ws_i (fun q => absurd q hv) (fun _ => bad v no)
  · rw [if_neg hr] at ho
    subst ho
    refine ws_hN ?_
    refine ws_b (S := fun v => ¬ v = 0) (ws_hN (ws_lt (fun e => absurd e (by decide)) (fun _ => ws_le (fun e => ws_s (by decide)) (fun e => ws_s (by decide))))) (fun v hv => ?_)
    exact ws_i (fun q => absurd q hv) (fun _ => bad v (fun q => hr q.2.1))
end JN9_11
section JN9_12
set_option maxRecDepth 100000
theorem wyT_in : ∀ (e i f m : Nat), i < m → ∀ q ∈ wyT e i f m, q.1 + q.2.1 ≤ f + m := by
  intro e
  induction e with
  | zero => intro i f m _ q hq; rw [wyT] at hq; exact absurd hq List.not_mem_nil
  | succ e ih =>
    intro i f m him q hq
    rw [wyT] at hq
    by_cases h1 : m ≤ 1
    · rw [if_pos h1] at hq; exact absurd hq List.not_mem_nil
    · rw [if_neg h1] at hq
      have hp1 := p0_lt (m := m) (by omega)
      by_cases h2 : i < p0 m
      · rw [if_pos h2] at hq
        rcases List.mem_cons.mp hq with h | h
        · rw [h]; show f + p0 m + (m - p0 m) ≤ _; omega
        · have := ih _ _ _ h2 q h; omega
      · rw [if_neg h2] at hq
        rcases List.mem_cons.mp hq with h | h
        · rw [h]; show f + p0 m ≤ _; omega
        · have := ih (i - p0 m) (f + p0 m) (m - p0 m) (by omega) q h; omega
theorem wyT_rin {N I : Nat} (h : I < N) : ∀ q ∈ (wyT 31 I 0 N).reverse, q.1 + q.2.1 ≤ N := fun q hq => by
  have := wyT_in 31 I 0 N h q (List.mem_reverse.mp hq)
  omega
theorem pdl_eq {f : Nat → Int32} {l : List Int32} (h2 : (f 2).toInt = (l.length : Int)) (h : ∀ k, k < l.length → some (f (8 + k)) = l[k]?) : pdl f = l := by
  refine List.ext_getElem? (fun k => ?_)
  unfold pdl
  by_cases hk : k < l.length
  · rw [List.getElem?_map, List.getElem?_range (by omega)]
    exact h k hk
  · rw [List.getElem?_eq_none (by rw [List.length_map, List.length_range]; omega), List.getElem?_eq_none (by omega)]
theorem v_pads_L (n L : Nat) (hL : L ≤ 64) (f44 : Nat → Int32) : ∀ (k : Nat) (σ : ms_T) (v : Nat) (vI : Int32), vI.toInt = (v : Int) → v ≤ L → (ms_I σ 657).toInt = (L : Int) → (∀ j, j < L → ms_E σ 44 j = f44 j) → (∀ j, j < v → ms_E σ 40 (8 + j) = f44 j) → pr (f_X12_pads_L7 n k σ vI) (fun res => res.1.toInt = (L : Int) ∧ (ms_E res.2 40 2).toInt = (L : Int) ∧ ∀ j, j < L → ms_E res.2 40 (8 + j) = f44 j) := by
  intro k
  induction k with
  | zero => intro σ v vI _ _ _ _ _; rw [f_X12_pads_L7.eq_1]; exact pr_0
  | succ k ih =>
    intro σ v vI hv hvl h7 h44 hc
    have c2 : ((2 : Int32)).toNatClampNeg = 2 := by decide
    rw [f_X12_pads_L7.eq_2, c2]
    refine pr_le (fun e => pr_g (fun _ _ => pr_l (pr_s ⟨h7, ?_, fun j hj => ?_⟩))) (fun e => pr_g (fun g0 g1 => pr_g (fun _ _ => pr_l (pr_l ?_))))
    · show (ms_E (ms_sE σ 40 2 (ms_I σ 657)) 40 2).toInt = _
      rw [mE_sE, if_pos ⟨rfl, rfl⟩]; exact h7
    · show ms_E (ms_sE σ 40 2 (ms_I σ 657)) 40 (8 + j) = _
      rw [mE_sE, if_neg (fun q => by omega)]
      exact hc j (by omega)
    · have ec : ((8 : Int32) + vI).toNatClampNeg = 8 + v := cl_n (by rw [iw_add, t_8]; omega)
      have e1 : (vI + 1).toInt = ((v + 1 : Nat) : Int) := by rw [iw_add, lt1]; omega
      rw [ec, cl_n hv]
      refine ih _ (v + 1) _ e1 (by omega) h7 (fun j hj => ?_) (fun j hj => ?_)
      · rw [mE_sE, if_neg (fun q => absurd q.1 (by decide))]; exact h44 j hj
      · rw [mE_sE]
        by_cases ej : j = v
        · rw [if_pos ⟨rfl, by omega⟩, ej]; exact h44 v (by omega)
        · rw [if_neg (fun q => by omega)]; exact hc j (by omega)
theorem v_pads (n : Nat) (σ : ms_T) (hC : rC (ms_E σ 40)) (r : Nat) (hr : r < 4) (rI : Int32) (hrI : rI.toInt = (r : Int)) (l : List (Nat × Nat × Bool)) (hW : WS σ l) (hl : l.length ≤ 64) (hin : ∀ q ∈ l, q.1 + q.2.1 ≤ (EL (ms_E σ 40) r).length) : pr (f_X12_pads n σ rI) (fun res => res.1.toInt = (l.length : Int) ∧ pdl (ms_E res.2 40) = mkl (ms_E σ 40 1) (EL (ms_E σ 40) r) l) := by
  unfold f_X12_pads
  refine pr_b (v_fetches n σ hC r hr rI hrI l hW hin) (fun τ hτ => ?_)
  obtain ⟨h1, h2, h3⟩ := hτ
  refine pr_m (v_pads_L n l.length hl (fun j => ms_E τ 44 j) n τ 0 0 rfl (Nat.zero_le _) h2.1 (fun j _ => rfl) (fun j hj => by omega)) (fun res hr => ⟨hr.1, pdl_eq (by rw [mkl_len]; exact hr.2.1) (fun k hk => ?_)⟩)
  rw [mkl_len] at hk
  rw [hr.2.2 k hk]
  exact h1 k (by rw [mkl_len]; exact hk)
abbrev inOK (f : Nat → Int32) (a i m : Int32) : Prop := (0 ≤ i.toInt ∧ 0 ≤ m.toInt) ∧ (0 ≤ a.toInt ∧ a.toInt < (f 0).toInt) ∧ m.toInt ≤ (f (72 + a.toInt.toNat)).toInt ∧ i.toInt < m.toInt
theorem v_noEntry (n : Nat) (σ : ms_T) (hC : rC (ms_E σ 40)) (a i m : Int32) : pr (f_X12_noEntry n σ a i m) (fun v => (v = 0 ∧ inOK (ms_E σ 40) a i m) ∨ (¬ v = 0 ∧ ¬ inOK (ms_E σ 40) a i m)) := by
  have h4 := hC.1
  unfold f_X12_noEntry f_X12_noEntry_J8 f_X12_noEntry_J38
  refine pr_lt (fun e => pr_s (Or.inr ⟨by decide, fun q => by rw [lt0] at e; have := q.1.1; omega⟩)) (fun e => pr_le (fun e2 => ?_) (fun e2 => pr_s (Or.inr ⟨by decide, fun q => by rw [lt0] at e2; have := q.1.2; omega⟩)))
  rw [lt0] at e e2
  refine pr_bo (pr_w (s_isRecord hC a)) (fun h0 => pr_s (Or.inr ⟨by decide, fun q => h0 q.2.1⟩)) (fun h1 => ?_)
  unfold f_X12_sizeOf
  refine pr_b (T := fun v => v = ms_E σ 40 (72 + a.toInt.toNat)) (pr_g (fun g0 g1 => pr_s ?_)) (fun v hv => ?_)
  · rw [cl_n (i := (72 : Int32) + a) (k := 72 + a.toInt.toNat) (by rw [iw_add, t_72]; omega)]
  · rw [hv]
    exact pr_lt (fun e3 => pr_s (Or.inr ⟨by decide, fun q => by have := q.2.2.1; omega⟩)) (fun e3 => pr_lt (fun e4 => pr_s (Or.inl ⟨rfl, ⟨e, e2⟩, h1, e3, e4⟩)) (fun e4 => pr_s (Or.inr ⟨by decide, fun q => by have := q.2.2.2; omega⟩)))
def inL (f : Nat → Int32) (a i m : Int32) : List Int32 := mkl (f 1) (EL f a.toInt.toNat) (wyT 31 i.toInt.toNat 0 m.toInt.toNat).reverse
def inA (f : Nat → Int32) (a i m : Int32) : Int := if inOK f a i m then ((wyT 31 i.toInt.toNat 0 m.toInt.toNat).length : Int) else -1
theorem v_include (n : Nat) (σ : ms_T) (hC : rC (ms_E σ 40)) (a i m : Int32) : pr (f_X12_include n σ a i m) (fun res => res.1.toInt = inA (ms_E σ 40) a i m ∧ pdl (ms_E res.2 40) = if inOK (ms_E σ 40) a i m then inL (ms_E σ 40) a i m else pdl (ms_E σ 40)) := by
  have h4 := hC.1
  unfold f_X12_include inA
  refine pr_b (v_noEntry n σ hC a i m) (fun v hv => ?_)
  rcases hv with ⟨rfl, ok⟩ | ⟨hv, no⟩
  · rw [if_pos ok, if_pos ok]
    have hsz := hC.2.2.2.2.1 a.toInt.toNat (by omega)
    refine v_is0 n σ ?_
    obtain ⟨τ0, hτ0⟩ : ∃ τ, τ = ms_sI (ms_sI σ 653 0) 652 0 := ⟨_, rfl⟩
    have e0 : ms_E τ0 40 = ms_E σ 40 := by rw [hτ0]; rfl
    rw [← hτ0]
    refine pr_b (fun τ hτ => (⟨v_inclusion n τ0 i m ok.1.1 ok.2.2.2 τ hτ, z_X12_inclusion kq_rf τ hτ⟩ : WS τ _ ∧ kq τ0 τ)) (fun τ hτ => ?_)
    obtain ⟨hW, hk⟩ := hτ
    have e1 : ms_E τ 40 = ms_E σ 40 := by rw [show ms_E τ 40 = ms_E τ0 40 from funext (fun j => hk.2 40 rfl j), e0]
    refine pr_c (v_pads n τ (by rw [e1]; exact hC) a.toInt.toNat (by omega) a (by omega) _ hW (by rw [List.length_reverse]; exact Nat.le_trans (wyT_len _ _ _ _) (by decide)) (fun q hq => ?_)) (fun r υ hr => pr_s ⟨?_, ?_⟩)
    · have := wyT_rin (N := m.toInt.toNat) (I := i.toInt.toNat) (by omega) q hq
      rw [e1, EL_len]; omega
    · have h1 := hr.1
      rw [List.length_reverse] at h1
      exact h1
    · have h2 := hr.2
      rw [e1] at h2
      exact h2
  · rw [if_neg no, if_neg no]
    exact v_is1 n σ v hv (pr_s ⟨rfl, rfl⟩)
def pfr (x : Nat) (α β : hp_T) : Prop := hp_R β = hp_R α ∧ hp_K β = hp_K α ∧ hp_Q β = hp_Q α ∧ hp_N β = hp_N α ∧ (∀ φ b, ¬ (φ = 301 ∧ b = x + 919) → φ ≠ 453 → φ ≠ 454 → φ ≠ 600 → hp_I β φ b = hp_I α φ b) ∧ ∀ κ b j, ¬ (κ = 20 ∧ b = x + 920) → κ ≠ 21 → κ ≠ 22 → κ ≠ 23 → κ ≠ 33 → hp_E β κ b j = hp_E α κ b j
theorem pfr_tr {x : Nat} {α β γ : hp_T} (h : pfr x α β) (g : pfr x β γ) : pfr x α γ := by
  obtain ⟨h1, h2, h3, h4, h5, h6⟩ := h
  obtain ⟨g1, g2, g3, g4, g5, g6⟩ := g
  exact ⟨g1.trans h1, g2.trans h2, g3.trans h3, g4.trans h4, fun φ b q1 q2 q3 q4 => (g5 φ b q1 q2 q3 q4).trans (h5 φ b q1 q2 q3 q4), fun κ b j q1 q2 q3 q4 q5 => (g6 κ b j q1 q2 q3 q4 q5).trans (h6 κ b j q1 q2 q3 q4 q5)⟩
theorem pfr_wf {x a : Nat} {α β : hp_T} (h : wf a α β) : pfr x α β := by
  obtain ⟨h1, h2, h3, h4, h5, h6⟩ := h
  exact ⟨h1, h2, h3, h4, fun φ b _ q2 q3 _ => h5 φ b (fun z => by omega), fun κ b j _ q2 q3 q4 _ => h6 κ b j (fun z => by omega)⟩
theorem pfr_qf {x w : Nat} {α β : hp_T} (h : qf w (x + 919) α β) (h3 : hp_R α 300 (x + 919) = x + 920) : pfr x α β := by
  obtain ⟨h1, h2, h3', h4, h5, h6⟩ := h
  exact ⟨h1, h2, h3', h4, fun φ b q1 _ _ _ => h5 φ b (fun z => q1 ⟨z.2, z.1⟩), fun κ b j q1 _ _ _ q5 => h6 κ b j (fun z => q5 z.1) (fun z => q1 ⟨z.1, by rw [z.2, h3]⟩)⟩
theorem pfr_st {x a : Nat} {α : hp_T} {v : Int32} : pfr x α (hp_sI α 600 a v) := ⟨rfl, rfl, rfl, rfl, fun φ b _ _ _ q4 => by rw [hI_sI, if_neg (fun z => q4 z.1)], fun _ _ _ _ _ _ _ _ => rfl⟩
theorem WR_wf {α β : hp_T} {w a : Nat} {f : Nat → Int32} (h : WR α w f) (hC : rC f) (g : wf a α β) : WR β w f :=
  WR_f h hC g.1 g.2.2.1 (fun φ b _ _ hφ => g.2.2.2.2.1 φ b (fun z => by omega)) (fun κ b j _ _ hκ => g.2.2.2.2.2 κ b j (fun z => by omega))
theorem k_include (n : Nat) (hn : 70000 ≤ n) (α : hp_T) (x : Nat) (f : Nat → Int32) (hC : rC f) (h : RWX α x f) (h6 : hp_R α 603 x = x + 919) (h3 : hp_R α 300 (x + 919) = x + 920) (pl : List Int32) (hP : RWL α (x + 919) pl) (a i m : Int32) : ws (f_X11_include n α x a i m) (fun res => res.1.toInt = inA f a i m ∧ RWL res.2 (x + 919) (if inOK f a i m then inL f a i m else pl) ∧ pfr x α res.2) := by
  obtain ⟨w, u, h1, h2, -, h4, -⟩ := h
  have hm0 := hC.2.1
  have h44 := hC.1
  have bad : ∀ v : Int32, ¬ inOK f a i m → ws (hq_c (f_X11_refuse n α x v) fun r β => some (r, β)) (fun res => res.1.toInt = inA f a i m ∧ RWL res.2 (x + 919) (if inOK f a i m then inL f a i m else pl) ∧ pfr x α res.2) := fun v hno => by
    unfold inA
    rw [if_neg hno, if_neg hno]
    refine ws_hc (k_refuse n α x v) (fun z γ hz => ws_s ⟨by rw [show z = -1 from hz.1]; rfl, ?_, ?_⟩)
    · rw [show γ = hp_sI α 600 x v from hz.2]; exact RWL_st hP
    · rw [show γ = hp_sI α 600 x v from hz.2]; exact pfr_st
  unfold f_X11_include f_X11_wrongInclusion f_X11_wrongInclusions_J29
  refine ws_l ?_
  rw [h1]
  refine ws_b (k_logAt n h4 hC a) (fun o ho => ?_)
  by_cases hr : 0 ≤ a.toInt ∧ a.toInt < (f 0).toInt
  · rw [if_pos hr] at ho
    subst ho
    have q152 := (h4.2.2.1 a.toInt.toNat (by omega)).1
    have hsz := hC.2.2.2.2.1 a.toInt.toNat (by omega)
    refine ws_hS ?_
    refine ws_b (S := fun v => (v = 0 ∧ inOK f a i m) ∨ (¬ v = 0 ∧ ¬ inOK f a i m)) (ws_hS (ws_lt (fun e => ws_s (Or.inr ⟨by decide, fun q => by rw [lt0] at e; have := q.1.1; omega⟩)) (fun e => ws_le (fun e2 => ws_l ?_) (fun e2 => ws_s (Or.inr ⟨by decide, fun q => by rw [lt0] at e2; have := q.1.2; omega⟩))))) (fun v hv => ?_)
    · rw [lt0] at e e2
      rw [q152]
      exact ws_lt (fun e3 => ws_s (Or.inr ⟨by decide, fun q => by have := q.2.2.1; omega⟩)) (fun e3 => ws_lt (fun e4 => ws_s (Or.inl ⟨rfl, ⟨e, e2⟩, hr, e3, e4⟩)) (fun e4 => ws_s (Or.inr ⟨by decide, fun q => by have := q.2.2.2; omega⟩)))
    · rcases hv with ⟨rfl, ok⟩ | ⟨hv, no⟩
      · refine ws_i (fun _ => ws_l ?_) (fun q => absurd rfl q)
        have ok1 := ok.1
        have ok3 := ok.2.2
        refine ws_b (k_toThing n hn α _ i m ok1.1 ok3.2) (fun β hβ => ws_l (ws_l (ws_l ?_)))
        obtain ⟨hWC, hwf⟩ := hβ
        have hWβ := WR_wf h4 hC hwf
        rw [hwf.1, h1, h6]
        have hPβ : RWL β (x + 919) pl := RWL_wf hP hwf
        refine ws_b (k_marksAlong n hn w (x + 919) _ β (f 1) (by omega) hWβ.2.1.1 (lpA w a.toInt.toNat) (EL f a.toInt.toNat) (WR_LM hWβ hC (by omega)) _ hWC (by rw [List.length_reverse]; exact Nat.le_trans (wyT_len _ _ _ _) (by decide)) (fun q hq => ?_) pl hPβ) (fun γ hγ => ws_l (ws_l ?_))
        · have := wyT_rin (N := m.toInt.toNat) (I := i.toInt.toNat) (by omega) q hq
          rw [EL_len]; omega
        · obtain ⟨hR, hq⟩ := hγ
          have e6 : hp_R γ 603 x = x + 919 := by rw [hq.1, hwf.1]; exact h6
          rw [e6]
          refine ws_hc (k_answer n γ x _) (fun z δ hz => ws_s ⟨?_, ?_, ?_⟩)
          · unfold inA
            rw [if_pos ok, show z = hp_I γ 301 (x + 919) from hz.1, hR.2.1, mkl_len, List.length_reverse]
          · rw [if_pos ok, show δ = hp_sI γ 600 x 0 from hz.2]; exact RWL_st hR
          · rw [show δ = hp_sI γ 600 x 0 from hz.2]
            exact pfr_tr (pfr_wf hwf) (pfr_tr (pfr_qf hq (by rw [hwf.1]; exact h3)) pfr_st)
      · exact ws_i (fun q => absurd q hv) (fun _ => bad v no)
  · rw [if_neg hr] at ho
    subst ho
    refine ws_hN ?_
    refine ws_b (S := fun v => ¬ v = 0) (ws_hN (ws_lt (fun e => ws_s (by decide)) (fun _ => ws_le (fun e => ws_s (by decide)) (fun e => ws_s (by decide))))) (fun v hv => ?_)
    exact ws_i (fun q => absurd q hv) (fun _ => bad v (fun q => hr q.2.1))
abbrev grOK (f : Nat → Int32) (a i m : Int32) : Prop := (0 ≤ i.toInt ∧ i.toInt ≤ m.toInt) ∧ (0 ≤ a.toInt ∧ a.toInt < (f 0).toInt) ∧ m.toInt ≤ (f (72 + a.toInt.toNat)).toInt
def grL (f : Nat → Int32) (a i m : Int32) : List Int32 := mkl (f 1) (EL f a.toInt.toNat) (wyH i.toInt.toNat m.toInt.toNat).reverse
def grA (f : Nat → Int32) (a i m : Int32) : Int := if grOK f a i m then ((wyH i.toInt.toNat m.toInt.toNat).length : Int) else -1
theorem v_grow (n : Nat) (σ : ms_T) (hC : rC (ms_E σ 40)) (a i m : Int32) : pr (f_X12_grow n σ a i m) (fun res => res.1.toInt = grA (ms_E σ 40) a i m ∧ pdl (ms_E res.2 40) = if grOK (ms_E σ 40) a i m then grL (ms_E σ 40) a i m else pdl (ms_E σ 40)) := by
  have h4 := hC.1
  have bad : ∀ v : Int32, ¬ v = 0 → ¬ grOK (ms_E σ 40) a i m → pr (f_X12_grow_J20 n σ a i m v) (fun res => res.1.toInt = grA (ms_E σ 40) a i m ∧ pdl (ms_E res.2 40) = if grOK (ms_E σ 40) a i m then grL (ms_E σ 40) a i m else pdl (ms_E σ 40)) := fun v hv hno => by
    unfold f_X12_grow_J20 grA
    rw [if_neg hno, if_neg hno]
    exact v_is1 n σ v hv (pr_s ⟨rfl, rfl⟩)
  unfold f_X12_grow f_X12_grow_J10
  refine pr_lt (fun e => bad 1 (by decide) (fun q => by rw [lt0] at e; have := q.1.1; omega)) (fun e => pr_le (fun e2 => ?_) (fun e2 => bad 1 (by decide) (fun q => by have := q.1.2; omega)))
  rw [lt0] at e
  refine pr_b (v_noSize n σ hC a m) (fun v hv => ?_)
  rcases hv with ⟨rfl, ok0⟩ | ⟨hv, no⟩
  · have ok : grOK (ms_E σ 40) a i m := ⟨⟨e, e2⟩, ok0.2.1, ok0.2.2⟩
    unfold f_X12_grow_J20 grA
    rw [if_pos ok, if_pos ok]
    have hsz := hC.2.2.2.2.1 a.toInt.toNat (by omega)
    refine v_is0 n σ ?_
    obtain ⟨τ0, hτ0⟩ : ∃ τ, τ = ms_sI (ms_sI σ 653 0) 652 0 := ⟨_, rfl⟩
    have e0 : ms_E τ0 40 = ms_E σ 40 := by rw [hτ0]; rfl
    rw [← hτ0]
    refine pr_b (fun τ hτ => (⟨v_growth n τ0 i m e e2 τ hτ, z_X12_growth kq_rf τ hτ⟩ : WS τ _ ∧ kq τ0 τ)) (fun τ hτ => ?_)
    obtain ⟨hW, hk⟩ := hτ
    have e1 : ms_E τ 40 = ms_E σ 40 := by rw [show ms_E τ 40 = ms_E τ0 40 from funext (fun j => hk.2 40 rfl j), e0]
    refine pr_c (v_pads n τ (by rw [e1]; exact hC) a.toInt.toNat (by omega) a (by omega) _ hW (by rw [List.length_reverse]; exact Nat.le_trans (wyH_len _ _) (by decide)) (fun q hq => ?_)) (fun r υ hr => pr_s ⟨?_, ?_⟩)
    · have := wyH_in i.toInt.toNat m.toInt.toNat (by omega) q hq
      rw [e1, EL_len]; omega
    · have h1 := hr.1
      rw [List.length_reverse] at h1
      exact h1
    · have h2 := hr.2
      rw [e1] at h2
      exact h2
  · exact bad v hv (fun q => no ⟨by omega, q.2.1, q.2.2⟩)
theorem k_grow (n : Nat) (hn : 70000 ≤ n) (α : hp_T) (x : Nat) (f : Nat → Int32) (hC : rC f) (h : RWX α x f) (h6 : hp_R α 603 x = x + 919) (h3 : hp_R α 300 (x + 919) = x + 920) (pl : List Int32) (hP : RWL α (x + 919) pl) (a i m : Int32) : ws (f_X11_grow n α x a i m) (fun res => res.1.toInt = grA f a i m ∧ RWL res.2 (x + 919) (if grOK f a i m then grL f a i m else pl) ∧ pfr x α res.2) := by
  obtain ⟨w, u, h1, h2, -, h4, -⟩ := h
  have hm0 := hC.2.1
  have h44 := hC.1
  have bad : ∀ v : Int32, ¬ grOK f a i m → ws (hq_c (f_X11_refuse n α x v) fun r β => some (r, β)) (fun res => res.1.toInt = grA f a i m ∧ RWL res.2 (x + 919) (if grOK f a i m then grL f a i m else pl) ∧ pfr x α res.2) := fun v hno => by
    unfold grA
    rw [if_neg hno, if_neg hno]
    refine ws_hc (k_refuse n α x v) (fun z γ hz => ws_s ⟨by rw [show z = -1 from hz.1]; rfl, ?_, ?_⟩)
    · rw [show γ = hp_sI α 600 x v from hz.2]; exact RWL_st hP
    · rw [show γ = hp_sI α 600 x v from hz.2]; exact pfr_st
  unfold f_X11_grow f_X11_wrongGrowth
  refine ws_l ?_
  rw [h1]
  refine ws_b (k_logAt n h4 hC a) (fun o ho => ?_)
  by_cases hr : 0 ≤ a.toInt ∧ a.toInt < (f 0).toInt
  · rw [if_pos hr] at ho
    subst ho
    have q152 := (h4.2.2.1 a.toInt.toNat (by omega)).1
    have hsz := hC.2.2.2.2.1 a.toInt.toNat (by omega)
    refine ws_hS ?_
    refine ws_b (S := fun v => (v = 0 ∧ grOK f a i m) ∨ (¬ v = 0 ∧ ¬ grOK f a i m)) (ws_hS (ws_lt (fun e => ws_s (Or.inr ⟨by decide, fun q => by rw [lt0] at e; have := q.1.1; omega⟩)) (fun e => ws_le (fun e2 => ws_l ?_) (fun e2 => ws_s (Or.inr ⟨by decide, fun q => by have := q.1.2; omega⟩))))) (fun v hv => ?_)
    · rw [lt0] at e
      rw [q152]
      exact ws_le (fun e3 => ws_s (Or.inl ⟨rfl, ⟨e, e2⟩, hr, e3⟩)) (fun e3 => ws_s (Or.inr ⟨by decide, fun q => by have := q.2.2; omega⟩))
    · rcases hv with ⟨rfl, ok⟩ | ⟨hv, no⟩
      · refine ws_i (fun _ => ws_l ?_) (fun q => absurd rfl q)
        have ok1 := ok.1
        have ok3 := ok.2.2
        refine ws_b (k_toGrowth n hn α _ i m ok1.1 ok1.2) (fun β hβ => ws_l (ws_l (ws_l ?_)))
        obtain ⟨hWC, hwf⟩ := hβ
        have hWβ := WR_wf h4 hC hwf
        rw [hwf.1, h1, h6]
        have hPβ : RWL β (x + 919) pl := RWL_wf hP hwf
        refine ws_b (k_marksAlong n hn w (x + 919) _ β (f 1) (by omega) hWβ.2.1.1 (lpA w a.toInt.toNat) (EL f a.toInt.toNat) (WR_LM hWβ hC (by omega)) _ hWC (by rw [List.length_reverse]; exact Nat.le_trans (wyH_len _ _) (by decide)) (fun q hq => ?_) pl hPβ) (fun γ hγ => ws_l (ws_l ?_))
        · have := wyH_in i.toInt.toNat m.toInt.toNat (by omega) q hq
          rw [EL_len]; omega
        · obtain ⟨hR, hq⟩ := hγ
          have e6 : hp_R γ 603 x = x + 919 := by rw [hq.1, hwf.1]; exact h6
          rw [e6]
          refine ws_hc (k_answer n γ x _) (fun z δ hz => ws_s ⟨?_, ?_, ?_⟩)
          · unfold grA
            rw [if_pos ok, show z = hp_I γ 301 (x + 919) from hz.1, hR.2.1, mkl_len, List.length_reverse]
          · rw [if_pos ok, show δ = hp_sI γ 600 x 0 from hz.2]; exact RWL_st hR
          · rw [show δ = hp_sI γ 600 x 0 from hz.2]
            exact pfr_tr (pfr_wf hwf) (pfr_tr (pfr_qf hq (by rw [hwf.1]; exact h3)) pfr_st)
      · exact ws_i (fun q => absurd q hv) (fun _ => bad v no)
  · rw [if_neg hr] at ho
    subst ho
    refine ws_hN ?_
    refine ws_b (S := fun v => ¬ v = 0) (ws_hN (ws_lt (fun e => ws_s (by decide)) (fun _ => ws_le (fun e => ws_s (by decide)) (fun e => ws_s (by decide))))) (fun v hv => ?_)
    exact ws_i (fun q => absurd q hv) (fun _ => bad v (fun q => hr q.2.1))
def pkL (f : Nat → Int32) (a m : Int32) : List Int32 := mkl (f 1) (EL f a.toInt.toNat) (pks 6 m.toInt.toNat 0)
def pkA (f : Nat → Int32) (a m : Int32) : Int := if hdOK f a m then ((pks 6 m.toInt.toNat 0).length : Int) else -1
theorem v_peaks (n : Nat) (σ : ms_T) (hC : rC (ms_E σ 40)) (a m : Int32) : pr (f_X12_peaks n σ a m) (fun res => res.1.toInt = pkA (ms_E σ 40) a m ∧ pdl (ms_E res.2 40) = if hdOK (ms_E σ 40) a m then pkL (ms_E σ 40) a m else pdl (ms_E σ 40)) := by
  have h4 := hC.1
  unfold f_X12_peaks pkA
  refine pr_b (v_noSize n σ hC a m) (fun v hv => ?_)
  rcases hv with ⟨rfl, ok⟩ | ⟨hv, no⟩
  · have ok : hdOK (ms_E σ 40) a m := ok
    rw [if_pos ok, if_pos ok]
    have hsz := hC.2.2.2.2.1 a.toInt.toNat (by omega)
    refine v_is0 n σ ?_
    obtain ⟨τ0, hτ0⟩ : ∃ τ, τ = ms_sI (ms_sI σ 653 0) 652 0 := ⟨_, rfl⟩
    have e0 : ms_E τ0 40 = ms_E σ 40 := by rw [hτ0]; rfl
    rw [← hτ0]
    refine pr_b (v_peaksOf n τ0 m.toInt.toNat (by omega) m (by omega)) (fun τ hτ => ?_)
    obtain ⟨hW, hk⟩ := hτ
    have e1 : ms_E τ 40 = ms_E σ 40 := by rw [show ms_E τ 40 = ms_E τ0 40 from funext (fun j => hk.2 40 (by decide) j), e0]
    refine pr_c (v_pads n τ (by rw [e1]; exact hC) a.toInt.toNat (by omega) a (by omega) _ hW (Nat.le_trans (pks_len _ _ _) (by decide)) (fun q hq => ?_)) (fun r υ hr => pr_s ⟨hr.1, ?_⟩)
    · have := pks_in m.toInt.toNat (by omega) q hq
      rw [e1, EL_len]; omega
    · have h2 := hr.2
      rw [e1] at h2
      exact h2
  · have no : ¬ hdOK (ms_E σ 40) a m := no
    rw [if_neg no, if_neg no]
    exact v_is1 n σ v hv (pr_s ⟨rfl, rfl⟩)
theorem k_peaks (n : Nat) (hn : 70000 ≤ n) (α : hp_T) (x : Nat) (f : Nat → Int32) (hC : rC f) (h : RWX α x f) (h6 : hp_R α 603 x = x + 919) (h3 : hp_R α 300 (x + 919) = x + 920) (pl : List Int32) (hP : RWL α (x + 919) pl) (a m : Int32) : ws (f_X11_peaks n α x a m) (fun res => res.1.toInt = pkA f a m ∧ RWL res.2 (x + 919) (if hdOK f a m then pkL f a m else pl) ∧ pfr x α res.2) := by
  obtain ⟨w, u, h1, h2, -, h4, -⟩ := h
  have hm0 := hC.2.1
  have h44 := hC.1
  have bad : ∀ v : Int32, ¬ hdOK f a m → ws (hq_c (f_X11_refuse n α x v) fun r β => some (r, β)) (fun res => res.1.toInt = pkA f a m ∧ RWL res.2 (x + 919) (if hdOK f a m then pkL f a m else pl) ∧ pfr x α res.2) := fun v hno => by
    unfold pkA
    rw [if_neg hno, if_neg hno]
    refine ws_hc (k_refuse n α x v) (fun z γ hz => ws_s ⟨by rw [show z = -1 from hz.1]; rfl, ?_, ?_⟩)
    · rw [show γ = hp_sI α 600 x v from hz.2]; exact RWL_st hP
    · rw [show γ = hp_sI α 600 x v from hz.2]; exact pfr_st
  unfold f_X11_peaks f_X11_wrongGrowth
  refine ws_l ?_
  rw [h1]
  refine ws_b (k_logAt n h4 hC a) (fun o ho => ?_)
  by_cases hr : 0 ≤ a.toInt ∧ a.toInt < (f 0).toInt
  · rw [if_pos hr] at ho
    subst ho
    have q152 := (h4.2.2.1 a.toInt.toNat (by omega)).1
    have hsz := hC.2.2.2.2.1 a.toInt.toNat (by omega)
    refine ws_hS ?_
    refine ws_b (S := fun v => (v = 0 ∧ hdOK f a m) ∨ (¬ v = 0 ∧ ¬ hdOK f a m)) (ws_hS (ws_lt (fun e => absurd e (by decide)) (fun _ => ws_le (fun e => ws_l ?_) (fun e => ws_s (Or.inr ⟨by decide, fun q => by rw [lt0] at e; have := q.1; omega⟩))))) (fun v hv => ?_)
    · rw [lt0] at e
      rw [q152]
      exact ws_le (fun e2 => ws_s (Or.inl ⟨rfl, e, hr, e2⟩)) (fun e2 => ws_s (Or.inr ⟨by decide, fun q => by have := q.2.2; omega⟩))
    · rcases hv with ⟨rfl, ok⟩ | ⟨hv, no⟩
      · refine ws_i (fun _ => ws_l (ws_l ?_)) (fun q => absurd rfl q)
        have ok1 := ok.1
        have ok3 := ok.2.2
        rw [h6]
        refine ws_b (k_peaksOf n hn w (x + 919) α (f 1) (by omega) h4.2.1.1 (lpA w a.toInt.toNat) (EL f a.toInt.toNat) (WR_LM h4 hC (by omega)) m.toInt.toNat (by rw [EL_len]; omega) m (by omega) pl hP) (fun γ hγ => ws_l (ws_l ?_))
        obtain ⟨hR, hq⟩ := hγ
        have e6 : hp_R γ 603 x = x + 919 := by rw [hq.1]; exact h6
        rw [e6]
        refine ws_hc (k_answer n γ x _) (fun z δ hz => ws_s ⟨?_, ?_, ?_⟩)
        · unfold pkA
          rw [if_pos ok, show z = hp_I γ 301 (x + 919) from hz.1, hR.2.1, mkl_len]
        · rw [if_pos ok, show δ = hp_sI γ 600 x 0 from hz.2]; exact RWL_st hR
        · rw [show δ = hp_sI γ 600 x 0 from hz.2]
          exact pfr_tr (pfr_qf hq h3) pfr_st
      · exact ws_i (fun q => absurd q hv) (fun _ => bad v no)
  · rw [if_neg hr] at ho
    subst ho
    refine ws_hN ?_
    refine ws_b (S := fun v => ¬ v = 0) (ws_hN (ws_lt (fun e => absurd e (by decide)) (fun _ => ws_le (fun e => ws_s (by decide)) (fun e => ws_s (by decide))))) (fun v hv => ?_)
    exact ws_i (fun q => absurd q hv) (fun _ => bad v (fun q => hr q.2.1))
end JN9_12
section JN9_13
set_option maxRecDepth 100000
theorem pdl_len (f : Nat → Int32) : (pdl f).length = (f 2).toInt.toNat := by unfold pdl; rw [List.length_map, List.length_range]
theorem pdl_get (f : Nat → Int32) {k : Nat} (h : k < (f 2).toInt.toNat) : (pdl f)[k]? = some (f (8 + k)) := by
  unfold pdl
  rw [List.getElem?_map, List.getElem?_range h]
  rfl
theorem pdl_gD (f : Nat → Int32) {k : Nat} (h : k < (f 2).toInt.toNat) : (pdl f).getD k 0 = f (8 + k) := by
  rw [List.getD_eq_getElem?_getD, pdl_get f h]; rfl
theorem pfr_ef {x : Nat} {α β : hp_T} (h : ef (x + 919) α β) (h3 : hp_R α 300 (x + 919) = x + 920) : pfr x α β := by
  obtain ⟨h1, h2, h3', h4, h5, h6⟩ := h
  exact ⟨h1, h2, h3', h4, fun φ b q1 _ _ _ => h5 φ b (fun z => q1 ⟨z.2, z.1⟩), fun κ b j q1 _ _ _ _ => h6 κ b j (fun z => q1 ⟨z.1, by rw [z.2, h3]⟩)⟩
abbrev psOK (f : Nat → Int32) (a : Int32) : Prop := (0 ≤ a.toInt ∧ a.toInt < (f 1).toInt) ∧ (f 2).toInt < 64
def psA (f : Nat → Int32) (a : Int32) : Int := if psOK f a then (f 2).toInt + 1 else -1
def psL (f : Nat → Int32) (a : Int32) : List Int32 := if psOK f a then pdl f ++ [a] else pdl f
theorem v_push (n : Nat) (σ : ms_T) (hC : rC (ms_E σ 40)) (a : Int32) : pr (f_X12_push n σ a) (fun res => res.1.toInt = psA (ms_E σ 40) a ∧ pdl (ms_E res.2 40) = psL (ms_E σ 40) a) := by
  have c2 : ((2 : Int32)).toNatClampNeg = 2 := by decide
  have h64 := hC.2.2.1
  have t64 := t_64
  have bad : ∀ v : Int32, ¬ v = 0 → ¬ psOK (ms_E σ 40) a → pr (f_X12_push_J29 n σ a v) (fun res => res.1.toInt = psA (ms_E σ 40) a ∧ pdl (ms_E res.2 40) = psL (ms_E σ 40) a) := fun v hv hno => by
    unfold f_X12_push_J29 psA psL
    rw [if_neg hno, if_neg hno]
    exact v_is1 n σ v hv (pr_s ⟨rfl, rfl⟩)
  unfold f_X12_push
  rw [c2]
  refine pr_bo (pr_w (s_isMark hC a)) (fun z => bad 1 (by decide) (fun q => z q.1)) (fun z => pr_g (fun _ _ => pr_e (fun e => bad 3 (by decide) (fun q => by have h2 := q.2; rw [e, t64] at h2; omega)) (fun e => ?_)))
  have ok : psOK (ms_E σ 40) a := ⟨z, by omega⟩
  unfold f_X12_push_J29 psA psL
  rw [if_pos ok, if_pos ok, c2]
  refine v_is0 n σ ?_
  have ec : ((8 : Int32) + ms_E σ 40 2).toNatClampNeg = 8 + (ms_E σ 40 2).toInt.toNat := cl_n (by rw [iw_add, t_8]; omega)
  have e1 : (ms_E σ 40 2 + 1).toInt = (ms_E σ 40 2).toInt + 1 := by rw [iw_add, lt1]; omega
  refine pr_g (fun _ _ => pr_g (fun _ _ => pr_ln (fun τ1 h1 => pr_g (fun _ _ => pr_g (fun _ _ => pr_ln (fun τ2 h2 => pr_g (fun _ _ => pr_s ?_)))))))
  replace h1 : τ1 = ms_sE (ms_sI (ms_sI σ 653 0) 652 0) 40 ((8 : Int32) + ms_E σ 40 2).toNatClampNeg a := h1
  rw [ec] at h1
  have g12 : ms_E τ1 40 2 = ms_E σ 40 2 := by rw [h1, mE_sE, if_neg (fun q => by omega)]; rfl
  rw [g12] at h2
  have g2 : ms_E τ2 40 2 = ms_E σ 40 2 + 1 := by rw [h2, mE_sE, if_pos ⟨rfl, rfl⟩]
  refine ⟨by rw [g2]; exact e1, pdl_eq (by rw [g2, e1, List.length_append, List.length_singleton, pdl_len]; omega) (fun k hk => ?_)⟩
  rw [List.length_append, List.length_singleton, pdl_len] at hk
  rw [h2, mE_sE, if_neg (fun q => by omega), h1, mE_sE]
  by_cases ek : k < (ms_E σ 40 2).toInt.toNat
  · rw [if_neg (fun q => by omega), List.getElem?_append_left (by rw [pdl_len]; exact ek), pdl_get _ ek]; rfl
  · rw [if_pos ⟨rfl, by omega⟩, List.getElem?_append_right (by rw [pdl_len]; omega), pdl_len, show k - (ms_E σ 40 2).toInt.toNat = 0 by omega]; rfl
theorem k_push (n : Nat) (α : hp_T) (x : Nat) (f : Nat → Int32) (hC : rC f) (h : RWX α x f) (h6 : hp_R α 603 x = x + 919) (h3 : hp_R α 300 (x + 919) = x + 920) (hP : RWL α (x + 919) (pdl f)) (a : Int32) : ws (f_X11_push n α x a) (fun res => res.1.toInt = psA f a ∧ RWL res.2 (x + 919) (psL f a) ∧ pfr x α res.2) := by
  obtain ⟨w, u, h1, h2, -, h4, -⟩ := h
  have h64 := hC.2.2.1
  have t64 := t_64
  have hl := hP.2.1
  rw [pdl_len] at hl
  have bad : ∀ v : Int32, ¬ psOK f a → ws (hq_c (f_X11_refuse n α x v) fun r β => some (r, β)) (fun res => res.1.toInt = psA f a ∧ RWL res.2 (x + 919) (psL f a) ∧ pfr x α res.2) := fun v hno => by
    unfold psA psL
    rw [if_neg hno, if_neg hno]
    refine ws_hc (k_refuse n α x v) (fun z γ hz => ws_s ⟨by rw [show z = -1 from hz.1]; rfl, ?_, ?_⟩)
    · rw [show γ = hp_sI α 600 x v from hz.2]; exact RWL_st hP
    · rw [show γ = hp_sI α 600 x v from hz.2]; exact pfr_st
  unfold f_X11_push
  refine ws_bo (k_isMark n h1 h4.2.1.1 a) (fun z => bad 1 (fun q => z q.1)) (fun z => ws_l (ws_l ?_))
  rw [h6]
  refine ws_lt (fun e => ws_l ?_) (fun e => bad 3 (fun q => by rw [t64] at e; have := q.2; omega))
  rw [t64] at e
  have ok : psOK f a := ⟨z, by omega⟩
  refine ws_b (k_rput n hP (by rw [pdl_len]; omega) a) (fun β hβ => ws_l (ws_l ?_))
  have e6 : hp_R β 603 x = x + 919 := by rw [hβ.2.1]; exact h6
  rw [e6]
  unfold psA psL
  rw [if_pos ok, if_pos ok]
  refine ws_hc (k_answer n β x _) (fun z γ hz => ws_s ⟨?_, ?_, ?_⟩)
  · rw [show z = hp_I β 301 (x + 919) from hz.1, hβ.1.2.1, List.length_append, List.length_singleton, pdl_len]; omega
  · rw [show γ = hp_sI β 600 x 0 from hz.2]; exact RWL_st hβ.1
  · rw [show γ = hp_sI β 600 x 0 from hz.2]; exact pfr_tr (pfr_ef hβ.2 h3) pfr_st
abbrev pqOK (f : Nat → Int32) (k a : Int32) : Prop := (0 ≤ k.toInt ∧ (0 ≤ a.toInt ∧ a.toInt < (f 1).toInt)) ∧ k.toInt < (f 2).toInt
def pqA (f : Nat → Int32) (k a : Int32) : Int32 := if pqOK f k a then f (8 + k.toInt.toNat) else -1
def pqL (f : Nat → Int32) (k a : Int32) : List Int32 := if pqOK f k a then (pdl f).set k.toInt.toNat a else pdl f
theorem v_poke (n : Nat) (σ : ms_T) (hC : rC (ms_E σ 40)) (k a : Int32) : pr (f_X12_poke n σ k a) (fun res => res.1 = pqA (ms_E σ 40) k a ∧ pdl (ms_E res.2 40) = pqL (ms_E σ 40) k a) := by
  have c2 : ((2 : Int32)).toNatClampNeg = 2 := by decide
  have h64 := hC.2.2.1
  have bad : ∀ v : Int32, ¬ v = 0 → ¬ pqOK (ms_E σ 40) k a → pr (f_X12_poke_J32 n σ k a v) (fun res => res.1 = pqA (ms_E σ 40) k a ∧ pdl (ms_E res.2 40) = pqL (ms_E σ 40) k a) := fun v hv hno => by
    unfold f_X12_poke_J32 pqA pqL
    rw [if_neg hno, if_neg hno]
    exact v_is1 n σ v hv (pr_s ⟨rfl, rfl⟩)
  unfold f_X12_poke f_X12_poke_J13
  rw [c2]
  refine pr_lt (fun e => bad 1 (by decide) (fun q => by rw [lt0] at e; have := q.1.1; omega)) (fun e => pr_bo (pr_w (s_isMark hC a)) (fun z => bad 1 (by decide) (fun q => z q.1.2)) (fun z => pr_g (fun _ _ => pr_lt (fun e2 => ?_) (fun e2 => bad 5 (by decide) (fun q => by have := q.2; omega)))))
  rw [lt0] at e
  have ok : pqOK (ms_E σ 40) k a := ⟨⟨e, z⟩, e2⟩
  unfold f_X12_poke_J32 pqA pqL
  rw [if_pos ok, if_pos ok]
  have ec : ((8 : Int32) + k).toNatClampNeg = 8 + k.toInt.toNat := cl_n (by rw [iw_add, t_8]; omega)
  rw [ec]
  refine v_is0 n σ (pr_g (fun _ _ => pr_l (pr_g (fun _ _ => pr_ln (fun τ1 h1 => pr_s ⟨rfl, ?_⟩)))))
  replace h1 : τ1 = ms_sE (ms_sI (ms_sI σ 653 0) 652 0) 40 (8 + k.toInt.toNat) a := h1
  have g12 : ms_E τ1 40 2 = ms_E σ 40 2 := by rw [h1, mE_sE, if_neg (fun q => by omega)]; rfl
  refine pdl_eq (by rw [g12, List.length_set, pdl_len]; omega) (fun j hj => ?_)
  rw [List.length_set, pdl_len] at hj
  rw [h1, mE_sE]
  by_cases ej : j = k.toInt.toNat
  · rw [if_pos ⟨rfl, by omega⟩, ← ej, List.getElem?_set_self (by rw [pdl_len]; exact hj)]
  · rw [if_neg (fun q => by omega), List.getElem?_set_ne (fun q => ej q.symm), pdl_get _ hj]; rfl
theorem k_rset (n : Nat) {α : hp_T} {a : Nat} {l : List Int32} (h : RWL α a l) (k : Nat) (hk : k < l.length) (kI v : Int32) (hkI : kI.toInt = (k : Int)) : ws (f_X5_change n α a kI v) (fun β => RWL β a (l.set k v) ∧ ef a α β) := by
  have t64 := t_64
  have h1 := h.1
  have h2 := h.2.1
  unfold f_X5_change
  refine ws_lt (fun e => by rw [lt0] at e; omega) (fun _ => ws_l (ws_le (fun e => by omega) (fun _ => ws_l (ws_le (fun e => by rw [t64] at e; omega) (fun _ => ws_l (ws_g (by omega) (by omega) (ws_l (ws_s ⟨?_, ef_sE⟩))))))))
  rw [cl_n hkI]
  refine ⟨by rw [List.length_set]; exact h1, by rw [List.length_set]; exact h2, fun j hj => ?_⟩
  rw [List.length_set] at hj
  show some (hp_E (hp_sE α 20 (hp_R α 300 a) k v) 20 (hp_R α 300 a) j) = _
  rw [hE_sE]
  by_cases ej : j = k
  · rw [if_pos ⟨rfl, rfl, ej⟩, ej, List.getElem?_set_self hk]
  · rw [if_neg (fun q => ej q.2.2), List.getElem?_set_ne (fun q => ej q.symm)]
    exact h.2.2 j hj
theorem k_poke (n : Nat) (α : hp_T) (x : Nat) (f : Nat → Int32) (hC : rC f) (h : RWX α x f) (h6 : hp_R α 603 x = x + 919) (h3 : hp_R α 300 (x + 919) = x + 920) (hP : RWL α (x + 919) (pdl f)) (k a : Int32) : ws (f_X11_poke n α x k a) (fun res => res.1 = pqA f k a ∧ RWL res.2 (x + 919) (pqL f k a) ∧ pfr x α res.2) := by
  obtain ⟨w, u, h1, h2, -, h4, -⟩ := h
  have h64 := hC.2.2.1
  have hl := hP.2.1
  rw [pdl_len] at hl
  have bad : ∀ v : Int32, ¬ pqOK f k a → ws (hq_c (f_X11_refuse n α x v) fun r β => some (r, β)) (fun res => res.1 = pqA f k a ∧ RWL res.2 (x + 919) (pqL f k a) ∧ pfr x α res.2) := fun v hno => by
    unfold pqA pqL
    rw [if_neg hno, if_neg hno]
    refine ws_hc (k_refuse n α x v) (fun z γ hz => ws_s ⟨hz.1, ?_, ?_⟩)
    · rw [show γ = hp_sI α 600 x v from hz.2]; exact RWL_st hP
    · rw [show γ = hp_sI α 600 x v from hz.2]; exact pfr_st
  unfold f_X11_poke f_X11_poke_J12
  refine ws_lt (fun e => bad 1 (fun q => by rw [lt0] at e; have := q.1.1; omega)) (fun e => ws_bo (k_isMark n h1 h4.2.1.1 a) (fun z => bad 1 (fun q => z q.1.2)) (fun z => ws_l (ws_l ?_)))
  rw [lt0] at e
  rw [h6]
  refine ws_lt (fun e2 => ws_l ?_) (fun e2 => bad 5 (fun q => by have := q.2; omega))
  have ok : pqOK f k a := ⟨⟨e, z⟩, by omega⟩
  refine ws_b (k_rat n hP k.toInt.toNat (by rw [pdl_len]; omega) k (by omega)) (fun r hr => ws_l (ws_b (k_rset n hP k.toInt.toNat (by rw [pdl_len]; omega) k a (by omega)) (fun β hβ => ?_)))
  unfold pqA pqL
  rw [if_pos ok, if_pos ok]
  refine ws_hc (k_answer n β x _) (fun z γ hz => ws_s ⟨?_, ?_, ?_⟩)
  · rw [show z = r from hz.1, hr, pdl_gD f (by omega)]
  · rw [show γ = hp_sI β 600 x 0 from hz.2]; exact RWL_st hβ.1
  · rw [show γ = hp_sI β 600 x 0 from hz.2]; exact pfr_tr (pfr_ef hβ.2 h3) pfr_st
abbrev paOK (f : Nat → Int32) (k : Int32) : Prop := 0 ≤ k.toInt ∧ k.toInt < (f 2).toInt
def paA (f : Nat → Int32) (k : Int32) : Int32 := if paOK f k then f (8 + k.toInt.toNat) else -1
theorem v_pad (n : Nat) (σ : ms_T) (hC : rC (ms_E σ 40)) (k : Int32) : pr (f_X12_pad n σ k) (fun res => res.1 = paA (ms_E σ 40) k) := by
  have c2 : ((2 : Int32)).toNatClampNeg = 2 := by decide
  have h64 := hC.2.2.1
  have bad : ∀ v : Int32, ¬ v = 0 → ¬ paOK (ms_E σ 40) k → pr (f_X12_pad_J24 n σ k v) (fun res => res.1 = paA (ms_E σ 40) k) := fun v hv hno => by
    unfold f_X12_pad_J24 paA
    rw [if_neg hno]
    exact v_is1 n σ v hv (pr_s rfl)
  unfold f_X12_pad
  rw [c2]
  refine pr_le (fun e => pr_g (fun _ _ => pr_lt (fun e2 => ?_) (fun e2 => bad 5 (by decide) (fun q => by have := q.2; omega)))) (fun e => bad 1 (by decide) (fun q => by rw [lt0] at e; have := q.1; omega))
  rw [lt0] at e
  unfold f_X12_pad_J24 paA
  rw [if_pos ⟨e, e2⟩]
  have ec : ((8 : Int32) + k).toNatClampNeg = 8 + k.toInt.toNat := cl_n (by rw [iw_add, t_8]; omega)
  rw [ec]
  exact v_is0 n σ (pr_g (fun _ _ => pr_s rfl))
theorem k_pad (n : Nat) (α : hp_T) (x : Nat) (f : Nat → Int32) (h6 : hp_R α 603 x = x + 919) (hP : RWL α (x + 919) (pdl f)) (k : Int32) : ws (f_X11_pad n α x k) (fun res => res.1 = paA f k) := by
  have hl := hP.2.1
  rw [pdl_len] at hl
  have bad : ∀ v : Int32, ¬ paOK f k → ws (hq_c (f_X11_refuse n α x v) fun r β => some (r, β)) (fun res => res.1 = paA f k) := fun v hno => by
    unfold paA
    rw [if_neg hno]
    exact ws_hc (k_refuse n α x v) (fun z γ hz => ws_s hz.1)
  unfold f_X11_pad
  refine ws_le (fun e => ws_l (ws_l ?_)) (fun e => bad 1 (fun q => by rw [lt0] at e; have := q.1; omega))
  rw [lt0] at e
  rw [h6]
  refine ws_le (fun e2 => bad 5 (fun q => by have := q.2; omega)) (fun e2 => ws_l ?_)
  refine ws_b (k_rat n hP k.toInt.toNat (by rw [pdl_len]; omega) k (by omega)) (fun r hr => ws_hc (k_answer n α x r) (fun z γ hz => ws_s ?_))
  unfold paA
  rw [if_pos ⟨e, by omega⟩, show z = r from hz.1, hr, pdl_gD f (by omega)]
def cuA (f : Nat → Int32) (k : Int32) : Int32 := if 0 ≤ k.toInt ∧ k.toInt ≤ (f 2).toInt then k else -1
def cuL (f : Nat → Int32) (k : Int32) : List Int32 := if 0 ≤ k.toInt ∧ k.toInt ≤ (f 2).toInt then (pdl f).take k.toInt.toNat else pdl f
theorem v_cut (n : Nat) (σ : ms_T) (hC : rC (ms_E σ 40)) (k : Int32) : pr (f_X12_cut n σ k) (fun res => res.1 = cuA (ms_E σ 40) k ∧ pdl (ms_E res.2 40) = cuL (ms_E σ 40) k) := by
  have c2 : ((2 : Int32)).toNatClampNeg = 2 := by decide
  have h64 := hC.2.2.1
  have bad : ∀ v : Int32, ¬ v = 0 → ¬ (0 ≤ k.toInt ∧ k.toInt ≤ (ms_E σ 40 2).toInt) → pr (f_X12_cut_J24 n σ k v) (fun res => res.1 = cuA (ms_E σ 40) k ∧ pdl (ms_E res.2 40) = cuL (ms_E σ 40) k) := fun v hv hno => by
    unfold f_X12_cut_J24 cuA cuL
    rw [if_neg hno, if_neg hno]
    exact v_is1 n σ v hv (pr_s ⟨rfl, rfl⟩)
  unfold f_X12_cut
  rw [c2]
  refine pr_le (fun e => pr_g (fun _ _ => pr_le (fun e2 => ?_) (fun e2 => bad 5 (by decide) (fun q => by have := q.2; omega)))) (fun e => bad 1 (by decide) (fun q => by rw [lt0] at e; have := q.1; omega))
  rw [lt0] at e
  unfold f_X12_cut_J24 cuA cuL
  rw [if_pos ⟨e, e2⟩, if_pos ⟨e, e2⟩, c2]
  refine v_is0 n σ (pr_g (fun _ _ => pr_ln (fun τ1 h1 => pr_s ⟨rfl, ?_⟩)))
  have g2 : ms_E τ1 40 2 = k := by rw [h1, mE_sE, if_pos ⟨rfl, rfl⟩]
  refine pdl_eq (by rw [g2, List.length_take, pdl_len]; omega) (fun j hj => ?_)
  rw [List.length_take, pdl_len] at hj
  rw [h1, mE_sE, if_neg (fun q => by omega), List.getElem?_take_of_lt (by omega), pdl_get _ (by omega)]
  rfl
theorem k_cut (n : Nat) (α : hp_T) (x : Nat) (f : Nat → Int32) (h2 : 0 ≤ (f 2).toInt) (h6 : hp_R α 603 x = x + 919) (h3 : hp_R α 300 (x + 919) = x + 920) (hP : RWL α (x + 919) (pdl f)) (k : Int32) : ws (f_X11_cut n α x k) (fun res => res.1 = cuA f k ∧ RWL res.2 (x + 919) (cuL f k) ∧ pfr x α res.2) := by
  have hl := hP.2.1
  rw [pdl_len] at hl
  have bad : ∀ v : Int32, ¬ (0 ≤ k.toInt ∧ k.toInt ≤ (f 2).toInt) → ws (hq_c (f_X11_refuse n α x v) fun r β => some (r, β)) (fun res => res.1 = cuA f k ∧ RWL res.2 (x + 919) (cuL f k) ∧ pfr x α res.2) := fun v hno => by
    unfold cuA cuL
    rw [if_neg hno, if_neg hno]
    refine ws_hc (k_refuse n α x v) (fun z γ hz => ws_s ⟨hz.1, ?_, ?_⟩)
    · rw [show γ = hp_sI α 600 x v from hz.2]; exact RWL_st hP
    · rw [show γ = hp_sI α 600 x v from hz.2]; exact pfr_st
  unfold f_X11_cut
  refine ws_le (fun e => ws_l (ws_l ?_)) (fun e => bad 1 (fun q => by rw [lt0] at e; have := q.1; omega))
  rw [lt0] at e
  rw [h6]
  refine ws_le (fun e2 => ws_l ?_) (fun e2 => bad 5 (fun q => by have := q.2; omega))
  refine ws_b (k_rshort n hP k.toInt.toNat (by rw [pdl_len]; omega) k (by omega)) (fun β hβ => ?_)
  have ok : 0 ≤ k.toInt ∧ k.toInt ≤ (f 2).toInt := ⟨e, by omega⟩
  unfold cuA cuL
  rw [if_pos ok, if_pos ok]
  refine ws_hc (k_answer n β x _) (fun z γ hz => ws_s ⟨hz.1, ?_, ?_⟩)
  · rw [show γ = hp_sI β 600 x 0 from hz.2]; exact RWL_st hβ.1
  · rw [show γ = hp_sI β 600 x 0 from hz.2]; exact pfr_tr (pfr_ef hβ.2 h3) pfr_st
def fdI (m : Int32) (g : Nat → Int32) : Nat → Int32 → Int32
  | 0, v => v
  | k + 1, v => fdI m g k (bt m (g k) v)
def foA' (f : Nat → Int32) : Int32 := if (f 2).toInt = 0 then 0 else fdI (f 1) (fun k => f (8 + k)) ((f 2).toInt.toNat - 1) (f (8 + ((f 2).toInt.toNat - 1)))
theorem v_fold_L (n : Nat) (σ : ms_T) : ∀ (d k : Nat) (vI kI : Int32), kI.toInt = (k : Int) - 1 → k ≤ 64 → pr (f_X12_fold_L43 n d σ vI kI) (fun res => res.1 = fdI (ms_E σ 40 1) (fun k => ms_E σ 40 (8 + k)) k vI) := by
  intro d
  induction d with
  | zero => intro k vI kI _ _; rw [f_X12_fold_L43.eq_1]; exact pr_0
  | succ d ih =>
    intro k vI kI hk h64
    have m1 : (-1 : Int32).toInt = -1 := by decide
    rw [f_X12_fold_L43.eq_2]
    refine pr_lt (fun e => pr_s ?_) (fun e => pr_g (fun _ _ => ?_))
    · rw [lt0] at e
      rw [show k = 0 by omega]; rfl
    · rw [lt0] at e
      obtain ⟨k, rfl⟩ : ∃ y, k = y + 1 := ⟨k - 1, by omega⟩
      have ec : ((8 : Int32) + kI).toNatClampNeg = 8 + k := cl_n (by rw [iw_add, t_8]; omega)
      rw [ec]
      refine pr_b (v_both n σ _ _) (fun r hr => pr_l ?_)
      rw [fdI, ← hr]
      exact ih k r _ (by rw [iw_add, m1]; omega) (by omega)
theorem v_fold (n : Nat) (σ : ms_T) (hC : rC (ms_E σ 40)) : pr (f_X12_fold n σ) (fun res => res.1 = foA' (ms_E σ 40)) := by
  have c2 : ((2 : Int32)).toNatClampNeg = 2 := by decide
  have h64 := hC.2.2.1
  unfold f_X12_fold foA'
  rw [c2]
  refine pr_c (v_is2 n σ 0) (fun r τ hτ => ?_)
  have eτ : ms_E τ 40 = ms_E σ 40 := by rw [show τ = ms_sI (ms_sI σ 653 0) 652 0 from hτ.2]; rfl
  rw [eτ]
  refine pr_g (fun _ _ => pr_e (fun e => pr_s (by rw [e]; rfl)) (fun e => pr_g (fun _ _ => pr_g (fun _ _ => pr_l (pr_g (fun _ _ => pr_l ?_))))))
  rw [lt0] at e
  rw [if_neg e]
  have ec : ((8 : Int32) + ms_E σ 40 2 - 1).toNatClampNeg = 8 + ((ms_E σ 40 2).toInt.toNat - 1) := cl_n (by rw [iw_sub, iw_add, t_8, lt1]; omega)
  rw [ec, ← eτ]
  exact v_fold_L n τ n ((ms_E τ 40 2).toInt.toNat - 1) _ _ (by rw [iw_sub, t_2, eτ]; omega) (by rw [eτ]; omega)
theorem k_fold_L (n : Nat) (α : hp_T) (a : Nat) (l : List Int32) (hP : RWL α a l) (m : Int32) (hm : 0 < m.toInt) : ∀ (d k : Nat) (vI kI : Int32), kI.toInt = (k : Int) - 1 → k ≤ l.length → k + 1 ≤ d → ws (f_X5_foldedPeaks_L18 n α a d m vI kI) (fun r => r = fdI m (fun k => l.getD k 0) k vI) := by
  intro d
  induction d with
  | zero => intro k vI kI _ _ hd; omega
  | succ d ih =>
    intro k vI kI hk hkl hd
    have h64 := hP.1
    have m1 : (-1 : Int32).toInt = -1 := by decide
    rw [f_X5_foldedPeaks_L18.eq_2]
    refine ws_lt (fun e => ws_s ?_) (fun e => ?_)
    · rw [lt0] at e
      rw [show k = 0 by omega]; rfl
    · rw [lt0] at e
      obtain ⟨k, rfl⟩ : ∃ y, k = y + 1 := ⟨k - 1, by omega⟩
      refine ws_b (k_rat n hP k (by omega) kI (by omega)) (fun r hr => ws_b (k_two n m r vI hm) (fun s hs => ws_l ?_))
      rw [fdI, ← hr, ← hs]
      exact ih k s _ (by rw [iw_add, m1]; omega) (by omega) (by omega)
theorem fdI_c (m : Int32) {g h : Nat → Int32} : ∀ (k : Nat) (v : Int32), (∀ j, j < k → g j = h j) → fdI m g k v = fdI m h k v := by
  intro k
  induction k with
  | zero => intro v _; rfl
  | succ k ih =>
    intro v e
    rw [fdI, fdI, e k (by omega)]
    exact ih _ (fun j hj => e j (by omega))
theorem k_foldedPeaks (n : Nat) (hn : 70000 ≤ n) (α : hp_T) (a : Nat) (l : List Int32) (hP : RWL α a l) (m : Int32) (hm : 0 < m.toInt) : ws (f_X5_foldedPeaks n α a m) (fun r => r = if l.length = 0 then 0 else fdI m (fun k => l.getD k 0) (l.length - 1) (l.getD (l.length - 1) 0)) := by
  have hl := hP.2.1
  have h64 := hP.1
  unfold f_X5_foldedPeaks
  refine ws_l ?_
  by_cases h0 : l.length = 0
  · rw [if_pos h0]
    have z : hp_I α 301 a = 0 := Int32.toInt_inj.mp (by rw [hl, h0]; rfl)
    rw [z]
    refine ws_b (S := fun r => r = 0) ?_ (fun r hr => ws_l (ws_l ?_))
    · unfold f_X5_at
      exact ws_lt (fun _ => ws_s rfl) (fun e => absurd e (by decide))
    · obtain ⟨n, rfl⟩ : ∃ y, n = y + 1 := ⟨n - 1, by omega⟩
      rw [f_X5_foldedPeaks_L18.eq_2]
      exact ws_lt (fun _ => ws_s hr) (fun e => absurd e (by decide))
  · rw [if_neg h0]
    refine ws_b (k_rat n hP (l.length - 1) (by omega) _ (by rw [iw_sub, hl, lt1]; omega)) (fun r hr => ws_l (ws_l ?_))
    rw [← hr]
    exact k_fold_L n α a l hP m hm n (l.length - 1) r _ (by rw [iw_sub, hl, t_2]; omega) (by omega) (by omega)
theorem k_fold (n : Nat) (hn : 70000 ≤ n) (α : hp_T) (x : Nat) (f : Nat → Int32) (hC : rC f) (h : RWX α x f) (h6 : hp_R α 603 x = x + 919) (hP : RWL α (x + 919) (pdl f)) : ws (f_X11_fold n α x) (fun res => res.1 = foA' f) := by
  obtain ⟨w, u, h1, h2, -, h4, -⟩ := h
  have hm0 := hC.2.1
  have h64 := hC.2.2.1
  unfold f_X11_fold
  refine ws_l (ws_l (ws_l ?_))
  rw [h6, h1, h4.2.1.1]
  refine ws_b (k_foldedPeaks n hn α (x + 919) (pdl f) hP (f 1) (by omega)) (fun r hr => ws_hc (k_answer n α x r) (fun z γ hz => ws_s ?_))
  rw [show z = r from hz.1, hr, pdl_len]
  unfold foA'
  by_cases h0 : (f 2).toInt = 0
  · rw [if_pos (by omega), if_pos h0]
  · rw [if_neg (by omega), if_neg h0, pdl_gD f (by omega)]
    exact fdI_c (f 1) _ _ (fun j hj => pdl_gD f (by omega))
end JN9_13
section JN9_14
set_option maxRecDepth 100000
def exL (m : Int32) : Nat → List Int32 → Nat → Int32 → List Int32
  | 0, l, _, v => l ++ [v]
  | e + 1, l, r, v => if r % 2 = 1 then exL m e (l.take (l.length - 1)) (r / 2) (bt m (l.getD (l.length - 1) 0) v) else l ++ [v]
theorem exL_0 (m : Int32) (e : Nat) (l : List Int32) (r : Nat) (v : Int32) (h : ¬ r % 2 = 1) : exL m e l r v = l ++ [v] := by
  cases e with
  | zero => rfl
  | succ e => rw [exL, if_neg h]
theorem tw_s (A t : Nat) : A / 2 ^ (t + 1) = A / 2 ^ t / 2 := by rw [Nat.pow_succ, Nat.div_div_eq_div_mul]
theorem tw_m {A t : Nat} (h : A % 2 ^ t = 2 ^ t - 1) (ho : A / 2 ^ t % 2 = 1) : A % 2 ^ (t + 1) = 2 ^ (t + 1) - 1 := by
  have hp := Nat.one_le_two_pow (n := t)
  rw [Nat.pow_succ, Nat.mod_mul, h, ho]
  omega
theorem tw_20 {A t : Nat} (hA : A < 1048576) (ho : A / 2 ^ t % 2 = 1) (ht : t ≤ 20) : t + 1 ≤ 20 := by
  rcases Nat.lt_or_ge t 20 with q | q
  · omega
  · have e20 : t = 20 := by omega
    rw [e20, Nat.div_eq_of_lt (by omega)] at ho
    omega
theorem v_extend_L (n A P : Nat) (hA : A < 1048576) (hP : P = bc A) (hP63 : P ≤ 63) : ∀ (k e t : Nat) (τ : ms_T) (x v : Int32), t + e = 20 → (ms_E τ 40 2).toInt = (P : Int) - t → A % 2 ^ t = 2 ^ t - 1 → t ≤ P → v.toInt = ((A / 2 ^ t : Nat) : Int) → pr (f_X12_extend_L55 n k τ x v) (fun res => res.1.toInt = ((exL (ms_E τ 40 1) e (pdl (ms_E τ 40)) (A / 2 ^ t) x).length : Int) ∧ pdl (ms_E res.2 40) = exL (ms_E τ 40 1) e (pdl (ms_E τ 40)) (A / 2 ^ t) x) := by
  have c2 : ((2 : Int32)).toNatClampNeg = 2 := by decide
  intro k
  induction k with
  | zero => intro e t τ x v _ _ _ _ _; rw [f_X12_extend_L55.eq_1]; exact pr_0
  | succ k ih =>
    intro e t τ x v hte hc hm htP hv
    rw [f_X12_extend_L55.eq_2, c2]
    have hv0 : 0 ≤ v.toInt := by
      generalize A / 2 ^ t = Q at hv
      omega
    have hrem : (v - v / 2 * 2).toInt = v.toInt % 2 := by rw [ii_rem (x := v) (y := 2) hv0 (by decide), t_2]
    refine pr_e (fun q => ?_) (fun q => ?_)
    · have q2 := congrArg Int32.toInt q
      rw [hrem, lt1] at q2
      have ho : A / 2 ^ t % 2 = 1 := by
        generalize A / 2 ^ t = Q at hv
        omega
      have ht2 := tw_20 hA ho (by omega)
      obtain ⟨e, rfl⟩ : ∃ y, e = y + 1 := ⟨e - 1, by omega⟩
      have hm2 := tw_m hm ho
      have hle := bc_t A (t + 1) hA ht2 hm2
      rw [← hP] at hle
      have e1 : (ms_E τ 40 2 - 1).toInt = (P : Int) - t - 1 := by rw [iw_sub, lt1]; omega
      have ed : (v / 2).toInt = ((A / 2 ^ (t + 1) : Nat) : Int) := by
        rw [ii_div hv0 (by decide), t_2, hv, tw_s]
        generalize A / 2 ^ t = Q
        omega
      refine pr_g (fun _ _ => pr_g (fun _ _ => pr_ln (fun σ1 hs => pr_g (fun _ _ => pr_g (fun _ _ => pr_b (v_both n σ1 _ _) (fun y hy => pr_l ?_))))))
      have ez : ms_E σ1 40 2 = ms_E τ 40 2 - 1 := by rw [hs, mE_sE, if_pos ⟨rfl, rfl⟩]
      have eo : ∀ j, j ≠ 2 → ms_E σ1 40 j = ms_E τ 40 j := fun j hj => by rw [hs, mE_sE, if_neg (fun q => hj q.2)]
      have e8 : ((8 : Int32) + ms_E σ1 40 2).toNatClampNeg = 8 + ((ms_E τ 40 2).toInt.toNat - 1) := cl_n (by rw [iw_add, ez, e1, t_8]; omega)
      rw [e8, eo 1 (by omega), eo _ (by omega)] at hy
      have hpl : pdl (ms_E σ1 40) = (pdl (ms_E τ 40)).take ((pdl (ms_E τ 40)).length - 1) := by
        refine pdl_eq (by rw [ez, e1, List.length_take, pdl_len]; omega) (fun j hj => ?_)
        rw [List.length_take, pdl_len] at hj
        rw [eo _ (by omega), pdl_len, List.getElem?_take_of_lt (by omega), pdl_get _ (by omega)]
      have hgd : (pdl (ms_E τ 40)).getD ((pdl (ms_E τ 40)).length - 1) 0 = ms_E τ 40 (8 + ((ms_E τ 40 2).toInt.toNat - 1)) := by
        rw [pdl_len]
        exact pdl_gD _ (by omega)
      rw [exL, if_pos ho, hgd, ← hy, ← hpl, ← tw_s, ← eo 1 (by omega)]
      exact ih e (t + 1) σ1 y (v / 2) (by omega) (by rw [ez, e1]; omega) hm2 hle ed
    · have ho : ¬ A / 2 ^ t % 2 = 1 := fun ho => q (by
        rw [hrem, lt1]
        generalize A / 2 ^ t = Q at hv ho
        omega)
      rw [exL_0 _ _ _ _ _ ho]
      have ec : ((8 : Int32) + ms_E τ 40 2).toNatClampNeg = 8 + (ms_E τ 40 2).toInt.toNat := cl_n (by rw [iw_add, t_8]; omega)
      have e1 : (ms_E τ 40 2 + 1).toInt = (ms_E τ 40 2).toInt + 1 := by rw [iw_add, lt1]; omega
      refine pr_g (fun _ _ => pr_g (fun _ _ => pr_ln (fun τ1 h1 => pr_g (fun _ _ => pr_g (fun _ _ => pr_ln (fun τ2 h2 => pr_g (fun _ _ => pr_s ?_)))))))
      rw [ec] at h1
      have g12 : ms_E τ1 40 2 = ms_E τ 40 2 := by rw [h1, mE_sE, if_neg (fun q => by omega)]
      rw [g12] at h2
      have g2 : ms_E τ2 40 2 = ms_E τ 40 2 + 1 := by rw [h2, mE_sE, if_pos ⟨rfl, rfl⟩]
      refine ⟨by rw [g2, e1, List.length_append, List.length_singleton, pdl_len]; omega, pdl_eq (by rw [g2, e1, List.length_append, List.length_singleton, pdl_len]; omega) (fun j hj => ?_)⟩
      rw [List.length_append, List.length_singleton, pdl_len] at hj
      rw [h2, mE_sE, if_neg (fun q => by omega), h1, mE_sE]
      by_cases ek : j < (ms_E τ 40 2).toInt.toNat
      · rw [if_neg (fun q => by omega), List.getElem?_append_left (by rw [pdl_len]; exact ek), pdl_get _ ek]
      · rw [if_pos ⟨rfl, by omega⟩, List.getElem?_append_right (by rw [pdl_len]; omega), pdl_len, show j - (ms_E τ 40 2).toInt.toNat = 0 by omega]; rfl
abbrev exOK (f : Nat → Int32) (m a : Int32) : Prop := (0 ≤ m.toInt ∧ m.toInt ≤ 1000000) ∧ (0 ≤ a.toInt ∧ a.toInt < (f 1).toInt) ∧ (f 2).toInt = (bc m.toInt.toNat : Int)
def exF (f : Nat → Int32) (m a : Int32) : List Int32 := exL (f 1) 20 (pdl f) m.toInt.toNat a
def exA (f : Nat → Int32) (m a : Int32) : Int := if exOK f m a then ((exF f m a).length : Int) else -1
def exX (f : Nat → Int32) (m a : Int32) : List Int32 := if exOK f m a then exF f m a else pdl f
theorem v_extend (n : Nat) (σ : ms_T) (hC : rC (ms_E σ 40)) (m a : Int32) : pr (f_X12_extend n σ m a) (fun res => res.1.toInt = exA (ms_E σ 40) m a ∧ pdl (ms_E res.2 40) = exX (ms_E σ 40) m a) := by
  have c2 : ((2 : Int32)).toNatClampNeg = 2 := by decide
  have h64 := hC.2.2.1
  have tM : (1000000 : Int32).toInt = 1000000 := by decide
  have bad : ∀ v : Int32, ¬ v = 0 → ¬ exOK (ms_E σ 40) m a → pr (f_X12_extend_J42 n σ m a v) (fun res => res.1.toInt = exA (ms_E σ 40) m a ∧ pdl (ms_E res.2 40) = exX (ms_E σ 40) m a) := fun v hv hno => by
    unfold f_X12_extend_J42 exA exX
    rw [if_neg hno, if_neg hno]
    exact v_is1 n σ v hv (pr_s ⟨rfl, rfl⟩)
  unfold f_X12_extend f_X12_extend_J20
  rw [c2]
  refine pr_bo (v_isIn n m 0 1000000) (fun z => bad 1 (by decide) (fun q => z (by rw [lt0, tM]; exact q.1))) (fun z => pr_bo (pr_w (s_isMark hC a)) (fun z2 => bad 1 (by decide) (fun q => z2 q.2.1)) (fun z2 => ?_))
  rw [lt0, tM] at z
  obtain ⟨r, er, hr⟩ := s_bitCount2 n m z.1 z.2
  obtain ⟨r', er', hr'⟩ := s_bitCount n m
  rw [er] at er'
  cases er'
  refine pr_b (T := fun x => x = r) (fun x hx => Option.some.inj (hx.symm.trans er)) (fun x hx => ?_)
  subst hx
  refine pr_g (fun _ _ => pr_e (fun e => ?_) (fun e => bad 5 (by decide) (fun q => e (by rw [q.2.2]; exact hr))))
  have e2 : (ms_E σ 40 2).toInt = (bc m.toInt.toNat : Int) := by rw [← e]; exact hr
  have ok : exOK (ms_E σ 40) m a := ⟨z, z2, e2⟩
  unfold f_X12_extend_J42 exA exX exF
  rw [if_pos ok, if_pos ok]
  refine v_is0 n σ ?_
  have := v_extend_L n m.toInt.toNat (bc m.toInt.toNat) (by omega) rfl (by omega) n 20 0 (ms_sI (ms_sI σ 653 0) 652 0) a m (by omega) (by rw [show ms_E (ms_sI (ms_sI σ 653 0) 652 0) = ms_E σ from rfl]; omega) (by rw [Nat.pow_zero, Nat.mod_one]) (Nat.zero_le _) (by rw [Nat.pow_zero, Nat.div_one]; omega)
  rw [Nat.pow_zero, Nat.div_one] at this
  exact this
theorem k_putPeak_L (n A P : Nat) (hA : A < 1048576) (hP : P = bc A) (hP63 : P ≤ 63) (a : Nat) (m : Int32) (hm : 0 < m.toInt) : ∀ (k e t : Nat) (α : hp_T) (l : List Int32) (x v j : Int32), t + e = 20 → RWL α a l → (l.length : Int) = (P : Int) - t → A % 2 ^ t = 2 ^ t - 1 → t ≤ P → v.toInt = ((A / 2 ^ t : Nat) : Int) → j.toInt = (t : Int) → 21 - (t : Int) ≤ (k : Int) → ws (f_X5_putPeak_L9 n a k α m x v j) (fun β => RWL β a (exL m e l (A / 2 ^ t) x) ∧ ef a α β) := by
  have t31 : (31 : Int32).toInt = 31 := by decide
  have n1 : (1 : Int32).toBitVec.toNat = 1 := by decide
  intro k
  induction k with
  | zero => intro e t α l x v j h1 _ _ _ _ _ _ h2; omega
  | succ k ih =>
    intro e t α l x v j hte hR hl hm2 htP hv hj hk
    rw [f_X5_putPeak_L9.eq_2]
    have hv0 : 0 ≤ v.toInt := by
      generalize A / 2 ^ t = Q at hv
      omega
    obtain ⟨hb, hb2⟩ := bN v hv0
    have hand : (v &&& 1).toBitVec.toNat = A / 2 ^ t % 2 := by
      rw [n_and, n1, Nat.and_one_is_mod]
      generalize A / 2 ^ t = Q at hv
      omega
    refine ws_le (fun z => by rw [t31] at z; omega) (fun _ => ws_i (fun q => ?_) (fun q => ?_))
    · have ho : A / 2 ^ t % 2 = 1 := by rw [← hand, q]; exact n1
      have ht2 := tw_20 hA ho (by omega)
      obtain ⟨e, rfl⟩ : ∃ y, e = y + 1 := ⟨e - 1, by omega⟩
      have hm3 := tw_m hm2 ho
      have hle := bc_t A (t + 1) hA ht2 hm3
      rw [← hP] at hle
      have hi := hR.2.1
      have e1 : (hp_I α 301 a - 1).toInt = ((l.length - 1 : Nat) : Int) := by rw [iw_sub, lt1, hi]; omega
      refine ws_l (ws_b (k_rat n hR (l.length - 1) (by omega) _ e1) (fun r7 h7 => ws_b (k_two n m r7 x hm) (fun r8 h8 => ws_l (ws_b (k_rshort n hR (l.length - 1) (by omega) _ e1) (fun β hβ => ws_l (ws_l ?_))))))
      obtain ⟨s, hs⟩ : ∃ s : Int32, s = (v.toUInt32 >>> ((1 : Int32).toUInt32 &&& Int32.toUInt32 31)).toInt32 := ⟨_, rfl⟩
      rw [← hs]
      have s1 : s.toBitVec.toNat = v.toBitVec.toNat / 2 := by rw [hs]; exact n_sh1 v
      have s2 : s.toInt = (s.toBitVec.toNat : Int) := by
        show s.toBitVec.toInt = _
        exact BitVec.toInt_eq_toNat_of_lt (by omega)
      have s3 : s.toInt = ((A / 2 ^ (t + 1) : Nat) : Int) := by
        rw [tw_s, s2, s1]
        generalize A / 2 ^ t = Q at hv
        omega
      rw [exL, if_pos ho, ← h7, ← h8, ← tw_s]
      refine ws_m (ih e (t + 1) β _ r8 s _ (by omega) hβ.1 (by rw [List.length_take]; omega) hm3 hle s3 (by rw [iw_add, lt1]; omega) (by omega)) (fun γ hγ => ⟨hγ.1, ef_tr hβ.2 hγ.2⟩)
    · have ho : ¬ A / 2 ^ t % 2 = 1 := fun ho => q (Int32.toBitVec_inj.mp (BitVec.eq_of_toNat_eq (by rw [hand, ho]; exact n1.symm)))
      rw [exL_0 _ _ _ _ _ ho]
      unfold f_X5_putPeak_J64
      exact ws_b (k_rput n hR (by omega) x) (fun β hβ => ws_s hβ)
theorem k_extend (n : Nat) (hn : 70000 ≤ n) (α : hp_T) (x : Nat) (f : Nat → Int32) (hC : rC f) (h : RWX α x f) (h6 : hp_R α 603 x = x + 919) (h3 : hp_R α 300 (x + 919) = x + 920) (hP : RWL α (x + 919) (pdl f)) (m a : Int32) : ws (f_X11_extend n α x m a) (fun res => res.1.toInt = exA f m a ∧ RWL res.2 (x + 919) (exX f m a) ∧ pfr x α res.2) := by
  obtain ⟨w, u, h1, h2, -, h4, -⟩ := h
  have h64 := hC.2.2.1
  have hm0 := hC.2.1
  have tM : (1000000 : Int32).toInt = 1000000 := by decide
  have hl := hP.2.1
  rw [pdl_len] at hl
  have bad : ∀ v : Int32, ¬ exOK f m a → ws (hq_c (f_X11_refuse n α x v) fun r β => some (r, β)) (fun res => res.1.toInt = exA f m a ∧ RWL res.2 (x + 919) (exX f m a) ∧ pfr x α res.2) := fun v hno => by
    unfold exA exX
    rw [if_neg hno, if_neg hno]
    refine ws_hc (k_refuse n α x v) (fun z γ hz => ws_s ⟨by rw [show z = -1 from hz.1]; rfl, ?_, ?_⟩)
    · rw [show γ = hp_sI α 600 x v from hz.2]; exact RWL_st hP
    · rw [show γ = hp_sI α 600 x v from hz.2]; exact pfr_st
  unfold f_X11_extend f_X11_extend_J19
  refine ws_lt (fun e => bad 1 (fun q => by rw [lt0] at e; have := q.1.1; omega)) (fun e => ws_lt (fun e2 => bad 1 (fun q => by rw [tM] at e2; have := q.1.2; omega)) (fun e2 => ws_bo (k_isMark n h1 h4.2.1.1 a) (fun z => bad 1 (fun q => z q.2.1)) (fun z => ws_l (ws_l ?_))))
  rw [lt0] at e
  rw [tM] at e2
  rw [h6]
  obtain ⟨r, er, hr⟩ := s_bitCount2 n m (by omega) (by omega)
  obtain ⟨r', er', hr'⟩ := s_bitCount n m
  rw [er] at er'
  cases er'
  refine ws_b (S := fun x => x = r) ⟨r, er, rfl⟩ (fun y hy => ?_)
  subst hy
  refine ws_e (fun e3 => ws_l (ws_l (ws_l ?_))) (fun e3 => bad 5 (fun q => e3 (by rw [hr, hl]; have := q.2.2; omega)))
  have e4 : (f 2).toInt = (bc m.toInt.toNat : Int) := by rw [← hr, ← e3, hl]; omega
  have ok : exOK f m a := ⟨⟨by omega, by omega⟩, z, e4⟩
  rw [h1, h4.2.1.1]
  unfold exA exX exF
  rw [if_pos ok, if_pos ok]
  have hpp : ws (f_X5_putPeak n α (x + 919) (f 1) m a) (fun β => RWL β (x + 919) (exL (f 1) 20 (pdl f) m.toInt.toNat a) ∧ ef (x + 919) α β) := by
    unfold f_X5_putPeak
    have := k_putPeak_L n m.toInt.toNat (bc m.toInt.toNat) (by omega) rfl (by omega) (x + 919) (f 1) (by omega) n 20 0 α (pdl f) a m 0 (by omega) hP (by rw [pdl_len]; omega) (by rw [Nat.pow_zero, Nat.mod_one]) (Nat.zero_le _) (by rw [Nat.pow_zero, Nat.div_one]; omega) rfl (by omega)
    rw [Nat.pow_zero, Nat.div_one] at this
    exact this
  refine ws_b hpp (fun β hβ => ws_l (ws_l ?_))
  have e6 : hp_R β 603 x = x + 919 := by rw [hβ.2.1]; exact h6
  rw [e6]
  refine ws_hc (k_answer n β x _) (fun z γ hz => ws_s ⟨?_, ?_, ?_⟩)
  · rw [show z = hp_I β 301 (x + 919) from hz.1]; exact hβ.1.2.1
  · rw [show γ = hp_sI β 600 x 0 from hz.2]; exact RWL_st hβ.1
  · rw [show γ = hp_sI β 600 x 0 from hz.2]; exact pfr_tr (pfr_ef hβ.2 h3) pfr_st
end JN9_14
section JN9_15
set_option maxRecDepth 100000
theorem shk : ∀ k, k < 31 → (((Int32.ofNat k) &&& 31).toBitVec.smod 32).toNat = k := by decide +kernel
theorem uhk : ∀ k, k < 31 → (UInt32.mod (Int32.toUInt32 (Int32.ofNat k) &&& Int32.toUInt32 31) 32).toBitVec.toNat = k := by decide +kernel
theorem msk : ∀ m, m < 31 → (((1 : Int32) <<< ((Int32.ofNat m) &&& 31)) - 1).toBitVec.toNat = 2 ^ m - 1 := by decide +kernel
theorem onk : ∀ m, m < 31 → ((1 : Int32) <<< ((Int32.ofNat m) &&& 31)).toInt = ((2 ^ m : Nat) : Int) := by decide +kernel
theorem S_nat {s : Int32} (hs : 0 ≤ s.toInt) : s.toBitVec.msb = false ∧ s.toBitVec.toNat = s.toInt.toNat := by
  have h3 : s.toBitVec.toInt = s.toInt := rfl
  have h1 : s.toBitVec.msb = false := by
    rw [BitVec.msb_eq_toInt, h3, decide_eq_false_iff_not]
    omega
  have h2 := BitVec.toInt_eq_toNat_of_msb h1
  exact ⟨h1, by omega⟩
theorem bt_ref {s v : Int32} {k : Nat} (hs : 0 ≤ s.toInt) (hv : v.toInt = (k : Int)) (hk : k < 31) : (((s >>> (v &&& 31)) &&& (1 : Int32)) = 1) ↔ s.toInt.toNat.testBit k = true := by
  obtain ⟨h1, h2⟩ := S_nat hs
  have ev := i_ofN hv
  subst ev
  have hX : (s >>> ((Int32.ofNat k) &&& 31)).toBitVec.toNat = s.toInt.toNat / 2 ^ k := by
    show (s.toBitVec.sshiftRight (((Int32.ofNat k) &&& 31).toBitVec.smod 32).toNat).toNat = _
    rw [shk k hk, BitVec.sshiftRight_eq_of_msb_false h1, BitVec.toNat_ushiftRight, h2, Nat.shiftRight_eq_div_pow]
  rw [← Int32.toBitVec_inj, ← BitVec.toNat_inj]
  show ((s >>> ((Int32.ofNat k) &&& 31)).toBitVec &&& (1 : Int32).toBitVec).toNat = 1 ↔ _
  rw [BitVec.toNat_and, hX, show ((1 : Int32).toBitVec).toNat = 1 from rfl, Nat.and_one_is_mod, Nat.testBit_eq_decide_div_mod_eq, decide_eq_true_iff]
def hasB (S f m : Nat) : Bool := decide (S / 2 ^ f % 2 ^ m ≠ 0)
theorem hasB_iff (S f m : Nat) : hasB S f m = true ↔ ∃ j, f ≤ j ∧ j < f + m ∧ S.testBit j = true := by
  unfold hasB
  rw [decide_eq_true_iff]
  constructor
  · intro h
    obtain ⟨i, hi⟩ := Nat.exists_testBit_of_ne_zero h
    rw [Nat.testBit_mod_two_pow, Bool.and_eq_true, decide_eq_true_iff, ← Nat.shiftRight_eq_div_pow, Nat.testBit_shiftRight] at hi
    exact ⟨f + i, by omega, by omega, hi.2⟩
  · intro ⟨j, h1, h2, h3⟩ h
    have : (S / 2 ^ f % 2 ^ m).testBit (j - f) = true := by
      rw [Nat.testBit_mod_two_pow, Bool.and_eq_true, decide_eq_true_iff, ← Nat.shiftRight_eq_div_pow, Nat.testBit_shiftRight]
      exact ⟨by omega, by rw [show f + (j - f) = j by omega]; exact h3⟩
    rw [h, Nat.zero_testBit] at this
    cases this
theorem bit30 {S j : Nat} (hS : S < 2 ^ 30) (h : S.testBit j = true) : j < 30 := by
  refine Nat.lt_of_not_le (fun h30 => ?_)
  have := Nat.testBit_lt_two_pow (Nat.lt_of_lt_of_le hS (Nat.pow_le_pow_right (by decide) h30))
  rw [h] at this
  cases this
theorem v_hasAny_L (n : Nat) {s : Int32} (hs : 0 ≤ s.toInt) {f m : Nat} {fI mI : Int32} (hf : fI.toInt = (f : Int)) (hm : mI.toInt = (m : Int)) : ∀ (d v : Nat) (vI : Int32), vI.toInt = (v : Int) → v ≤ 30 → (∀ j, j < v → ¬ (s.toInt.toNat.testBit j = true ∧ f ≤ j ∧ j < f + m)) → pr (f_X12_hasAny_L2 n d s fI mI vI) (fun r => (r = 1 ∧ ∃ j, f ≤ j ∧ j < f + m ∧ s.toInt.toNat.testBit j = true) ∨ (r = 0 ∧ ∀ j, j < 30 → ¬ (s.toInt.toNat.testBit j = true ∧ f ≤ j ∧ j < f + m))) := by
  intro d
  induction d with
  | zero => intro v vI _ _ _; rw [f_X12_hasAny_L2.eq_1]; exact pr_0
  | succ d ih =>
    intro v vI hv hv30 h
    have t30 : (30 : Int32).toInt = 30 := by decide
    rw [f_X12_hasAny_L2.eq_2]
    have e1 : (vI + 1).toInt = ((v + 1 : Nat) : Int) := by rw [iw_add, lt1]; omega
    refine pr_le (fun c => pr_s (Or.inr ⟨rfl, fun j hj => h j (by omega)⟩)) (fun c => ?_)
    rw [t30] at c
    have hJ : ¬ (s.toInt.toNat.testBit v = true ∧ f ≤ v ∧ v < f + m) → pr (f_X12_hasAny_J31 n (f_X12_hasAny_L2 n d) s fI mI vI) (fun r => (r = 1 ∧ ∃ j, f ≤ j ∧ j < f + m ∧ s.toInt.toNat.testBit j = true) ∨ (r = 0 ∧ ∀ j, j < 30 → ¬ (s.toInt.toNat.testBit j = true ∧ f ≤ j ∧ j < f + m))) := by
      intro hno
      unfold f_X12_hasAny_J31
      refine pr_l (ih (v + 1) (vI + 1) e1 (by omega) (fun j hj => ?_))
      by_cases ej : j = v
      · rw [ej]; exact hno
      · exact h j (by omega)
    refine pr_i (fun z => ?_) (fun z => hJ (fun q => z ((bt_ref hs hv (by omega)).mpr q.1)))
    have hb := (bt_ref hs hv (by omega)).mp z
    refine pr_lt (fun c1 => hJ (fun q => by omega)) (fun c1 => ?_)
    have hvf : (vI - fI).toInt = (v : Int) - f := by have := ib_hi fI; rw [ii_sub (by omega) (by omega)]; omega
    refine pr_le (fun c2 => hJ (fun q => by omega)) (fun c2 => pr_s (Or.inl ⟨rfl, v, by omega, by omega, hb⟩))
theorem v_hasAny (n : Nat) {s : Int32} (hs : 0 ≤ s.toInt) (hS : s.toInt.toNat < 2 ^ 30) {f m : Nat} {fI mI : Int32} (hf : fI.toInt = (f : Int)) (hm : mI.toInt = (m : Int)) : pr (f_X12_hasAny n s fI mI) (fun r => r = if hasB s.toInt.toNat f m = true then 1 else 0) := by
  unfold f_X12_hasAny
  refine pr_m (v_hasAny_L n hs hf hm n 0 0 (by decide) (by omega) (fun j hj => absurd hj (Nat.not_lt_zero _))) (fun r hr => ?_)
  rcases hr with ⟨h1, h2⟩ | ⟨h1, h2⟩
  · rw [if_pos ((hasB_iff _ _ _).mpr h2)]; exact h1
  · rw [if_neg (fun z => by obtain ⟨j, q1, q2, q3⟩ := (hasB_iff _ _ _).mp z; exact h2 j (bit30 hS q3) ⟨q3, q1, q2⟩)]; exact h1
theorem k_has (n : Nat) {s : Int32} (hs : 0 ≤ s.toInt) (hS : s.toInt.toNat < 2 ^ 30) {f m : Nat} {fI mI : Int32} (hf : fI.toInt = (f : Int)) (hm : mI.toInt = (m : Int)) : ws (f_X11_hasOneOf n s fI mI) (fun r => r = if hasB s.toInt.toNat f m = true then 1 else 0) := by
  have t30 : (30 : Int32).toInt = 30 := by decide
  obtain ⟨h1, h2⟩ := S_nat hs
  unfold f_X11_hasOneOf f_X11_hasOneOf_J37
  refine ws_lt (fun c => by rw [lt0] at c; omega) (fun _ => ws_le (fun c => ws_s ?_) (fun c => ?_))
  · rw [t30] at c
    have : s.toInt.toNat / 2 ^ f = 0 := Nat.div_eq_of_lt (Nat.lt_of_lt_of_le hS (Nat.pow_le_pow_right (by decide) (by omega)))
    unfold hasB
    rw [this, Nat.zero_mod]; rfl
  · rw [t30] at c
    refine ws_lt (fun c0 => ws_ln (fun x4 hx4 => ?_)) (fun c0 => ws_s ?_)
    · rw [lt0] at c0
      have ef := i_ofN hf
      have hX : x4.toBitVec.toNat = s.toInt.toNat / 2 ^ f := by
        rw [hx4, ef]
        show (s.toBitVec >>> (UInt32.mod (Int32.toUInt32 (Int32.ofNat f) &&& Int32.toUInt32 31) 32).toBitVec.toNat).toNat = _
        rw [uhk f (by omega), BitVec.toNat_ushiftRight, h2, Nat.shiftRight_eq_div_pow]
      have hz : ∀ y : Int32, y = 0 ↔ y.toBitVec.toNat = 0 := fun y => by
        rw [← Int32.toBitVec_inj, ← BitVec.toNat_inj]; rfl
      have fin : ∀ y : Int32, y.toBitVec.toNat = s.toInt.toNat / 2 ^ f % 2 ^ m → ws (if y = 0 then some (0 : Int32) else some (1 : Int32)) (fun r => r = if hasB s.toInt.toNat f m = true then 1 else 0) := fun y hy => by
        refine ws_i (fun z => ws_s ?_) (fun z => ws_s ?_)
        · rw [if_neg]
          unfold hasB
          rw [← hy, (hz y).mp z]; decide
        · rw [if_pos]
          unfold hasB
          rw [← hy, decide_eq_true_iff]
          exact fun q => z ((hz y).mpr q)
      refine ws_lt (fun c1 => fin _ ?_) (fun c1 => fin _ ?_)
      · rw [t30] at c1
        have em := i_ofN hm
        show (x4.toBitVec &&& (((1 : Int32) <<< (mI &&& 31)) - 1).toBitVec).toNat = _
        rw [BitVec.toNat_and, hX, em, msk m (by omega), Nat.and_two_pow_sub_one_eq_mod]
      · rw [t30] at c1
        rw [hX]
        refine (Nat.mod_eq_of_lt ?_).symm
        exact Nat.lt_of_le_of_lt (Nat.div_le_self _ _) (Nat.lt_of_lt_of_le hS (Nat.pow_le_pow_right (by decide) (by omega)))
    · rw [lt0] at c0
      have : m = 0 := by omega
      subst this
      unfold hasB
      rw [Nat.pow_zero, Nat.mod_one]; rfl
def buT (S : Nat) : Nat → Nat → Nat → List (Nat × Nat × Bool)
  | 0, f, m => if hasB S f m = true then [] else [(f, m, false)]
  | e + 1, f, m => if hasB S f m = true then (if m = 1 then [] else buT S e f (p0 m) ++ buT S e (f + p0 m) (m - p0 m)) else [(f, m, false)]
def buM (S : Nat) : Nat → Nat → Nat → Nat
  | 0, f, m => if hasB S f m = true then 1 else 0
  | e + 1, f, m => if hasB S f m = true then (if m = 1 then 1 else buM S e f (p0 m) + buM S e (f + p0 m) (m - p0 m)) else 0
theorem buT_1 {S f : Nat} (h : hasB S f 1 = true) (e : Nat) : buT S e f 1 = [] := by
  cases e with
  | zero => rw [buT, if_pos h]
  | succ e => rw [buT, if_pos h, if_pos rfl]
theorem buT_F {S f m : Nat} (h : ¬ hasB S f m = true) (e : Nat) : buT S e f m = [(f, m, false)] := by
  cases e with
  | zero => rw [buT, if_neg h]
  | succ e => rw [buT, if_neg h]
theorem buM_1 {S f : Nat} (h : hasB S f 1 = true) (e : Nat) : buM S e f 1 = 1 := by
  cases e with
  | zero => rw [buM, if_pos h]
  | succ e => rw [buM, if_pos h, if_pos rfl]
theorem buM_F {S f m : Nat} (h : ¬ hasB S f m = true) (e : Nat) : buM S e f m = 0 := by
  cases e with
  | zero => rw [buM, if_neg h]
  | succ e => rw [buM, if_neg h]
theorem buM_le {S : Nat} (hS : S < 2 ^ 30) : ∀ (e f m : Nat), 1 ≤ m → m ≤ 2 ^ e → buM S e f m ≤ min (f + m) 30 - f := by
  intro e
  induction e with
  | zero =>
    intro f m h1 h2
    have : m = 1 := by simp at h2; omega
    subst this
    unfold buM
    by_cases h : hasB S f 1 = true
    · rw [if_pos h]
      obtain ⟨j, q1, q2, q3⟩ := (hasB_iff _ _ _).mp h
      have := bit30 hS q3
      omega
    · rw [if_neg h]; omega
  | succ e ih =>
    intro f m h1 h2
    unfold buM
    by_cases h : hasB S f m = true
    · rw [if_pos h]
      by_cases hm : m = 1
      · rw [if_pos hm]
        subst hm
        obtain ⟨j, q1, q2, q3⟩ := (hasB_iff _ _ _).mp h
        have := bit30 hS q3
        omega
      · rw [if_neg hm]
        have hm2 : 2 ≤ m := by omega
        have hp1 := p0_lt hm2
        have hp2 := p0_le (m := m)
        have hp3 := p0_pos m
        have hp4 := p0_dn hm2 h2
        have a1 := ih f (p0 m) hp3 hp4
        have a2 := ih (f + p0 m) (m - p0 m) (by omega) (by omega)
        omega
    · rw [if_neg h]; omega
theorem v_bundlesIn (n : Nat) {s : Int32} (hs : 0 ≤ s.toInt) (hS : s.toInt.toNat < 2 ^ 30) : ∀ (d e : Nat) (σ : ms_T) (l : List (Nat × Nat × Bool)) (f m : Nat) (fI mI : Int32), WS σ l → fI.toInt = (f : Int) → mI.toInt = (m : Int) → 1 ≤ m → m ≤ 2 ^ e → f + m ≤ 2147483647 → pr (f_X12_bundlesIn n d σ s fI mI) (fun τ => WS τ (l ++ buT s.toInt.toNat e f m)) := by
  intro d
  induction d with
  | zero => intro e σ l f m fI mI _ _ _ _ _ _; rw [f_X12_bundlesIn.eq_1]; exact pr_0
  | succ d ih =>
    intro e σ l f m fI mI hW hf hm hm1 hme hfm
    rw [f_X12_bundlesIn.eq_2]
    refine pr_b (v_hasAny n hs hS hf hm) (fun r hr => ?_)
    by_cases hh : hasB s.toInt.toNat f m = true
    · rw [if_pos hh] at hr
      subst hr
      refine pr_i (fun z => absurd z (by decide)) (fun _ => ?_)
      refine pr_e (fun h1 => pr_s ?_) (fun h1 => ?_)
      · have : m = 1 := by rw [h1, lt1] at hm; omega
        subst this
        have e1 : buT s.toInt.toNat e f 1 = [] := buT_1 hh e
        rw [e1, List.append_nil]
        exact hW
      · rw [lt1, hm] at h1
        have hm2 : 2 ≤ m := by omega
        cases e with
        | zero => simp at hme; omega
        | succ e =>
        have hp1 := p0_lt hm2
        have hp2 := p0_le (m := m)
        have hp3 := p0_pos m
        have hp4 := p0_dn hm2 hme
        have e1 : buT s.toInt.toNat (e + 1) f m = buT s.toInt.toNat e f (p0 m) ++ buT s.toInt.toNat e (f + p0 m) (m - p0 m) := by rw [buT, if_pos hh, if_neg (by omega)]
        rw [e1]
        refine pr_b (v_part0 n mI (by omega)) (fun r hr => ?_)
        rw [hm, Int.toNat_natCast] at hr
        refine pr_b (ih e σ l f (p0 m) _ _ hW hf hr hp3 hp4 (by omega)) (fun τ hτ => ?_)
        refine pr_b (ih e τ _ (f + p0 m) (m - p0 m) _ _ hτ (by rw [ii_add (by omega) (by omega)]; omega) (by rw [ii_sub (by omega) (by omega)]; omega) (by omega) (by omega) (by omega)) (fun υ hυ => pr_s ?_)
        rw [← List.append_assoc]
        exact hυ
    · rw [if_neg hh] at hr
      subst hr
      refine pr_i (fun _ => ?_) (fun z => absurd rfl z)
      have e1 : buT s.toInt.toNat e f m = [(f, m, false)] := buT_F hh e
      rw [e1]
      exact pr_b (v_asks n hW fI mI (f, m, false) hf hm) (fun τ hτ => pr_s hτ)
theorem v_bundleOf (n : Nat) (σ : ms_T) {s : Int32} (hs : 0 ≤ s.toInt) (hS : s.toInt.toNat < 2 ^ 30) (m : Int32) (hm : 1 ≤ m.toInt) : pr (f_X12_bundleOf n σ s m) (fun τ => WS τ (buT s.toInt.toNat 31 0 m.toInt.toNat)) := by
  have hb := ib_hi m
  have h31 : (2 : Nat) ^ 31 = 2147483648 := by decide
  unfold f_X12_bundleOf
  refine pr_l (pr_b (v_bundlesIn n hs hS 40 31 _ [] 0 m.toInt.toNat 0 m ⟨by rw [mI_sI, if_pos rfl]; rfl, fun k q h => by simp at h⟩ rfl (by omega) (by omega) (by omega) (by omega)) (fun τ hτ => pr_s ?_))
  simpa using hτ
theorem buT_len (n : Nat) (hn : 70000 ≤ n) (σ : ms_T) {s : Int32} (hs : 0 ≤ s.toInt) (hS : s.toInt.toNat < 2 ^ 30) (m : Int32) (hm : 1 ≤ m.toInt) : (buT s.toInt.toNat 31 0 m.toInt.toNat).length ≤ 58 := by
  obtain ⟨τ, e, w, hw, hw58⟩ := s_bundleOf n hn σ s m hm
  have h1 := (v_bundleOf n σ hs hS m hm τ e).1
  have h2 := hw.2.1
  omega
theorem buT_in {S : Nat} : ∀ (e f m : Nat) {t b : Nat} {c : Bool}, (t, b, c) ∈ buT S e f m → 1 ≤ m → m ≤ 2 ^ e → f ≤ t ∧ t + b ≤ f + m ∧ 1 ≤ b ∧ c = false := by
  intro e
  induction e with
  | zero =>
    intro f m t b c h h1 h2
    unfold buT at h
    by_cases hh : hasB S f m = true
    · rw [if_pos hh] at h; cases h
    · rw [if_neg hh, List.mem_singleton] at h
      cases h
      exact ⟨Nat.le_refl _, Nat.le_refl _, h1, rfl⟩
  | succ e ih =>
    intro f m t b c h h1 h2
    unfold buT at h
    by_cases hh : hasB S f m = true
    · rw [if_pos hh] at h
      by_cases hm : m = 1
      · rw [if_pos hm] at h; cases h
      · rw [if_neg hm] at h
        have hm2 : 2 ≤ m := by omega
        have hp1 := p0_lt hm2
        have hp2 := p0_le (m := m)
        have hp3 := p0_pos m
        have hp4 := p0_dn hm2 h2
        rcases List.mem_append.mp h with q | q
        · have := ih f (p0 m) q hp3 hp4
          exact ⟨by omega, by omega, by omega, this.2.2.2⟩
        · have := ih (f + p0 m) (m - p0 m) q (by omega) (by omega)
          exact ⟨by omega, by omega, by omega, this.2.2.2⟩
    · rw [if_neg hh, List.mem_singleton] at h
      cases h
      exact ⟨Nat.le_refl _, Nat.le_refl _, h1, rfl⟩
theorem k_pgw (n : Nat) (w : Nat) {s : Int32} (hs : 0 ≤ s.toInt) (hS : s.toInt.toNat < 2 ^ 30) (l : List (Nat × Nat × Bool)) (hl : l.length < 64) (α : hp_T) (hW : WC α w l) (t m : Nat) (tI : Int32) (ht : tI.toInt = (t : Int)) : ∀ (e d a b : Nat) (aI bI dI : Int32), (t, m, false) ∈ buT s.toInt.toNat e a b → aI.toInt = (a : Int) → bI.toInt = (b : Int) → 1 ≤ b → b ≤ 2 ^ e → a + b ≤ 2147483647 → 0 ≤ dI.toInt → dI.toInt + e ≤ 39 → e + 1 ≤ d → ws (f_X8_putGreatestWithout_L9 n w d α s tI aI bI dI) (fun r => r.1.toInt = (m : Int) ∧ WC r.2 w (l ++ [(t, m, false)]) ∧ wf w α r.2) := by
  intro e
  have t40 : (40 : Int32).toInt = 40 := by decide
  induction e with
  | zero =>
    intro d a b aI bI dI hmem ha hb hb1 hbe hab hd0 hd hdd
    cases d with
    | zero => omega
    | succ d =>
    rw [f_X8_putGreatestWithout_L9.eq_2]
    by_cases hh : hasB s.toInt.toNat a b = true
    · rw [buT, if_pos hh] at hmem; cases hmem
    · rw [buT, if_neg hh, List.mem_singleton] at hmem
      obtain ⟨rfl, rfl⟩ : t = a ∧ m = b := by cases hmem; exact ⟨rfl, rfl⟩
      refine ws_le (fun c => by rw [t40] at c; omega) (fun _ => ws_e (fun _ => ?_) (fun z => by omega))
      refine ws_b (k_has n hs hS ha hb) (fun r hr => ?_)
      rw [if_neg hh] at hr
      subst hr
      refine ws_i (fun _ => ?_) (fun z => absurd rfl z)
      unfold f_X8_putGreatestWithout_J76
      exact ws_b (k_put8 n α w l hW hl (t, m, false) aI bI 0 ha hb rfl) (fun β hβ => ws_s ⟨hb, hβ.1, hβ.2⟩)
  | succ e ih =>
    intro d a b aI bI dI hmem ha hb hb1 hbe hab hd0 hd hdd
    cases d with
    | zero => omega
    | succ d =>
    rw [f_X8_putGreatestWithout_L9.eq_2]
    refine ws_le (fun c => by rw [t40] at c; omega) (fun _ => ?_)
    by_cases hh : hasB s.toInt.toNat a b = true
    · rw [buT, if_pos hh] at hmem
      by_cases hb2 : b = 1
      · rw [if_pos hb2] at hmem; cases hmem
      rw [if_neg hb2] at hmem
      have hm2 : 2 ≤ b := by omega
      have hp1 := p0_lt hm2
      have hp2 := p0_le (m := b)
      have hp3 := p0_pos b
      have hp4 := p0_dn hm2 hbe
      have hdI : (dI + 1).toInt = dI.toInt + 1 := by rw [ii_add (by rw [lt1]; omega) (by rw [lt1]; omega), lt1]
      have hJ : ws (f_X8_putGreatestWithout_J33 n w (f_X8_putGreatestWithout_L9 n w d) α s tI aI bI dI) (fun r => r.1.toInt = (m : Int) ∧ WC r.2 w (l ++ [(t, m, false)]) ∧ wf w α r.2) := by
        unfold f_X8_putGreatestWithout_J33 f_X8_putGreatestWithout_J70
        refine ws_b (k_first n bI (by omega)) (fun r hr => ?_)
        rw [hb, Int.toNat_natCast] at hr
        rcases List.mem_append.mp hmem with hm | hm
        · have hin := buT_in _ _ _ hm hp3 hp4
          have hta : (tI - aI).toInt = (t : Int) - a := by have := ib_hi aI; have := ib_hi tI; rw [ii_sub (by omega) (by omega)]; omega
          refine ws_le (fun c => by omega) (fun c => ws_l ?_)
          exact ih d a (p0 b) aI r (dI + 1) hm ha hr hp3 hp4 (by omega) (by omega) (by omega) (by omega)
        · have hin := buT_in _ _ _ hm (by omega) (by omega)
          have hta : (tI - aI).toInt = (t : Int) - a := by have := ib_hi aI; have := ib_hi tI; rw [ii_sub (by omega) (by omega)]; omega
          refine ws_le (fun c => ws_l (ws_l (ws_l ?_))) (fun c => by omega)
          exact ih d (a + p0 b) (b - p0 b) (aI + r) (bI - r) (dI + 1) hm (by rw [ii_add (by omega) (by omega)]; omega) (by rw [ii_sub (by omega) (by omega)]; omega) (by omega) (by omega) (by omega) (by omega) (by omega) (by omega)
      refine ws_e (fun _ => ?_) (fun _ => hJ)
      refine ws_b (k_has n hs hS ha hb) (fun r hr => ?_)
      rw [if_pos hh] at hr
      subst hr
      exact ws_i (fun z => absurd z (by decide)) (fun _ => hJ)
    · rw [buT, if_neg hh, List.mem_singleton] at hmem
      obtain ⟨rfl, rfl⟩ : t = a ∧ m = b := by cases hmem; exact ⟨rfl, rfl⟩
      refine ws_e (fun _ => ?_) (fun z => by omega)
      refine ws_b (k_has n hs hS ha hb) (fun r hr => ?_)
      rw [if_neg hh] at hr
      subst hr
      refine ws_i (fun _ => ?_) (fun z => absurd rfl z)
      unfold f_X8_putGreatestWithout_J76
      exact ws_b (k_put8 n α w l hW hl (t, m, false) aI bI 0 ha hb rfl) (fun β hβ => ws_s ⟨hb, hβ.1, hβ.2⟩)
end JN9_15
section JN9_16
set_option maxRecDepth 100000
theorem k_bun (n : Nat) (hn : 70000 ≤ n) (w : Nat) {s : Int32} (hs : 0 ≤ s.toInt) (hS : s.toInt.toNat < 2 ^ 30) (N : Nat) (NI : Int32) (hN : NI.toInt = (N : Int)) (hN1 : 1 ≤ N) (hNe : N ≤ 2 ^ 31) (α0 : hp_T) (Q : hp_T → Prop) : ∀ (e a b : Nat), 1 ≤ b → b ≤ 2 ^ e → a + b ≤ N → (∀ q, q ∈ buT s.toInt.toNat e a b → q ∈ buT s.toInt.toNat 31 0 N) → ∀ (l : List (Nat × Nat × Bool)) (α : hp_T) (r d : Nat) (aI rI : Int32), WC α w l → wf w α0 α → l.length + (buT s.toInt.toNat e a b).length ≤ 64 → aI.toInt = (a : Int) → rI.toInt = (r : Int) → r + ((buT s.toInt.toNat e a b).length + buM s.toInt.toNat e a b) ≤ 128 → (buT s.toInt.toNat e a b).length + buM s.toInt.toNat e a b ≤ d → (∀ (β : hp_T) (aI' rI' : Int32), WC β w (l ++ buT s.toInt.toNat e a b) → wf w α0 β → aI'.toInt = ((a + b : Nat) : Int) → rI'.toInt = ((r + ((buT s.toInt.toNat e a b).length + buM s.toInt.toNat e a b) : Nat) : Int) → ws (f_X8_toBundle_L9 n w (d - ((buT s.toInt.toNat e a b).length + buM s.toInt.toNat e a b)) β s NI aI' rI') Q) → ws (f_X8_toBundle_L9 n w d α s NI aI rI) Q := by
  intro e
  have t128 : (128 : Int32).toInt = 128 := by decide
  have hNb := ib_hi NI
  -- one tree, or one of the set
  have leafT : ∀ (e a b : Nat), hasB s.toInt.toNat a b = false → 1 ≤ b → a + b ≤ N → (∀ q, q ∈ buT s.toInt.toNat e a b → q ∈ buT s.toInt.toNat 31 0 N) → ∀ (l : List (Nat × Nat × Bool)) (α : hp_T) (r d : Nat) (aI rI : Int32), WC α w l → wf w α0 α → l.length + (buT s.toInt.toNat e a b).length ≤ 64 → aI.toInt = (a : Int) → rI.toInt = (r : Int) → r + ((buT s.toInt.toNat e a b).length + buM s.toInt.toNat e a b) ≤ 128 → (buT s.toInt.toNat e a b).length + buM s.toInt.toNat e a b ≤ d → (∀ (β : hp_T) (aI' rI' : Int32), WC β w (l ++ buT s.toInt.toNat e a b) → wf w α0 β → aI'.toInt = ((a + b : Nat) : Int) → rI'.toInt = ((r + ((buT s.toInt.toNat e a b).length + buM s.toInt.toNat e a b) : Nat) : Int) → ws (f_X8_toBundle_L9 n w (d - ((buT s.toInt.toNat e a b).length + buM s.toInt.toNat e a b)) β s NI aI' rI') Q) → ws (f_X8_toBundle_L9 n w d α s NI aI rI) Q := by
    intro e a b hh hb1 hab hsub l α r d aI rI hW hw hl ha hr hr128 hd K
    have hh' : ¬ hasB s.toInt.toNat a b = true := by rw [hh]; decide
    have e1 : buT s.toInt.toNat e a b = [(a, b, false)] := buT_F hh' e
    have e2 : buM s.toInt.toNat e a b = 0 := buM_F hh' e
    rw [e1, e2] at hr128 hd K
    rw [e1] at hsub hl
    simp only [List.length_singleton, Nat.add_zero] at hl hr128 hd K
    obtain ⟨d, rfl⟩ : ∃ k, d = k + 1 := ⟨d - 1, by omega⟩
    rw [f_X8_toBundle_L9.eq_2]
    refine ws_le (fun c => by rw [t128] at c; omega) (fun _ => ws_le (fun c => by omega) (fun _ => ?_))
    refine ws_b (k_has n hs hS ha (m := 1) (mI := 1) (by decide)) (fun v hv => ?_)
    have h1 : ¬ hasB s.toInt.toNat a 1 = true := fun q => by
      obtain ⟨j, q1, q2, q3⟩ := (hasB_iff _ _ _).mp q
      have : hasB s.toInt.toNat a b = true := (hasB_iff _ _ _).mpr ⟨j, q1, by omega, q3⟩
      rw [hh] at this; cases this
    rw [if_neg h1] at hv
    subst hv
    refine ws_i (fun _ => ?_) (fun z => absurd rfl z)
    unfold f_X8_putGreatestWithout
    refine ws_hc (k_pgw n w hs hS l (by omega) α hW a b aI ha 31 n 0 N 0 NI 0 (hsub _ List.mem_cons_self) rfl hN hN1 hNe (by omega) (by decide) (by decide) (by omega)) (fun v β hβ => ws_l ?_)
    obtain ⟨b1, b2, b3⟩ := hβ
    replace b1 : v.toInt = (b : Int) := b1
    unfold f_X8_toBundle_J47
    refine ws_l ?_
    exact K β _ _ b2 (wf_tr hw b3) (by rw [ii_add (by omega) (by omega)]; omega) (by rw [iw_add, lt1]; omega)
  have leafM : ∀ (e a : Nat), hasB s.toInt.toNat a 1 = true → a + 1 ≤ N → ∀ (l : List (Nat × Nat × Bool)) (α : hp_T) (r d : Nat) (aI rI : Int32), WC α w l → wf w α0 α → aI.toInt = (a : Int) → rI.toInt = (r : Int) → r + ((buT s.toInt.toNat e a 1).length + buM s.toInt.toNat e a 1) ≤ 128 → (buT s.toInt.toNat e a 1).length + buM s.toInt.toNat e a 1 ≤ d → (∀ (β : hp_T) (aI' rI' : Int32), WC β w (l ++ buT s.toInt.toNat e a 1) → wf w α0 β → aI'.toInt = ((a + 1 : Nat) : Int) → rI'.toInt = ((r + ((buT s.toInt.toNat e a 1).length + buM s.toInt.toNat e a 1) : Nat) : Int) → ws (f_X8_toBundle_L9 n w (d - ((buT s.toInt.toNat e a 1).length + buM s.toInt.toNat e a 1)) β s NI aI' rI') Q) → ws (f_X8_toBundle_L9 n w d α s NI aI rI) Q := by
    intro e a hh hab l α r d aI rI hW hw ha hr hr128 hd K
    have e1 : buT s.toInt.toNat e a 1 = [] := buT_1 hh e
    have e2 : buM s.toInt.toNat e a 1 = 1 := buM_1 hh e
    rw [e1, e2] at hr128 hd K
    simp only [List.length_nil, Nat.zero_add, List.append_nil] at hr128 hd K
    obtain ⟨d, rfl⟩ : ∃ k, d = k + 1 := ⟨d - 1, by omega⟩
    rw [f_X8_toBundle_L9.eq_2]
    refine ws_le (fun c => by rw [t128] at c; omega) (fun _ => ws_le (fun c => by omega) (fun _ => ?_))
    refine ws_b (k_has n hs hS ha (m := 1) (mI := 1) (by decide)) (fun v hv => ?_)
    rw [if_pos hh] at hv
    subst hv
    refine ws_i (fun z => absurd z (by decide)) (fun _ => ws_l ?_)
    unfold f_X8_toBundle_J47
    refine ws_l ?_
    exact K α _ _ hW hw (by rw [iw_add, lt1]; omega) (by rw [iw_add, lt1]; omega)
  induction e with
  | zero =>
    intro a b hb1 hbe hab hsub l α r d aI rI hW hw hl ha hr hr128 hd K
    have : b = 1 := by simp at hbe; omega
    subst this
    cases hh : hasB s.toInt.toNat a 1 with
    | true => exact leafM 0 a hh hab l α r d aI rI hW hw ha hr hr128 hd K
    | false => exact leafT 0 a 1 hh hb1 hab hsub l α r d aI rI hW hw hl ha hr hr128 hd K
  | succ e ih =>
    intro a b hb1 hbe hab hsub l α r d aI rI hW hw hl ha hr hr128 hd K
    cases hh : hasB s.toInt.toNat a b with
    | false => exact leafT (e + 1) a b hh hb1 hab hsub l α r d aI rI hW hw hl ha hr hr128 hd K
    | true =>
      by_cases hb2 : b = 1
      · subst hb2
        exact leafM (e + 1) a hh hab l α r d aI rI hW hw ha hr hr128 hd K
      have hm2 : 2 ≤ b := by omega
      have hp1 := p0_lt hm2
      have hp2 := p0_le (m := b)
      have hp3 := p0_pos b
      have hp4 := p0_dn hm2 hbe
      have e1 : buT s.toInt.toNat (e + 1) a b = buT s.toInt.toNat e a (p0 b) ++ buT s.toInt.toNat e (a + p0 b) (b - p0 b) := by rw [buT, if_pos hh, if_neg hb2]
      have e2 : buM s.toInt.toNat (e + 1) a b = buM s.toInt.toNat e a (p0 b) + buM s.toInt.toNat e (a + p0 b) (b - p0 b) := by rw [buM, if_pos hh, if_neg hb2]
      rw [e1] at hsub
      rw [e1, e2, List.length_append] at hr128 hd
      rw [e1, List.length_append] at hl
      rw [e1, e2, List.length_append] at K
      refine ih a (p0 b) hp3 hp4 (by omega) (fun q hq => hsub q (List.mem_append.mpr (Or.inl hq))) l α r d aI rI hW hw (by omega) ha hr (by omega) (by omega) (fun β aI' rI' hWβ hwβ ha' hr' => ?_)
      refine ih (a + p0 b) (b - p0 b) (by omega) (by omega) (by omega) (fun q hq => hsub q (List.mem_append.mpr (Or.inr hq))) _ β _ _ aI' rI' hWβ hwβ (by rw [List.length_append]; omega) ha' hr' (by omega) (by omega) (fun γ aI2 rI2 hWγ hwγ ha2 hr2 => ?_)
      have := K γ aI2 rI2 (by rw [← List.append_assoc]; exact hWγ) hwγ (by rw [ha2]; congr 1; omega) (by rw [hr2]; congr 1; omega)
      rw [show d - ((buT s.toInt.toNat e a (p0 b)).length + buM s.toInt.toNat e a (p0 b)) - ((buT s.toInt.toNat e (a + p0 b) (b - p0 b)).length + buM s.toInt.toNat e (a + p0 b) (b - p0 b)) = d - ((buT s.toInt.toNat e a (p0 b)).length + (buT s.toInt.toNat e (a + p0 b) (b - p0 b)).length + (buM s.toInt.toNat e a (p0 b) + buM s.toInt.toNat e (a + p0 b) (b - p0 b))) by omega]
      exact this
theorem k_toBundle (n : Nat) (hn : 70000 ≤ n) (α : hp_T) (w : Nat) {s : Int32} (hs : 0 ≤ s.toInt) (hS : s.toInt.toNat < 2 ^ 30) (NI : Int32) (hN1 : 1 ≤ NI.toInt) (hlen : (buT s.toInt.toNat 31 0 NI.toInt.toNat).length ≤ 58) : ws (f_X8_toBundle n α w s NI) (fun β => WC β w (buT s.toInt.toNat 31 0 NI.toInt.toNat) ∧ wf w α β) := by
  have hb := ib_hi NI
  have h31 : (2 : Nat) ^ 31 = 2147483648 := by decide
  have hM := buM_le hS 31 0 NI.toInt.toNat (by omega) (by omega)
  unfold f_X8_toBundle
  refine ws_b (k_clear n α w) (fun β hβ => ?_)
  refine k_bun n hn w hs hS NI.toInt.toNat NI (by omega) (by omega) (by omega) α _ 31 0 NI.toInt.toNat (by omega) (by omega) (by omega) (fun _ q => q) [] β 0 n 0 0 hβ.1 hβ.2 (by rw [List.length_nil]; omega) rfl rfl (by omega) (by omega) (fun γ aI' rI' h1 h2 h3 h4 => ?_)
  rw [List.nil_append] at h1
  obtain ⟨d, hd⟩ : ∃ k, n - ((buT s.toInt.toNat 31 0 NI.toInt.toNat).length + buM s.toInt.toNat 31 0 NI.toInt.toNat) = k + 1 := ⟨n - ((buT s.toInt.toNat 31 0 NI.toInt.toNat).length + buM s.toInt.toNat 31 0 NI.toInt.toNat) - 1, by omega⟩
  rw [hd, f_X8_toBundle_L9.eq_2]
  exact ws_le (fun _ => ws_s ⟨h1, h2⟩) (fun _ => ws_le (fun _ => ws_s ⟨h1, h2⟩) (fun c => by omega))
abbrev seOK (s m : Int32) : Prop := 0 < s.toInt ∧ 0 ≤ m.toInt ∧ s.toInt.toNat < 2 ^ (min m.toInt.toNat 30)
theorem seOK_S {s m : Int32} (h : seOK s m) : 0 ≤ s.toInt ∧ s.toInt.toNat < 2 ^ 30 ∧ 1 ≤ m.toInt := by
  obtain ⟨h1, h2, h3⟩ := h
  refine ⟨by omega, Nat.lt_of_lt_of_le h3 (Nat.pow_le_pow_right (by decide) (Nat.min_le_right _ _)), ?_⟩
  refine Classical.byContradiction (fun q => ?_)
  have : m.toInt.toNat = 0 := by omega
  rw [this, Nat.zero_min, Nat.pow_zero] at h3
  omega
theorem k_isSet (n : Nat) (s : Int32) : ws (f_X11_isSet n s) (fun r => bo r (0 < s.toInt)) := by
  unfold f_X11_isSet
  exact ws_le (fun c => ws_s (Or.inr ⟨rfl, by rw [lt0] at c; omega⟩)) (fun c => ws_s (Or.inl ⟨rfl, by rw [lt0] at c; omega⟩))
theorem k_lieBelow (n : Nat) (s m : Int32) (hs : 0 < s.toInt) : ws (f_X11_lieBelow n s m) (fun r => bo r (seOK s m)) := by
  have t30 : (30 : Int32).toInt = 30 := by decide
  unfold f_X11_lieBelow
  refine ws_b (k_hob n s (by omega)) (fun r hr => ?_)
  have hmin : ws (f_J9_min_7cf53 n m 30) (fun v => v.toInt = min m.toInt 30) := by
    unfold f_J9_min_7cf53
    exact ws_lt (fun c => ws_s (by rw [t30] at c ⊢; omega)) (fun c => ws_s (by rw [t30] at c; omega))
  refine ws_b hmin (fun v hv => ?_)
  have hmax : ws (f_J9_max_7cf53 n 0 v) (fun u => u.toInt = max 0 v.toInt) := by
    unfold f_J9_max_7cf53
    exact ws_lt (fun c => ws_s (by rw [lt0] at c; omega)) (fun c => ws_s (by rw [lt0] at c ⊢; omega))
  refine ws_b hmax (fun u hu => ?_)
  have hu2 : u.toInt = ((max 0 (min m.toInt 30)).toNat : Int) := by omega
  have eu := i_ofN hu2
  have hsh : ((1 : Int32) <<< (u &&& 31)).toInt = ((2 ^ (max 0 (min m.toInt 30)).toNat : Nat) : Int) := by
    rw [eu]; exact onk _ (by omega)
  have hlog : p0 (s.toInt.toNat + 1) = 2 ^ Nat.log2 s.toInt.toNat := by unfold p0; rw [Nat.add_sub_cancel]
  have hs0 : s.toInt.toNat ≠ 0 := by omega
  have hkey : ∀ k : Nat, 2 ^ k ≤ 2 ^ Nat.log2 s.toInt.toNat ↔ 2 ^ k ≤ s.toInt.toNat := fun k => by
    rw [Nat.pow_le_pow_iff_right (by decide), Nat.le_log2 hs0]
  have hk : (0 ≤ m.toInt ∧ s.toInt.toNat < 2 ^ (min m.toInt.toNat 30)) ↔ s.toInt.toNat < 2 ^ (max 0 (min m.toInt 30)).toNat := by
    by_cases h0 : 0 ≤ m.toInt
    · rw [show (max 0 (min m.toInt 30)).toNat = min m.toInt.toNat 30 by omega]
      exact ⟨fun h => h.2, fun h => ⟨h0, h⟩⟩
    · rw [show (max 0 (min m.toInt 30)).toNat = 0 by omega]
      exact ⟨fun h => absurd h.1 h0, fun h => by rw [Nat.pow_zero] at h; omega⟩
  refine ws_le (fun c => ws_s (Or.inr ⟨rfl, fun q => ?_⟩)) (fun c => ws_s (Or.inl ⟨rfl, hs, hk.mpr ?_⟩))
  · rw [hsh, hr, hlog] at c
    have h1 := (hkey _).mp (by exact_mod_cast c)
    have h2 := hk.mp q.2
    omega
  · rw [hsh, hr, hlog] at c
    refine Nat.lt_of_not_le (fun q => ?_)
    have := (hkey _).mpr q
    omega
theorem v_isBeyond_L (n : Nat) {s m : Int32} (hs : 0 < s.toInt) : ∀ (d v : Nat) (vI : Int32), vI.toInt = (v : Int) → v ≤ 31 → (∀ j, j < v → s.toInt.toNat.testBit j = true → (j : Int) < m.toInt ∧ j < 30) → pr (f_X12_isBeyond_L2 n d s m vI) (fun r => (r = 1 ∧ ∃ j, s.toInt.toNat.testBit j = true ∧ ¬ ((j : Int) < m.toInt ∧ j < 30)) ∨ (r = 0 ∧ ∀ j, j < 31 → s.toInt.toNat.testBit j = true → (j : Int) < m.toInt ∧ j < 30)) := by
  intro d
  induction d with
  | zero => intro v vI _ _ _; rw [f_X12_isBeyond_L2.eq_1]; exact pr_0
  | succ d ih =>
    intro v vI hv hv31 h
    have t31 : (31 : Int32).toInt = 31 := by decide
    have t30 : (30 : Int32).toInt = 30 := by decide
    rw [f_X12_isBeyond_L2.eq_2]
    have e1 : (vI + 1).toInt = ((v + 1 : Nat) : Int) := by rw [iw_add, lt1]; omega
    refine pr_le (fun c => pr_s (Or.inr ⟨rfl, fun j hj => h j (by rw [t31] at c; omega)⟩)) (fun c => ?_)
    rw [t31] at c
    have hJ : (s.toInt.toNat.testBit v = true → (v : Int) < m.toInt ∧ v < 30) → pr (f_X12_isBeyond_J30 n (f_X12_isBeyond_L2 n d) s m vI) (fun r => (r = 1 ∧ ∃ j, s.toInt.toNat.testBit j = true ∧ ¬ ((j : Int) < m.toInt ∧ j < 30)) ∨ (r = 0 ∧ ∀ j, j < 31 → s.toInt.toNat.testBit j = true → (j : Int) < m.toInt ∧ j < 30)) := by
      intro hno
      unfold f_X12_isBeyond_J30
      refine pr_l (ih (v + 1) (vI + 1) e1 (by omega) (fun j hj hb => ?_))
      by_cases ej : j = v
      · rw [ej] at hb ⊢; exact hno hb
      · exact h j (by omega) hb
    refine pr_i (fun z => ?_) (fun z => hJ (fun q => absurd ((bt_ref (by omega) hv (by omega)).mpr q) z))
    have hb := (bt_ref (by omega) hv (by omega)).mp z
    refine pr_le (fun c1 => pr_s (Or.inl ⟨rfl, v, hb, fun q => by omega⟩)) (fun c1 => pr_lt (fun c2 => hJ (fun _ => by rw [t30] at c2; omega)) (fun c2 => pr_s (Or.inl ⟨rfl, v, hb, fun q => by rw [t30] at c2; omega⟩)))
theorem v_isBeyond (n : Nat) {s m : Int32} (hs : 0 < s.toInt) : pr (f_X12_isBeyond n s m) (fun r => bo r (¬ seOK s m)) := by
  have hb := ib_hi s
  unfold f_X12_isBeyond
  refine pr_m (v_isBeyond_L n hs n 0 0 (by decide) (by omega) (fun j hj => absurd hj (Nat.not_lt_zero _))) (fun r hr => ?_)
  rcases hr with ⟨h1, j, h2, h3⟩ | ⟨h1, h2⟩
  · refine Or.inl ⟨h1, fun q => h3 ?_⟩
    have : j < min m.toInt.toNat 30 := by
      refine Nat.lt_of_not_le (fun h => ?_)
      have := Nat.testBit_lt_two_pow (Nat.lt_of_lt_of_le q.2.2 (Nat.pow_le_pow_right (by decide) h))
      rw [h2] at this; cases this
    have h0 := q.2.1
    omega
  · refine Or.inr ⟨h1, fun q => q ⟨hs, ?_⟩⟩
    have h31 : (2 : Nat) ^ 31 = 2147483648 := by decide
    have hlt : s.toInt.toNat < 2 ^ (min m.toInt.toNat 30) := by
      refine Nat.lt_pow_two_of_testBit _ (fun i hi => ?_)
      cases hti : s.toInt.toNat.testBit i with
      | false => rfl
      | true =>
        have hi31 : i < 31 := by
          refine Nat.lt_of_not_le (fun h => ?_)
          have := Nat.testBit_lt_two_pow (x := s.toInt.toNat) (i := i) (Nat.lt_of_lt_of_le (show s.toInt.toNat < 2 ^ 31 by omega) (Nat.pow_le_pow_right (by decide) h))
          rw [hti] at this; cases this
        have := h2 i hi31 hti
        omega
    refine ⟨?_, hlt⟩
    refine Classical.byContradiction (fun h0 => ?_)
    have : m.toInt.toNat = 0 := by omega
    rw [this, Nat.zero_min, Nat.pow_zero] at hlt
    omega
end JN9_16
section JN9_17
set_option maxRecDepth 100000
abbrev buOK (f : Nat → Int32) (a s m : Int32) : Prop := (0 ≤ a.toInt ∧ a.toInt < (f 0).toInt) ∧ m.toInt ≤ (f (72 + a.toInt.toNat)).toInt ∧ seOK s m
def buL (f : Nat → Int32) (a s m : Int32) : List Int32 := mkl (f 1) (EL f a.toInt.toNat) (buT s.toInt.toNat 31 0 m.toInt.toNat)
def buA (f : Nat → Int32) (a s m : Int32) : Int := if buOK f a s m then ((buT s.toInt.toNat 31 0 m.toInt.toNat).length : Int) else -1
theorem v_bundle (n : Nat) (hn : 70000 ≤ n) (σ : ms_T) (hC : rC (ms_E σ 40)) (a s m : Int32) : pr (f_X12_bundle n σ a s m) (fun res => res.1.toInt = buA (ms_E σ 40) a s m ∧ pdl (ms_E res.2 40) = if buOK (ms_E σ 40) a s m then buL (ms_E σ 40) a s m else pdl (ms_E σ 40)) := by
  have h4 := hC.1
  have hb := ib_hi m
  have bad : ∀ v : Int32, ¬ v = 0 → ¬ buOK (ms_E σ 40) a s m → pr (f_X12_bundle_J19 n σ a s m v) (fun res => res.1.toInt = buA (ms_E σ 40) a s m ∧ pdl (ms_E res.2 40) = if buOK (ms_E σ 40) a s m then buL (ms_E σ 40) a s m else pdl (ms_E σ 40)) := fun v hv no => by
    unfold f_X12_bundle_J19 buA
    rw [if_neg no, if_neg no]
    exact v_is1 n σ v hv (pr_s ⟨rfl, rfl⟩)
  unfold f_X12_bundle f_X12_bundle_J9
  refine pr_lt (fun c => bad 1 (by decide) (fun q => by rw [lt0] at c; have := q.2.2.2.1; omega)) (fun c => pr_lt (fun c1 => ?_) (fun c1 => bad 1 (by decide) (fun q => by rw [lt0] at c1; have := q.2.2.1; omega)))
  rw [lt0] at c c1
  refine pr_b (v_noSize n σ hC a m) (fun v hv => ?_)
  rcases hv with ⟨rfl, ok⟩ | ⟨hv, no⟩
  · unfold f_X12_bundle_J19
    refine v_is0 n σ ?_
    obtain ⟨τ0, hτ0⟩ : ∃ τ, τ = ms_sI (ms_sI σ 653 0) 652 0 := ⟨_, rfl⟩
    have e0 : ms_E τ0 40 = ms_E σ 40 := by rw [hτ0]; rfl
    rw [← hτ0]
    refine pr_b (v_isBeyond n (m := m) c1) (fun r hr => ?_)
    rcases hr with ⟨rfl, hno⟩ | ⟨rfl, hyes⟩
    · refine pr_i (fun z => absurd z (by decide)) (fun _ => ?_)
      have no : ¬ buOK (ms_E σ 40) a s m := fun q => hno q.2.2
      unfold buA
      rw [if_neg no, if_neg no]
      refine pr_c (fun x hx => (⟨v_refuse n τ0 5 x hx, z_X12_refuse kq_rf x hx⟩ : (x.1 = -1) ∧ kq τ0 x.2)) (fun r υ hr => pr_s ⟨?_, ?_⟩)
      · show r.toInt = -1
        rw [show r = -1 from hr.1]; rfl
      · show pdl (ms_E υ 40) = pdl (ms_E σ 40)
        rw [show ms_E υ 40 = ms_E τ0 40 from funext (fun j => hr.2.2 40 rfl j), e0]
    · refine pr_i (fun _ => ?_) (fun z => absurd rfl z)
      have hse : seOK s m := Classical.not_not.mp hyes
      have ok1 : buOK (ms_E σ 40) a s m := ⟨ok.2.1, ok.2.2, hse⟩
      obtain ⟨q1, q2, q3⟩ := seOK_S hse
      unfold buA
      rw [if_pos ok1, if_pos ok1]
      have hsz := hC.2.2.2.2.1 a.toInt.toNat (by omega)
      refine pr_b (fun τ hτ => (⟨v_bundleOf n τ0 q1 q2 m q3 τ hτ, z_X12_bundleOf kq_rf τ hτ⟩ : WS τ _ ∧ kq τ0 τ)) (fun τ hτ => ?_)
      obtain ⟨hW, hk⟩ := hτ
      have e1 : ms_E τ 40 = ms_E σ 40 := by rw [show ms_E τ 40 = ms_E τ0 40 from funext (fun j => hk.2 40 rfl j), e0]
      have hlen := buT_len n hn σ q1 q2 m q3
      have h31 : (2 : Nat) ^ 31 = 2147483648 := by decide
      refine pr_c (v_pads n τ (by rw [e1]; exact hC) a.toInt.toNat (by omega) a (by omega) _ hW (by omega) (fun q hq => ?_)) (fun r υ hr => pr_s ⟨hr.1, ?_⟩)
      · obtain ⟨t, b, cc⟩ := q
        have := buT_in _ _ _ hq (by omega) (by omega)
        rw [e1, EL_len]
        show t + b ≤ _
        omega
      · have h2 := hr.2
        rw [e1] at h2
        exact h2
  · exact bad v hv (fun q => no ⟨q.2.2.2.1, q.1, q.2.1⟩)
theorem k_bundle (n : Nat) (hn : 70000 ≤ n) (α : hp_T) (x : Nat) (σ : ms_T) (f : Nat → Int32) (hC : rC f) (h : RWX α x f) (h6 : hp_R α 603 x = x + 919) (h3 : hp_R α 300 (x + 919) = x + 920) (pl : List Int32) (hP : RWL α (x + 919) pl) (a s m : Int32) : ws (f_X11_bundle n α x a s m) (fun res => res.1.toInt = buA f a s m ∧ RWL res.2 (x + 919) (if buOK f a s m then buL f a s m else pl) ∧ pfr x α res.2) := by
  obtain ⟨w, u, h1, h2, -, h4, -⟩ := h
  have hm0 := hC.2.1
  have h44 := hC.1
  have hb := ib_hi m
  have bad : ∀ v : Int32, ¬ buOK f a s m → ws (hq_c (f_X11_refuse n α x v) fun r β => some (r, β)) (fun res => res.1.toInt = buA f a s m ∧ RWL res.2 (x + 919) (if buOK f a s m then buL f a s m else pl) ∧ pfr x α res.2) := fun v hno => by
    unfold buA
    rw [if_neg hno, if_neg hno]
    refine ws_hc (k_refuse n α x v) (fun z γ hz => ws_s ⟨by rw [show z = -1 from hz.1]; rfl, ?_, ?_⟩)
    · rw [show γ = hp_sI α 600 x v from hz.2]; exact RWL_st hP
    · rw [show γ = hp_sI α 600 x v from hz.2]; exact pfr_st
  unfold f_X11_bundle f_X11_bundle_J11 f_X11_bundle_J55
  refine ws_lt (fun c => bad 1 (fun q => by rw [lt0] at c; have := q.2.2.2.1; omega)) (fun c => ws_b (k_isSet n s) (fun r hr => ?_))
  rw [lt0] at c
  rcases hr with ⟨rfl, hs⟩ | ⟨rfl, hs⟩
  rotate_left
  · exact ws_i (fun _ => bad 1 (fun q => hs q.2.2.1)) (fun z => absurd rfl z)
  refine ws_i (fun z => absurd z (by decide)) (fun _ => ws_l ?_)
  rw [h1]
  refine ws_b (k_logAt n h4 hC a) (fun o ho => ?_)
  by_cases hr : 0 ≤ a.toInt ∧ a.toInt < (f 0).toInt
  · rw [if_pos hr] at ho
    subst ho
    have q152 := (h4.2.2.1 a.toInt.toNat (by omega)).1
    have hsz := hC.2.2.2.2.1 a.toInt.toNat (by omega)
    refine ws_hS (ws_l ?_)
    rw [q152]
    refine ws_lt (fun c1 => bad 5 (fun q => by have := q.2.1; omega)) (fun c1 => ?_)
    refine ws_b (k_lieBelow n s m hs) (fun r hr2 => ?_)
    rcases hr2 with ⟨rfl, hse⟩ | ⟨rfl, hse⟩
    · refine ws_i (fun z => absurd z (by decide)) (fun _ => ws_l ?_)
      have ok : buOK f a s m := ⟨hr, c1, hse⟩
      obtain ⟨q1, q2, q3⟩ := seOK_S hse
      have hlen := buT_len n hn σ q1 q2 m q3
      have h31 : (2 : Nat) ^ 31 = 2147483648 := by decide
      refine ws_b (k_toBundle n hn α _ q1 q2 m q3 hlen) (fun β hβ => ws_l (ws_l (ws_l ?_)))
      obtain ⟨hWC, hwf⟩ := hβ
      have hWβ := WR_wf h4 hC hwf
      rw [hwf.1, h1, h6]
      have hPβ : RWL β (x + 919) pl := RWL_wf hP hwf
      refine ws_b (k_marksAlong n hn w (x + 919) _ β (f 1) (by omega) hWβ.2.1.1 (lpA w a.toInt.toNat) (EL f a.toInt.toNat) (WR_LM hWβ hC (by omega)) _ hWC (by omega) (fun q hq => ?_) pl hPβ) (fun γ hγ => ws_l (ws_l ?_))
      · obtain ⟨t, b, cc⟩ := q
        have := buT_in _ _ _ hq (by omega) (by omega)
        rw [EL_len]
        show t + b ≤ _
        omega
      · obtain ⟨hR, hq⟩ := hγ
        have e6 : hp_R γ 603 x = x + 919 := by rw [hq.1, hwf.1]; exact h6
        rw [e6]
        refine ws_hc (k_answer n γ x _) (fun z δ hz => ws_s ⟨?_, ?_, ?_⟩)
        · unfold buA
          rw [if_pos ok, show z = hp_I γ 301 (x + 919) from hz.1, hR.2.1, mkl_len]
        · rw [if_pos ok, show δ = hp_sI γ 600 x 0 from hz.2]; exact RWL_st hR
        · rw [show δ = hp_sI γ 600 x 0 from hz.2]
          exact pfr_tr (pfr_wf hwf) (pfr_tr (pfr_qf hq (by rw [hwf.1]; exact h3)) pfr_st)
    · exact ws_i (fun _ => bad 5 (fun q => hse q.2.2)) (fun z => absurd rfl z)
  · rw [if_neg hr] at ho
    subst ho
    exact ws_hN (bad 2 (fun q => hr q.1))
end JN9_17
section JN9_18
set_option maxRecDepth 100000
theorem bt_ref0 {s v : Int32} {k : Nat} (hs : 0 ≤ s.toInt) (hv : v.toInt = (k : Int)) (hk : k < 31) : (((s >>> (v &&& 31)) &&& (1 : Int32)) = 0) ↔ s.toInt.toNat.testBit k = false := by
  obtain ⟨h1, h2⟩ := S_nat hs
  have ev := i_ofN hv
  subst ev
  have hX : (s >>> ((Int32.ofNat k) &&& 31)).toBitVec.toNat = s.toInt.toNat / 2 ^ k := by
    show (s.toBitVec.sshiftRight (((Int32.ofNat k) &&& 31).toBitVec.smod 32).toNat).toNat = _
    rw [shk k hk, BitVec.sshiftRight_eq_of_msb_false h1, BitVec.toNat_ushiftRight, h2, Nat.shiftRight_eq_div_pow]
  rw [← Int32.toBitVec_inj, ← BitVec.toNat_inj]
  show ((s >>> ((Int32.ofNat k) &&& 31)).toBitVec &&& (1 : Int32).toBitVec).toNat = 0 ↔ _
  rw [BitVec.toNat_and, hX, show ((1 : Int32).toBitVec).toNat = 1 from rfl, Nat.and_one_is_mod, Nat.testBit_eq_decide_div_mod_eq, decide_eq_false_iff_not]
  omega
theorem hasB_1 (S k : Nat) : hasB S k 1 = S.testBit k := by
  cases h : S.testBit k with
  | true => exact (hasB_iff S k 1).mpr ⟨k, by omega, by omega, h⟩
  | false =>
    cases hh : hasB S k 1 with
    | false => rfl
    | true =>
      obtain ⟨j, q1, q2, q3⟩ := (hasB_iff S k 1).mp hh
      have : j = k := by omega
      rw [this, h] at q3; cases q3
def svI (S N : Nat) : Nat → Nat → Int32 → Int32
  | 0, _, a => a
  | d + 1, k, a => if S.testBit k = true then svI S N d (k + 1) (a + Int32.ofNat (wyT 31 k 0 N).length) else svI S N d (k + 1) a
def svA (s m : Int32) : Int32 := if seOK s m then svI s.toInt.toNat m.toInt.toNat 30 0 0 - Int32.ofNat (buT s.toInt.toNat 31 0 m.toInt.toNat).length else -1
theorem se_lt {s m : Int32} (h : seOK s m) {k : Nat} (hb : s.toInt.toNat.testBit k = true) : (k : Int) < m.toInt := by
  have : k < min m.toInt.toNat 30 := by
    refine Nat.lt_of_not_le (fun h2 => ?_)
    have := Nat.testBit_lt_two_pow (Nat.lt_of_lt_of_le h.2.2 (Nat.pow_le_pow_right (by decide) h2))
    rw [hb] at this; cases this
  have := h.2.1
  omega
theorem v_saves_L (n : Nat) {s m : Int32} (h : seOK s m) : ∀ (d k : Nat) (σ : ms_T) (aI kI : Int32), kI.toInt = (k : Int) → k ≤ 30 → pr (f_X12_saves_L31 n d σ s m aI kI) (fun res => res.1 = svI s.toInt.toNat m.toInt.toNat (30 - k) k aI - Int32.ofNat (buT s.toInt.toNat 31 0 m.toInt.toNat).length) := by
  obtain ⟨q1, q2, q3⟩ := seOK_S h
  intro d
  induction d with
  | zero => intro k σ aI kI _ _; rw [f_X12_saves_L31.eq_1]; exact pr_0
  | succ d ih =>
    intro k σ aI kI hk hk30
    have t30 : (30 : Int32).toInt = 30 := by decide
    rw [f_X12_saves_L31.eq_2]
    have e1 : (kI + 1).toInt = ((k + 1 : Nat) : Int) := by rw [iw_add, lt1]; omega
    unfold f_X12_saves_J64
    refine pr_le (fun c => ?_) (fun c => ?_)
    · rw [t30] at c
      have : k = 30 := by omega
      subst this
      refine pr_b (v_bundleOf n σ q1 q2 m q3) (fun τ hτ => pr_s ?_)
      show aI - ms_I τ 657 = svI _ _ 0 30 aI - _
      rw [i_ofN hτ.1]; rfl
    · rw [t30] at c
      have ek : 30 - k = (30 - (k + 1)) + 1 := by omega
      refine pr_i (fun z => pr_l ?_) (fun z => ?_)
      · have hf := (bt_ref0 q1 hk (by omega)).mp z
        rw [ek, svI, if_neg (by rw [hf]; decide)]
        exact ih (k + 1) σ aI _ e1 (by omega)
      · have ht : s.toInt.toNat.testBit k = true := by
          cases hb : s.toInt.toNat.testBit k with
          | true => rfl
          | false => exact absurd ((bt_ref0 q1 hk (by omega)).mpr hb) z
        have hlt := se_lt h ht
        rw [ek, svI, if_pos ht]
        refine pr_b (v_inclusion n σ kI m (by omega) (by omega)) (fun τ hτ => pr_l (pr_l ?_))
        have hn : ms_I τ 657 = Int32.ofNat (wyT 31 k 0 m.toInt.toNat).length := by
          rw [WS_n hτ, show kI.toInt.toNat = k by omega]
        rw [hn]
        exact ih (k + 1) τ _ _ e1 (by omega)
theorem v_saves (n : Nat) (σ : ms_T) (s m : Int32) : pr (f_X12_saves n σ s m) (fun res => res.1 = svA s m) := by
  have bad : ¬ seOK s m → pr (f_X12_saves_J18 n σ s m 1) (fun res => res.1 = svA s m) := fun no => by
    unfold f_X12_saves_J18 svA
    rw [if_neg no]
    exact v_is1 n σ 1 (by decide) (pr_s rfl)
  unfold f_X12_saves f_X12_saves_J13
  refine pr_le (fun c => bad (fun q => by rw [lt0] at c; have := q.1; omega)) (fun c => ?_)
  rw [lt0] at c
  refine pr_b (v_isBeyond n (m := m) c) (fun r hr => ?_)
  rcases hr with ⟨rfl, hno⟩ | ⟨rfl, hyes⟩
  · exact pr_i (fun z => absurd z (by decide)) (fun _ => bad hno)
  · refine pr_i (fun _ => ?_) (fun z => absurd rfl z)
    have ok : seOK s m := Classical.not_not.mp hyes
    unfold f_X12_saves_J18 svA
    rw [if_pos ok]
    exact v_is0 n σ (v_saves_L n ok n 0 _ 0 0 rfl (by omega))
theorem k_saves_L (n : Nat) (hn : 70000 ≤ n) (x : Nat) (σ : ms_T) {s m : Int32} (h : seOK s m) : ∀ (d k : Nat) (α : hp_T) (aI kI : Int32), kI.toInt = (k : Int) → k ≤ 30 → 31 - k ≤ d → ws (f_X11_saves_L26 n x d α s m aI kI) (fun res => res.1 = svI s.toInt.toNat m.toInt.toNat (30 - k) k aI - Int32.ofNat (buT s.toInt.toNat 31 0 m.toInt.toNat).length) := by
  obtain ⟨q1, q2, q3⟩ := seOK_S h
  have hlen := buT_len n hn σ q1 q2 m q3
  intro d
  induction d with
  | zero => intro k α aI kI _ hk hd; omega
  | succ d ih =>
    intro k α aI kI hk hk30 hd
    have t30 : (30 : Int32).toInt = 30 := by decide
    rw [f_X11_saves_L26.eq_2]
    have e1 : (kI + 1).toInt = ((k + 1 : Nat) : Int) := by rw [iw_add, lt1]; omega
    unfold f_X11_saves_J63
    refine ws_le (fun c => ws_l ?_) (fun c => ?_)
    · rw [t30] at c
      have : k = 30 := by omega
      subst this
      refine ws_b (k_toBundle n hn α _ q1 q2 m q3 hlen) (fun β hβ => ws_l (ws_l ?_))
      rw [hβ.2.1, i_ofN hβ.1.1]
      exact ws_hc (k_answer n β x _) (fun z γ hz => ws_s hz.1)
    · rw [t30] at c
      have ek : 30 - k = (30 - (k + 1)) + 1 := by omega
      refine ws_b (k_has n q1 q2 hk (m := 1) (mI := 1) (by decide)) (fun r hr => ?_)
      rw [hasB_1] at hr
      rw [ek, svI]
      cases hb : s.toInt.toNat.testBit k with
      | false =>
        rw [hb, if_neg (by decide)] at hr
        subst hr
        refine ws_i (fun _ => ws_l ?_) (fun z => absurd rfl z)
        rw [if_neg (show ¬ false = true by decide)]
        exact ih (k + 1) α aI _ e1 (by omega) (by omega)
      | true =>
        rw [hb, if_pos rfl] at hr
        subst hr
        refine ws_i (fun z => absurd z (by decide)) (fun _ => ws_l ?_)
        rw [if_pos (show true = true from rfl)]
        have hlt := se_lt h hb
        refine ws_b (k_toThing n hn α _ kI m (by omega) (by omega)) (fun β hβ => ws_l (ws_l (ws_l (ws_l ?_))))
        have hn' : hp_I β 453 (hp_R β 612 x) = Int32.ofNat (wyT 31 k 0 m.toInt.toNat).length := by
          rw [hβ.2.1, WC_n hβ.1, show kI.toInt.toNat = k by omega]
        rw [hn']
        exact ih (k + 1) β _ _ e1 (by omega) (by omega)
theorem k_saves (n : Nat) (hn : 70000 ≤ n) (α : hp_T) (x : Nat) (σ : ms_T) (s m : Int32) : ws (f_X11_saves n α x s m) (fun res => res.1 = svA s m) := by
  have bad : ¬ seOK s m → ws (f_X11_saves_J15 n x α) (fun res => res.1 = svA s m) := fun no => by
    unfold f_X11_saves_J15 svA
    rw [if_neg no]
    exact ws_hc (k_refuse n α x 1) (fun z γ hz => ws_s hz.1)
  unfold f_X11_saves
  refine ws_b (k_isSet n s) (fun r hr => ?_)
  rcases hr with ⟨rfl, hs⟩ | ⟨rfl, hs⟩
  · refine ws_i (fun z => absurd z (by decide)) (fun _ => ws_b (k_lieBelow n s m hs) (fun r hr2 => ?_))
    rcases hr2 with ⟨rfl, hse⟩ | ⟨rfl, hse⟩
    · refine ws_i (fun z => absurd z (by decide)) (fun _ => ?_)
      unfold svA
      rw [if_pos hse]
      exact k_saves_L n hn x σ hse n 0 α 0 0 rfl (by omega) (by omega)
    · exact ws_i (fun _ => bad hse) (fun z => absurd rfl z)
  · exact ws_i (fun _ => bad (fun q => hs q.1)) (fun z => absurd rfl z)
end JN9_18
section JN9_19
set_option maxRecDepth 100000
abbrev joOK (f : Nat → Int32) (a b : Int32) : Prop := (0 ≤ a.toInt ∧ a.toInt < (f 1).toInt) ∧ (0 ≤ b.toInt ∧ b.toInt < (f 1).toInt)
def joA (f : Nat → Int32) (a b : Int32) : Int32 := if joOK f a b then bt (f 1) a b else -1
theorem v_join (n : Nat) (σ : ms_T) (hC : rC (ms_E σ 40)) (a b : Int32) : pr (f_X12_join n σ a b) (fun res => res.1 = joA (ms_E σ 40) a b) := by
  unfold f_X12_join f_X12_join_J21 f_X12_join_J22 joA
  refine pr_bo (pr_w (s_isMark hC a)) (fun h0 => v_is1 n σ 1 (by decide) (pr_s ?_)) (fun h1 => pr_bo (pr_w (s_isMark hC b)) (fun h0 => v_is1 n σ 1 (by decide) (pr_s ?_)) (fun h2 => v_is0 n σ (pr_b (v_both n _ a b) (fun v hv => pr_s ?_))))
  · rw [if_neg (fun q => h0 q.1)]
  · rw [if_neg (fun q => h0 q.2)]
  · rw [if_pos ⟨h1, h2⟩]; exact hv
theorem k_join (n : Nat) (α : hp_T) (x : Nat) (f : Nat → Int32) (hC : rC f) (h : RWX α x f) (a b : Int32) : ws (f_X11_join n α x a b) (fun res => res.1 = joA f a b) := by
  obtain ⟨w, u, h1, h2, h3, h4, -⟩ := h
  have hm := h4.2.1.1
  have hm0 := hC.2.1
  have bad : ¬ joOK f a b → ws (hq_c (f_X11_refuse n α x 1) fun r β => some (r, β)) (fun res => res.1 = joA f a b) := fun hno => by
    unfold joA
    rw [if_neg hno]
    exact ws_hc (k_refuse n α x 1) (fun z γ hz => ws_s hz.1)
  unfold f_X11_join f_X11_join_J16
  refine ws_bo (k_isMark n h1 hm a) (fun e => bad (fun q => e q.1)) (fun e1 => ws_bo (k_isMark n h1 hm b) (fun e => bad (fun q => e q.2)) (fun e2 => ws_l (ws_l ?_)))
  rw [h1, hm]
  refine ws_b (k_two n (f 1) a b (by omega)) (fun v hv => ?_)
  unfold joA
  rw [if_pos ⟨e1, e2⟩]
  exact ws_hc (k_answer n α x v) (fun z γ hz => ws_s (hz.1.trans hv))
end JN9_19
section JN9_20
set_option maxRecDepth 100000
theorem WR_jf {α β : hp_T} {w : Nat} {f : Nat → Int32} (h : WR α w f) (hC : rC f) (j : jf w α β) : WR β w f := by
  obtain ⟨j1, j2, j3, j4, j5, j6⟩ := j
  exact WR_f h hC j1 j3 (fun φ b _ _ _ => by rw [j5]) (fun κ b i _ _ hκ => j6 κ b i (fun q => by omega))
abbrev hsP (f : Nat → Int32) (r : Nat) (n h : Int32) : Prop := n.toInt ≤ (f (72 + r)).toInt ∧ TMK (f 1) (EL f r) 0 n.toInt.toNat = h
theorem v_isHead (n : Nat) (σ : ms_T) (hC : rC (ms_E σ 40)) (r : Nat) (hr : r < 4) (rI : Int32) (hrI : rI.toInt = (r : Int)) (nI hI : Int32) (h0 : 0 ≤ nI.toInt) : pr (f_X12_isHead n σ rI nI hI) (fun v => bo v (hsP (ms_E σ 40) r nI hI)) := by
  have hsz := hC.2.2.2.2.1 r hr
  unfold f_X12_isHead f_X12_sizeOf
  refine pr_b (T := fun v => v = ms_E σ 40 (72 + r)) (pr_g (fun g0 g1 => pr_s ?_)) (fun v hv => ?_)
  · rw [cl_n (i := (72 : Int32) + rI) (k := 72 + r) (by rw [iw_add, t_72]; omega)]
  · rw [hv]
    refine pr_lt (fun e => pr_s (Or.inr ⟨rfl, fun q => by have := q.1; omega⟩)) (fun e => ?_)
    refine pr_b (v_headOf n σ hC r hr rI hrI nI.toInt.toNat nI (by omega) (by rw [EL_len]; omega)) (fun v hv => pr_i (fun e2 => pr_s (Or.inl ⟨rfl, e, hv.symm.trans e2⟩)) (fun e2 => pr_s (Or.inr ⟨rfl, fun q => e2 (hv.trans q.2)⟩)))
theorem k_hasHead (n : Nat) (hn : 70000 ≤ n) (α : hp_T) (w : Nat) (f : Nat → Int32) (hC : rC f) (h : WR α w f) (r : Nat) (hr : r < (f 0).toInt.toNat) (nI hI : Int32) (h0 : 0 ≤ nI.toInt) : ws (f_X10_hasHead n α w (some (lpA w r)) nI hI) (fun res => bo res.1 (hsP f r nI hI) ∧ jf w α res.2) := by
  have hm0 := hC.2.1
  have h4 := hC.1
  have hsz := hC.2.2.2.2.1 r (by omega)
  have jr : jf w α α := ⟨rfl, rfl, rfl, rfl, rfl, fun _ _ _ _ => rfl⟩
  unfold f_X10_hasHead
  refine ws_hS (ws_l ?_)
  rw [(h.2.2.1 r hr).1]
  refine ws_lt (fun e => ws_s ⟨Or.inr ⟨rfl, fun q => by have := q.1; omega⟩, jr⟩) (fun e => ?_)
  refine ws_hc (k_headOf n hn w α (f 1) (by omega) h.2.1.1 (lpA w r) (EL f r) (WR_LM h hC hr) nI.toInt.toNat (by rw [EL_len]; omega) nI (by omega)) (fun v β hβ => ws_i (fun e2 => ws_s ⟨Or.inl ⟨rfl, e, ?_⟩, hβ.2⟩) (fun e2 => ws_s ⟨Or.inr ⟨rfl, fun q => e2 ?_⟩, hβ.2⟩))
  · exact hβ.1.symm.trans e2
  · exact hβ.1.trans q.2
end JN9_20
section JN9_21
set_option maxRecDepth 100000
def agP (f : Nat → Int32) (a b r : Nat) : Prop := hsP f r (f (76 + 4 * a)) (f (77 + 4 * a)) ∧ hsP f r (f (76 + 4 * b)) (f (77 + 4 * b))
theorem v_isAgreed_L (n : Nat) (σ : ms_T) (hC : rC (ms_E σ 40)) (a b : Nat) (ha : a < 4) (hb : b < 4) (aI bI : Int32) (haI : aI.toInt = (a : Int)) (hbI : bI.toInt = (b : Int)) : ∀ (d k : Nat) (kI : Int32), kI.toInt = (k : Int) → (∀ r, r < k → ¬ agP (ms_E σ 40) a b r) → pr (f_X12_isAgreed_L2 n σ d aI bI kI) (fun v => bo v (∃ r, r < (ms_E σ 40 0).toInt.toNat ∧ agP (ms_E σ 40) a b r)) := by
  intro d
  induction d with
  | zero => intro k kI _ _; rw [f_X12_isAgreed_L2.eq_1]; exact pr_0
  | succ d ih =>
    intro k kI hk hno
    have h4 := hC.1
    have hwa := hC.2.2.2.2.2.1 a ha
    have hwb := hC.2.2.2.2.2.1 b hb
    have c0 : ((0 : Int32)).toNatClampNeg = 0 := by decide
    rw [f_X12_isAgreed_L2.eq_2, c0]
    refine pr_g (fun _ _ => pr_le (fun e => pr_s (Or.inr ⟨rfl, fun q => ?_⟩)) (fun e => ?_))
    · obtain ⟨r, hr, hq⟩ := q
      exact hno r (by omega) hq
    · have hk4 : k < 4 := by omega
      have e1 : (kI + 1).toInt = ((k + 1 : Nat) : Int) := by rw [iw_add, lt1]; omega
      have nx : ¬ agP (ms_E σ 40) a b k → pr (f_X12_isAgreed_L2 n σ d aI bI (kI + 1)) (fun v => bo v (∃ r, r < (ms_E σ 40 0).toInt.toNat ∧ agP (ms_E σ 40) a b r)) := fun hn => ih (k + 1) _ e1 (fun r hr => by
        by_cases q : r = k
        · rw [q]; exact hn
        · exact hno r (by omega))
      unfold f_X12_isAgreed_J54
      refine pr_b (v_trust n σ a ha aI haI 0 (by omega) 0 rfl) (fun v1 hv1 => pr_b (v_trust n σ a ha aI haI 1 (by omega) 1 rfl) (fun v2 hv2 => ?_))
      rw [hv1, hv2, show 76 + 4 * a + 0 = 76 + 4 * a by omega, show 76 + 4 * a + 1 = 77 + 4 * a by omega]
      refine pr_bo (v_isHead n σ hC k hk4 kI hk _ _ hwa.1) (fun z => pr_l (nx (fun q => z q.1))) (fun z1 => ?_)
      refine pr_b (v_trust n σ b hb bI hbI 0 (by omega) 0 rfl) (fun v3 hv3 => pr_b (v_trust n σ b hb bI hbI 1 (by omega) 1 rfl) (fun v4 hv4 => ?_))
      rw [hv3, hv4, show 76 + 4 * b + 0 = 76 + 4 * b by omega, show 76 + 4 * b + 1 = 77 + 4 * b by omega]
      exact pr_bo (v_isHead n σ hC k hk4 kI hk _ _ hwb.1) (fun z => pr_l (nx (fun q => z q.2))) (fun z2 => pr_s (Or.inl ⟨rfl, k, by omega, z1, z2⟩))
theorem v_isAgreed (n : Nat) (σ : ms_T) (hC : rC (ms_E σ 40)) (a b : Nat) (ha : a < 4) (hb : b < 4) (aI bI : Int32) (haI : aI.toInt = (a : Int)) (hbI : bI.toInt = (b : Int)) : pr (f_X12_isAgreed n σ aI bI) (fun v => bo v (∃ r, r < (ms_E σ 40 0).toInt.toNat ∧ agP (ms_E σ 40) a b r)) := by
  unfold f_X12_isAgreed
  exact v_isAgreed_L n σ hC a b ha hb aI bI haI hbI n 0 0 rfl (fun r hr => by omega)
theorem k_doAgree_L (n : Nat) (hn : 70000 ≤ n) (w : Nat) (f : Nat → Int32) (hC : rC f) (a b : Nat) (ha : a < 4) (hb : b < 4) (α0 : hp_T) : ∀ (d k : Nat) (α : hp_T) (kI : Int32), WR α w f → jf w α0 α → kI.toInt = (k : Int) → k ≤ 4 → 5 - k ≤ d → (∀ r, r < k → ¬ agP f a b r) → ws (f_X10_doAgreess_L12 n w d α (wtA w a) (wtA w b) kI) (fun res => bo res.1 (∃ r, r < (f 0).toInt.toNat ∧ agP f a b r) ∧ jf w α0 res.2) := by
  intro d
  induction d with
  | zero => intro k α kI _ _ _ _ hd; omega
  | succ d ih =>
    intro k α kI h hj hk hk4 hd hno
    have h4 := hC.1
    have hwa := hC.2.2.2.2.2.1 a ha
    have hwb := hC.2.2.2.2.2.1 b hb
    rw [f_X10_doAgreess_L12.eq_2]
    refine ws_l ?_
    rw [h.2.1.2.1]
    refine ws_le (fun e => ws_s ⟨Or.inr ⟨rfl, fun q => ?_⟩, hj⟩) (fun e => ?_)
    · obtain ⟨r, hr, hq⟩ := q
      exact hno r (by omega) hq
    · have e1 : (kI + 1).toInt = ((k + 1 : Nat) : Int) := by rw [iw_add, lt1]; omega
      have nx : ∀ β, WR β w f → jf w α0 β → ¬ agP f a b k → ws (f_X10_doAgreess_L12 n w d β (wtA w a) (wtA w b) (kI + 1)) (fun res => bo res.1 (∃ r, r < (f 0).toInt.toNat ∧ agP f a b r) ∧ jf w α0 res.2) := fun β hβ hjβ hn => ih (k + 1) β _ hβ hjβ e1 (by omega) (by omega) (fun r hr => by
        by_cases q : r = k
        · rw [q]; exact hn
        · exact hno r (by omega))
      refine ws_b (k_logAt n h hC kI) (fun o ho => ?_)
      rw [if_pos ⟨by omega, by omega⟩, hk, Int.toNat_natCast] at ho
      subst ho
      obtain ⟨a1, a2, -, -⟩ := h.2.2.2.2.1 a ha
      unfold f_X10_doAgreess_J63
      refine ws_hS (ws_l (ws_l ?_))
      rw [a1, a2]
      refine ws_hc (k_hasHead n hn α w f hC h k (by omega) _ _ hwa.1) (fun v β hv => ?_)
      obtain ⟨hv1, hv2⟩ := hv
      have hβ := WR_jf h hC hv2
      have hjβ : jf w α0 β := jf_tr hj hv2
      rcases hv1 with ⟨e1', z1⟩ | ⟨e1', z1⟩
      · replace e1' : v = 1 := e1'
        subst e1'
        refine ws_i (fun q => absurd q (by decide)) (fun _ => ws_l (ws_l ?_))
        obtain ⟨b1, b2, -, -⟩ := hβ.2.2.2.2.1 b hb
        rw [b1, b2]
        refine ws_hc (k_hasHead n hn β w f hC hβ k (by omega) _ _ hwb.1) (fun v γ hv => ?_)
        obtain ⟨hv1, hv3⟩ := hv
        have hγ := WR_jf hβ hC hv3
        have hjγ : jf w α0 γ := jf_tr hjβ hv3
        rcases hv1 with ⟨e2', z2⟩ | ⟨e2', z2⟩
        · replace e2' : v = 1 := e2'
          subst e2'
          exact ws_i (fun q => absurd q (by decide)) (fun _ => ws_s ⟨Or.inl ⟨rfl, k, by omega, z1, z2⟩, hjγ⟩)
        · replace e2' : v = 0 := e2'
          subst e2'
          exact ws_i (fun _ => ws_l (nx γ hγ hjγ (fun q => z2 q.2))) (fun q => absurd rfl q)
      · replace e1' : v = 0 := e1'
        subst e1'
        exact ws_i (fun _ => ws_l (nx β hβ hjβ (fun q => z1 q.1))) (fun q => absurd rfl q)
theorem k_doAgree (n : Nat) (hn : 70000 ≤ n) (α : hp_T) (w : Nat) (f : Nat → Int32) (hC : rC f) (h : WR α w f) (a b : Nat) (ha : a < 4) (hb : b < 4) : ws (f_X10_doAgree n α w (some (wtA w a)) (some (wtA w b))) (fun res => bo res.1 (∃ r, r < (f 0).toInt.toNat ∧ agP f a b r) ∧ jf w α res.2) := by
  unfold f_X10_doAgree
  refine ws_hS (ws_hS ?_)
  exact k_doAgree_L n hn w f hC a b ha hb α n 0 α 0 h ⟨rfl, rfl, rfl, rfl, rfl, fun _ _ _ _ => rfl⟩ rfl (by omega) (by omega) (fun r hr => by omega)
abbrev agOK (a b : Int32) : Prop := (0 ≤ a.toInt ∧ a.toInt ≤ 3) ∧ (0 ≤ b.toInt ∧ b.toInt ≤ 3)
def agA (f : Nat → Int32) (a b v : Int32) : Prop := (agOK a b ∧ bo v (∃ r, r < (f 0).toInt.toNat ∧ agP f a.toInt.toNat b.toInt.toNat r)) ∨ (¬ agOK a b ∧ v = -1)
theorem bo_u {v u : Int32} {P : Prop} (h : bo v P) (g : bo u P) : v = u := by
  rcases h with ⟨h1, h2⟩ | ⟨h1, h2⟩ <;> rcases g with ⟨g1, g2⟩ | ⟨g1, g2⟩
  · rw [h1, g1]
  · exact absurd h2 g2
  · exact absurd g2 h2
  · rw [h1, g1]
theorem agA_u {f : Nat → Int32} {a b v u : Int32} (h : agA f a b v) (g : agA f a b u) : v = u := by
  rcases h with ⟨h1, h2⟩ | ⟨h1, h2⟩ <;> rcases g with ⟨g1, g2⟩ | ⟨g1, g2⟩
  · exact bo_u h2 g2
  · exact absurd h1 g1
  · exact absurd g1 h1
  · rw [h2, g2]
theorem v_agree (n : Nat) (σ : ms_T) (hC : rC (ms_E σ 40)) (a b : Int32) : pr (f_X12_agree n σ a b) (fun res => agA (ms_E σ 40) a b res.1) := by
  unfold f_X12_agree f_X12_agree_J19 f_X12_agree_J20
  refine pr_bo (pr_w (s_isWatcher n a)) (fun h0 => v_is1 n σ 2 (by decide) (pr_s (Or.inr ⟨fun q => h0 q.1, rfl⟩))) (fun h1 => pr_bo (pr_w (s_isWatcher n b)) (fun h0 => v_is1 n σ 2 (by decide) (pr_s (Or.inr ⟨fun q => h0 q.2, rfl⟩))) (fun h2 => v_is0 n σ ?_))
  exact pr_bo (v_isAgreed n (ms_sI (ms_sI σ 653 0) 652 0) hC a.toInt.toNat b.toInt.toNat (by omega) (by omega) a b (by omega) (by omega)) (fun z => pr_s (Or.inl ⟨⟨h1, h2⟩, Or.inr ⟨rfl, z⟩⟩)) (fun z => pr_s (Or.inl ⟨⟨h1, h2⟩, Or.inl ⟨rfl, z⟩⟩))
theorem k_agree (n : Nat) (hn : 70000 ≤ n) (α : hp_T) (x : Nat) (f : Nat → Int32) (hC : rC f) (h : RWX α x f) (a b : Int32) : ws (f_X11_agree n α x a b) (fun res => agA f a b res.1) := by
  obtain ⟨w, u, h1, h2, h3, h4, -⟩ := h
  have bad : ¬ agOK a b → ws (hq_c (f_X11_refuse n α x 2) fun r β => some (r, β)) (fun res => agA f a b res.1) := fun hno => ws_hc (k_refuse n α x 2) (fun z γ hz => ws_s (Or.inr ⟨hno, hz.1⟩))
  unfold f_X11_agree f_X11_agree_J28 f_X11_agree_J53
  refine ws_l ?_
  rw [h1]
  refine ws_b (k_watcherAt2 n h4.1 a) (fun o ho => ?_)
  by_cases ha : 0 ≤ a.toInt ∧ a.toInt ≤ 3
  · rw [if_pos ha] at ho
    subst ho
    refine ws_hS (ws_l (ws_b (k_watcherAt2 n h4.1 b) (fun o ho => ?_)))
    by_cases hb : 0 ≤ b.toInt ∧ b.toInt ≤ 3
    · rw [if_pos hb] at ho
      subst ho
      refine ws_hS (ws_l ?_)
      refine ws_hc (k_doAgree n hn α w f hC h4 a.toInt.toNat b.toInt.toNat (by omega) (by omega)) (fun v β hv => ?_)
      rcases hv.1 with ⟨e, z⟩ | ⟨e, z⟩
      · replace e : v = 1 := e
        subst e
        exact ws_i (fun q => absurd q (by decide)) (fun _ => ws_hc (k_answer n β x 1) (fun z' γ hz => ws_s (Or.inl ⟨⟨ha, hb⟩, Or.inl ⟨hz.1, z⟩⟩)))
      · replace e : v = 0 := e
        subst e
        exact ws_i (fun _ => ws_hc (k_answer n β x 0) (fun z' γ hz => ws_s (Or.inl ⟨⟨ha, hb⟩, Or.inr ⟨hz.1, z⟩⟩))) (fun q => absurd rfl q)
    · rw [if_neg hb] at ho
      subst ho
      exact ws_hN (bad (fun q => hb q.2))
  · rw [if_neg ha] at ho
    subst ho
    refine ws_hN (ws_l (ws_b (k_watcherAt2 n h4.1 b) (fun o ho => ?_)))
    have hz := bad (fun q => ha q.1)
    rcases o with _ | o
    · exact ws_hN hz
    · exact ws_hS hz
end JN9_21
section JN9_22
set_option maxRecDepth 100000
abbrev sdP (f : Nat → Int32) (i : Nat) : Prop := TMK (f 1) (EL f (f (92 + 10 * i)).toInt.toNat) 0 (f (93 + 10 * i)).toInt.toNat = f (94 + 10 * i)
theorem v_froze (n : Nat) (σ : ms_T) (i : Nat) (hi : i < 16) (iI : Int32) (hiI : iI.toInt = (i : Int)) (q : Nat) (hq : q < 10) (qI : Int32) (hqI : qI.toInt = (q : Int)) : pr (f_X12_froze n σ iI qI) (fun v => v = ms_E σ 40 (92 + 10 * i + q)) := by
  have t10 := t_10
  have t92 := t_92
  unfold f_X12_froze
  refine pr_g (fun _ _ => pr_s ?_)
  rw [cl_n (i := (92 : Int32) + (10 : Int32) * iI + qI) (k := 92 + 10 * i + q) (by rw [iw_add, iw_add, iw_mul, t10, t92]; omega)]
theorem v_isSound (n : Nat) (σ : ms_T) (hC : rC (ms_E σ 40)) (hF : FRI (ms_E σ 40)) (i : Nat) (hi : i < (ms_E σ 40 3).toInt.toNat) (iI : Int32) (hiI : iI.toInt = (i : Int)) : pr (f_X12_isSound n σ iI) (fun v => bo v (sdP (ms_E σ 40) i)) := by
  have h4 := hC.1
  have h16 := hC.2.2.2.1
  have hi16 : i < 16 := by omega
  obtain ⟨b1, b2⟩ := hF i hi
  have b0 := (hC.2.2.2.2.2.2.1 i hi16).1
  have b3 := hC.2.2.2.2.2.2.2.1 i hi16
  unfold f_X12_isSound
  refine pr_b (v_froze n σ i hi16 iI hiI 0 (by omega) 0 rfl) (fun v0 hv0 => pr_b (v_froze n σ i hi16 iI hiI 1 (by omega) 1 rfl) (fun v1 hv1 => ?_))
  rw [hv0, hv1, show 92 + 10 * i + 0 = 92 + 10 * i by omega, show 92 + 10 * i + 1 = 93 + 10 * i by omega]
  refine pr_b (v_headOf n σ hC (ms_E σ 40 (92 + 10 * i)).toInt.toNat (by omega) _ (by omega) (ms_E σ 40 (93 + 10 * i)).toInt.toNat _ (by omega) (by rw [EL_len]; omega)) (fun v2 hv2 => pr_b (v_froze n σ i hi16 iI hiI 2 (by omega) 2 rfl) (fun v3 hv3 => ?_))
  rw [hv2, hv3, show 92 + 10 * i + 2 = 94 + 10 * i by omega]
  exact pr_i (fun e => pr_s (Or.inl ⟨rfl, e⟩)) (fun e => pr_s (Or.inr ⟨rfl, e⟩))
theorem k_frozenAt (n : Nat) {α : hp_T} {w : Nat} {f : Nat → Int32} (h : WR α w f) (hC : rC f) (a : Int32) : ws (f_X10_frozenAt n α w a) (fun o => o = if 0 ≤ a.toInt ∧ a.toInt < (f 3).toInt then some (fzA w a.toInt.toNat) else none) := by
  have h16 := hC.2.2.2.1
  have t16 : (16 : Int32).toInt = 16 := by decide
  unfold f_X10_frozenAt
  refine ws_lt (fun e => ws_s (by rw [lt0] at e; rw [if_neg (fun q => by omega)])) (fun e => ws_l ?_)
  rw [lt0] at e
  rw [h.2.1.2.2.1]
  refine ws_le (fun c => ws_s (by rw [if_neg (fun q => by omega)])) (fun c => ws_l (ws_le (fun d => by rw [t16] at d; omega) (fun d => ws_l (ws_g e (by omega) ?_))))
  have hcl : a.toNatClampNeg = a.toInt.toNat := cl_n (by omega)
  have hq : hp_Q α 31 (hp_R α 553 w) a.toNatClampNeg = some (fzA w a.toInt.toNat) := by rw [hcl, h.1.2.1]; exact h.1.2.2.2.2.2.2.2.1 _ (by omega)
  rw [hq]
  exact ws_hS (ws_s (by rw [if_pos ⟨e, c⟩]))
theorem k_isSound (n : Nat) (hn : 70000 ≤ n) (α : hp_T) (w : Nat) (f : Nat → Int32) (hC : rC f) (hF : FRI f) (h : WR α w f) (i : Nat) (hi : i < (f 3).toInt.toNat) : ws (f_X10_isSound n α w (fzA w i)) (fun res => bo res.1 (sdP f i) ∧ jf w α res.2) := by
  have h4 := hC.1
  have h16 := hC.2.2.2.1
  obtain ⟨b1, b2⟩ := hF i hi
  have b0 := (hC.2.2.2.2.2.2.1 i (by omega)).1
  have b3 := hC.2.2.2.2.2.2.2.1 i (by omega)
  obtain ⟨z0, z1, z2, -⟩ := h.2.2.2.1 i hi
  unfold f_X10_isSound
  refine ws_l ?_
  rw [z0]
  refine ws_b (k_logAt n h hC _) (fun o ho => ?_)
  rw [if_pos ⟨b0, b1⟩] at ho
  subst ho
  refine ws_hS (ws_l (ws_l ?_))
  rw [z1, z2]
  refine ws_hc (k_hasHead n hn α w f hC h _ (by omega) _ _ b3.1) (fun v β hv => ?_)
  obtain ⟨hb, hj⟩ := hv
  rcases hb with ⟨e, q⟩ | ⟨e, q⟩
  · exact ws_z (Or.inr e) (ws_s ⟨Or.inl ⟨e, q.2⟩, hj⟩)
  · exact ws_z (Or.inl e) (ws_s ⟨Or.inr ⟨e, fun p => q ⟨b2, p⟩⟩, hj⟩)
end JN9_22
section JN9_23
set_option maxRecDepth 100000
abbrev fnOK (f : Nat → Int32) (a b : Int32) : Prop := (0 ≤ a.toInt ∧ (0 ≤ b.toInt ∧ b.toInt ≤ 4)) ∧ a.toInt < (f 3).toInt
def fnA (f : Nat → Int32) (a b v : Int32) : Prop := (fnOK f a b ∧ ((b.toInt < 4 ∧ v = f (92 + 10 * a.toInt.toNat + b.toInt.toNat)) ∨ (b.toInt = 4 ∧ bo v (sdP f a.toInt.toNat)))) ∨ (¬ fnOK f a b ∧ v = -1)
theorem fnA_u {f : Nat → Int32} {a b v u : Int32} (h : fnA f a b v) (g : fnA f a b u) : v = u := by
  rcases h with ⟨h1, h2⟩ | ⟨h1, h2⟩ <;> rcases g with ⟨g1, g2⟩ | ⟨g1, g2⟩
  · rcases h2 with ⟨h3, h4⟩ | ⟨h3, h4⟩ <;> rcases g2 with ⟨g3, g4⟩ | ⟨g3, g4⟩
    · rw [h4, g4]
    · omega
    · omega
    · exact bo_u h4 g4
  · exact absurd h1 g1
  · exact absurd g1 h1
  · rw [h2, g2]
theorem v_frozen (n : Nat) (σ : ms_T) (hC : rC (ms_E σ 40)) (hF : FRI (ms_E σ 40)) (a b : Int32) : pr (f_X12_frozen n σ a b) (fun res => fnA (ms_E σ 40) a b res.1) := by
  have h16 := hC.2.2.2.1
  have t4 := t_4
  have c3 : ((3 : Int32)).toNatClampNeg = 3 := by decide
  have bad : ∀ v : Int32, ¬ v = 0 → ¬ fnOK (ms_E σ 40) a b → pr (f_X12_frozen_J33 n σ a b v) (fun res => fnA (ms_E σ 40) a b res.1) := fun v hv hno => by
    unfold f_X12_frozen_J33
    exact v_is1 n σ v hv (pr_s (Or.inr ⟨hno, rfl⟩))
  unfold f_X12_frozen f_X12_frozen_J14
  refine pr_lt (fun e => bad 1 (by decide) (fun q => by rw [lt0] at e; have := q.1.1; omega)) (fun e => pr_bo (v_isIn n b 0 4) (fun z => bad 1 (by decide) (fun q => z (by rw [lt0, t4]; exact q.1.2))) (fun z => pr_g (fun _ _ => ?_)))
  rw [lt0] at e
  rw [lt0, t4] at z
  rw [c3]
  refine pr_lt (fun c => ?_) (fun c => bad 5 (by decide) (fun q => by have := q.2; omega))
  have ok : fnOK (ms_E σ 40) a b := ⟨⟨e, z⟩, c⟩
  unfold f_X12_frozen_J33
  refine v_is0 n σ (pr_le (fun d => ?_) (fun d => ?_))
  · rw [t4] at d
    exact pr_bo (v_isSound n (ms_sI (ms_sI σ 653 0) 652 0) hC hF a.toInt.toNat (show a.toInt.toNat < (ms_E σ 40 3).toInt.toNat by omega) a (by omega)) (fun y => pr_s (Or.inl ⟨ok, Or.inr ⟨by omega, Or.inr ⟨rfl, y⟩⟩⟩)) (fun y => pr_s (Or.inl ⟨ok, Or.inr ⟨by omega, Or.inl ⟨rfl, y⟩⟩⟩))
  · rw [t4] at d
    exact pr_b (v_froze n (ms_sI (ms_sI σ 653 0) 652 0) a.toInt.toNat (by omega) a (by omega) b.toInt.toNat (by omega) b (by omega)) (fun v hv => pr_s (Or.inl ⟨ok, Or.inl ⟨d, hv⟩⟩))
theorem k_frozen (n : Nat) (hn : 70000 ≤ n) (α : hp_T) (x : Nat) (f : Nat → Int32) (hC : rC f) (hF : FRI f) (h : RWX α x f) (a b : Int32) : ws (f_X11_frozen n α x a b) (fun res => fnA f a b res.1) := by
  obtain ⟨w, u, h1, h2, h3, h4, -⟩ := h
  have h16 := hC.2.2.2.1
  have t4 := t_4
  have bad : ∀ v : Int32, ¬ fnOK f a b → ws (hq_c (f_X11_refuse n α x v) fun r β => some (r, β)) (fun res => fnA f a b res.1) := fun v hno => ws_hc (k_refuse n α x v) (fun z γ hz => ws_s (Or.inr ⟨hno, hz.1⟩))
  unfold f_X11_frozen f_X11_frozen_J13 f_X11_frozen_J121
  refine ws_lt (fun e => bad 1 (fun q => by rw [lt0] at e; have := q.1.1; omega)) (fun e => ws_lt (fun e2 => bad 1 (fun q => by rw [lt0] at e2; have := q.1.2.1; omega)) (fun e2 => ws_le (fun e3 => ws_l ?_) (fun e3 => bad 1 (fun q => by rw [t4] at e3; have := q.1.2.2; omega))))
  rw [lt0] at e e2
  rw [t4] at e3
  rw [h1]
  refine ws_b (k_frozenAt n h4 hC a) (fun o ho => ?_)
  by_cases c : a.toInt < (f 3).toInt
  · rw [if_pos ⟨e, c⟩] at ho
    subst ho
    have ok : fnOK f a b := ⟨⟨e, e2, e3⟩, c⟩
    obtain ⟨z0, z1, z2, z3, -⟩ := h4.2.2.2.1 a.toInt.toNat (by omega)
    have fin : ∀ v : Int32, b.toInt < 4 → v = f (92 + 10 * a.toInt.toNat + b.toInt.toNat) → ws (hq_c (f_X11_answer n α x v) fun r β => some (r, β)) (fun res => fnA f a b res.1) := fun v hb hv => ws_hc (k_answer n α x v) (fun z γ hz => ws_s (Or.inl ⟨ok, Or.inl ⟨hb, hz.1.trans hv⟩⟩))
    have i1 : ((1 : Int32).toInt).toNat = 1 := by decide
    have i2 : ((2 : Int32).toInt).toNat = 2 := by decide
    have i3 : ((3 : Int32).toInt).toNat = 3 := by decide
    refine ws_hS (ws_i (fun q => ws_l (fin _ (by rw [q]; decide) (by rw [z0, q]; rfl))) (fun q0 => ws_i (fun q => ws_l (fin _ (by rw [q]; decide) (by rw [z1, q, i1, show 92 + 10 * a.toInt.toNat + 1 = 93 + 10 * a.toInt.toNat by omega]))) (fun q1 => ws_i (fun q => ws_l (fin _ (by rw [q]; decide) (by rw [z2, q, i2, show 92 + 10 * a.toInt.toNat + 2 = 94 + 10 * a.toInt.toNat by omega]))) (fun q2 => ws_i (fun q => ws_l (fin _ (by rw [q]; decide) (by rw [z3, q, i3, show 92 + 10 * a.toInt.toNat + 3 = 95 + 10 * a.toInt.toNat by omega]))) (fun q3 => ws_l ?_)))))
    have n0 : ¬ b.toInt = 0 := fun q => q0 (Int32.toInt_inj.mp (by rw [q]; rfl))
    have n1 : ¬ b.toInt = 1 := fun q => q1 (Int32.toInt_inj.mp (by rw [q]; rfl))
    have n2 : ¬ b.toInt = 2 := fun q => q2 (Int32.toInt_inj.mp (by rw [q]; rfl))
    have n3 : ¬ b.toInt = 3 := fun q => q3 (Int32.toInt_inj.mp (by rw [q]; rfl))
    refine ws_hc (k_isSound n hn α w f hC hF h4 a.toInt.toNat (by omega)) (fun v β hv => ?_)
    rcases hv.1 with ⟨y, z⟩ | ⟨y, z⟩
    · replace y : v = 1 := y
      subst y
      exact ws_i (fun q => absurd q (by decide)) (fun _ => ws_hc (k_answer n β x 1) (fun z' γ hz => ws_s (Or.inl ⟨ok, Or.inr ⟨by omega, Or.inl ⟨hz.1, z⟩⟩⟩)))
    · replace y : v = 0 := y
      subst y
      exact ws_i (fun _ => ws_hc (k_answer n β x 0) (fun z' γ hz => ws_s (Or.inl ⟨ok, Or.inr ⟨by omega, Or.inr ⟨hz.1, z⟩⟩⟩))) (fun q => absurd rfl q)
  · rw [if_neg (fun q => c q.2)] at ho
    subst ho
    exact ws_hN (bad 5 (fun q => c q.2))
end JN9_23
section JN9_24
set_option maxRecDepth 100000
theorem v_isTyped_L (n : Nat) (σ : ms_T) (l : List Int32) (hT : TYS σ l) (r i : Nat) (hr : r < 4) (hi : i < 48) (hl : (ms_E σ 40 (252 + (48 * r + i))).toInt = (l.length : Int)) (aI : Int32) (ha : aI.toInt = ((48 * r + i : Nat) : Int)) : ∀ (d k : Nat) (kI : Int32), kI.toInt = (k : Int) → k ≤ l.length → (∀ j, j < k → (ltr (ms_E σ 40) r i)[j]? = l[j]?) → pr (f_X12_isTyped_L21 n σ d aI kI) (fun v => bo v (ltr (ms_E σ 40) r i = l)) := by
  intro d
  induction d with
  | zero => intro k kI _ _ _; rw [f_X12_isTyped_L21.eq_1]; exact pr_0
  | succ d ih =>
    intro k kI hk hkl hA
    have h8 := hT.1
    have hlen : (ltr (ms_E σ 40) r i).length = l.length := by rw [ltr_len]; omega
    have t8 := t_8
    have t444 := t_444
    rw [f_X12_isTyped_L21.eq_2]
    refine pr_le (fun e => pr_s (Or.inl ⟨rfl, ?_⟩)) (fun e => pr_g (fun _ _ => pr_g (fun g0 g1 => ?_)))
    · rw [hT.2.1] at e
      refine List.ext_getElem? (fun j => ?_)
      by_cases hj : j < k
      · exact hA j hj
      · rw [List.getElem?_eq_none (by omega), List.getElem?_eq_none (by omega)]
    · rw [hT.2.1] at e
      have hkl2 : k < l.length := by omega
      obtain ⟨K, hK⟩ : ∃ K, K = 48 * r + i := ⟨_, rfl⟩
      have hK192 : K < 192 := by omega
      rw [← hK] at ha
      have s1 : ((8 : Int32) * aI).toInt = 8 * (K : Int) := by rw [iw_mul, t8, ha]; omega
      have s2 : ((444 : Int32) + 8 * aI).toInt = 444 + 8 * (K : Int) := by rw [iw_add, t444, s1]; omega
      have s3 : ((444 : Int32) + 8 * aI + kI).toInt = ((444 + 8 * K + k : Nat) : Int) := by rw [iw_add, s2, hk]; omega
      rw [cl_n s3, cl_n hk]
      have q1 : (ltr (ms_E σ 40) r i)[k]? = some (ms_E σ 40 (444 + 8 * K + k)) := by
        rw [ltr_get (ms_E σ 40) r i k (by omega), hK]
      have q2 := hT.2.2 k hkl2
      have e1 : (kI + 1).toInt = ((k + 1 : Nat) : Int) := by rw [iw_add, lt1]; omega
      refine pr_i (fun c => pr_l (ih (k + 1) _ e1 (by omega) (fun j hj => ?_))) (fun c => pr_s (Or.inr ⟨rfl, fun q => c ?_⟩))
      · by_cases ej : j = k
        · rw [ej, q1, ← q2, c]
        · exact hA j (by omega)
      · have q3 := q1
        rw [q, ← q2] at q3
        exact (Option.some.inj q3).symm
theorem v_isTyped (n : Nat) (σ : ms_T) (hC : rC (ms_E σ 40)) (l : List Int32) (hT : TYS σ l) (r i : Nat) (hr : r < 4) (hi : i < 48) (aI : Int32) (ha : aI.toInt = ((48 * r + i : Nat) : Int)) : pr (f_X12_isTyped n σ aI) (fun v => bo v (ltr (ms_E σ 40) r i = l)) := by
  have t252 := t_252
  have hq := hC.2.2.2.2.2.2.2.2 (48 * r + i) (by omega)
  unfold f_X12_isTyped
  refine pr_g (fun _ _ => ?_)
  rw [cl_n (i := (252 : Int32) + aI) (k := 252 + (48 * r + i)) (by rw [iw_add, t252, ha]; omega)]
  refine pr_i (fun c => ?_) (fun c => pr_s (Or.inr ⟨rfl, fun q => c ?_⟩))
  · exact v_isTyped_L n σ l hT r i hr hi (by rw [c]; exact hT.2.1) aI ha n 0 0 rfl (Nat.zero_le _) (fun j hj => by omega)
  · have : (ltr (ms_E σ 40) r i).length = l.length := by rw [q]
    rw [ltr_len] at this
    have h2 := hT.2.1
    exact Int32.toInt_inj.mp (by omega)
theorem k_isLike_L (n : Nat) {α : hp_T} {a b : Nat} {la lb : List Int32} (ha : WD α a la) (hb : WD α b lb) (hlen : la.length = lb.length) : ∀ (d k : Nat) (v kI : Int32), kI.toInt = (k : Int) → k ≤ la.length → la.length + 1 - k ≤ d → ((v = 1 ∧ ∀ j, j < k → la[j]? = lb[j]?) ∨ (v = 0 ∧ ¬ la = lb)) → ws (f_X9_isLike_L19 n α a d b v kI) (fun r => bo r (la = lb)) := by
  intro d
  induction d with
  | zero => intro k v kI _ _ hd; omega
  | succ d ih =>
    intro k v kI hk hkl hd hv
    have h8 := ha.1
    rw [f_X9_isLike_L19.eq_2]
    refine ws_l (ws_le (fun e => ?_) (fun e => ws_i (fun c => ?_) (fun c => ?_)))
    · rw [ha.2.1] at e
      rcases hv with ⟨rfl, hA⟩ | ⟨rfl, hN⟩
      · refine ws_z (Or.inr rfl) (ws_s (Or.inl ⟨rfl, List.ext_getElem? (fun j => ?_)⟩))
        by_cases hj : j < k
        · exact hA j hj
        · rw [List.getElem?_eq_none (by omega), List.getElem?_eq_none (by omega)]
      · exact ws_z (Or.inl rfl) (ws_s (Or.inr ⟨rfl, hN⟩))
    · rcases hv with ⟨rfl, hA⟩ | ⟨rfl, hN⟩
      · exact absurd c (by decide)
      · exact ws_z (Or.inl rfl) (ws_s (Or.inr ⟨rfl, hN⟩))
    · rw [ha.2.1] at e
      rcases hv with ⟨rfl, hA⟩ | ⟨rfl, hN⟩
      · have e1 : (kI + 1).toInt = ((k + 1 : Nat) : Int) := by rw [iw_add, lt1]; omega
        refine ws_b (k_letterAt n ha k kI hk (by omega)) (fun y1 hy1 => ws_b (k_letterAt n hb k kI hk (by omega)) (fun y2 hy2 => ?_))
        unfold f_X9_isLike_J49
        refine ws_i (fun c2 => ws_l (ih (k + 1) 1 _ e1 (by omega) (by omega) (Or.inl ⟨rfl, fun j hj => ?_⟩))) (fun c2 => ws_l (ih (k + 1) 0 _ e1 (by omega) (by omega) (Or.inr ⟨rfl, fun q => c2 ?_⟩)))
        · by_cases ej : j = k
          · subst ej
            rw [List.getElem?_eq_getElem (by omega), List.getElem?_eq_getElem (by omega), ← hy1, ← hy2, c2]
          · exact hA j (by omega)
        · subst q
          rw [hy1, hy2]
      · exact absurd rfl c
theorem k_isLike (n : Nat) (hn : 70000 ≤ n) {α : hp_T} {a b : Nat} {la lb : List Int32} (ha : WD α a la) (hb : WD α b lb) : ws (f_X9_isLike n α a b) (fun r => bo r (la = lb)) := by
  have h8 := ha.1
  have h9 := hb.1
  unfold f_X9_isLike f_X9_isLike_J16
  refine ws_l (ws_l (ws_i (fun c => ?_) (fun c => ?_)))
  · have hlen : la.length = lb.length := by have q1 := ha.2.1; have q2 := hb.2.1; rw [c] at q1; omega
    exact k_isLike_L n ha hb hlen n 0 1 0 rfl (Nat.zero_le _) (by omega) (Or.inl ⟨rfl, fun j hj => by omega⟩)
  · have hne : ¬ la = lb := fun q => c (Int32.toInt_inj.mp (by rw [ha.2.1, hb.2.1, q]))
    -- the loop ends at once
    obtain ⟨n, rfl⟩ : ∃ k, n = k + 1 := ⟨n - 1, by omega⟩
    rw [f_X9_isLike_L19.eq_2]
    exact ws_l (ws_le (fun _ => ws_z (Or.inl rfl) (ws_s (Or.inr ⟨rfl, hne⟩))) (fun _ => ws_i (fun _ => ws_z (Or.inl rfl) (ws_s (Or.inr ⟨rfl, hne⟩))) (fun q => absurd rfl q)))
def whC (f : Nat → Int32) (r : Nat) (l : List Int32) : Nat → Int32
  | 0 => 0
  | k + 1 => if ltr f r k = l then whC f r l k + 1 else whC f r l k
def whF (f : Nat → Int32) (r : Nat) (l : List Int32) : Nat → Int32
  | 0 => -1
  | k + 1 => if ltr f r k = l ∧ whF f r l k = -1 then Int32.ofNat k else whF f r l k
theorem whF_r (f : Nat → Int32) (r : Nat) (l : List Int32) : ∀ k, k ≤ 48 → whF f r l k = -1 ∨ (0 ≤ (whF f r l k).toInt ∧ (whF f r l k).toInt < 48) := by
  intro k
  induction k with
  | zero => intro _; exact Or.inl rfl
  | succ k ih =>
    intro hk
    rw [whF]
    split
    · right
      rw [Int32.toInt_ofNat_of_lt (by omega)]
      omega
    · exact ih (by omega)
abbrev whrOK (f : Nat → Int32) (a b : Int32) : Prop := (0 ≤ b.toInt ∧ b.toInt ≤ 1) ∧ (0 ≤ a.toInt ∧ a.toInt < (f 0).toInt)
def whrA (f : Nat → Int32) (l : List Int32) (a b : Int32) : Int32 := if whrOK f a b then (if b = 1 then whC f a.toInt.toNat l (f (72 + a.toInt.toNat)).toInt.toNat else whF f a.toInt.toNat l (f (72 + a.toInt.toNat)).toInt.toNat) else -1
theorem v_where_L (n : Nat) (σ : ms_T) (hC : rC (ms_E σ 40)) (l : List Int32) (hT : TYS σ l) (r : Nat) (hr : r < 4) (aI bI : Int32) (ha : aI.toInt = (r : Int)) : ∀ (d k : Nat) (cI fI kI : Int32), kI.toInt = (k : Int) → k ≤ (ms_E σ 40 (72 + r)).toInt.toNat → cI = whC (ms_E σ 40) r l k → fI = whF (ms_E σ 40) r l k → pr (f_X12_where_L43 n d σ aI bI cI fI kI) (fun res => res.1 = if bI = 1 then whC (ms_E σ 40) r l (ms_E σ 40 (72 + r)).toInt.toNat else whF (ms_E σ 40) r l (ms_E σ 40 (72 + r)).toInt.toNat) := by
  intro d
  induction d with
  | zero => intro k cI fI kI _ _ _ _; rw [f_X12_where_L43.eq_1]; exact pr_0
  | succ d ih =>
    intro k cI fI kI hk hl hc hf
    have hsz := hC.2.2.2.2.1 r hr
    have t48 := t_48
    rw [f_X12_where_L43.eq_2]
    have hso : pr (f_X12_sizeOf n σ aI) (fun v => v = ms_E σ 40 (72 + r)) := by
      unfold f_X12_sizeOf
      refine pr_g (fun _ _ => pr_s ?_)
      rw [cl_n (i := (72 : Int32) + aI) (k := 72 + r) (by rw [iw_add, t_72]; omega)]
    refine pr_b hso (fun v hv => ?_)
    rw [hv]
    refine pr_le (fun e => pr_i (fun cb => pr_s ?_) (fun cb => pr_le (fun c0 => pr_s ?_) (fun c0 => pr_c (v_refuse n _ 5) (fun r5 τ h5 => pr_s ?_)))) (fun e => ?_)
    · rw [if_pos cb]
      show cI = _
      rw [hc, show k = (ms_E σ 40 (72 + r)).toInt.toNat by omega]
    · rw [if_neg cb]
      show fI = _
      rw [hf, show k = (ms_E σ 40 (72 + r)).toInt.toNat by omega]
    · rw [if_neg cb]
      have ek : k = (ms_E σ 40 (72 + r)).toInt.toNat := by omega
      rw [← ek, ← hf]
      have hz : fI = -1 := by
        rw [lt0] at c0
        rcases whF_r (ms_E σ 40) r l k (by omega) with q | q
        · rw [hf]; exact q
        · rw [← hf] at q; omega
      rw [hz]; exact h5
    · have e1 : (kI + 1).toInt = ((k + 1 : Nat) : Int) := by rw [iw_add, lt1]; omega
      have hkI : kI = Int32.ofNat k := i_ofN hk
      have hidx : ((48 : Int32) * aI + kI).toInt = ((48 * r + k : Nat) : Int) := by rw [iw_add, iw_mul, t48]; omega
      unfold f_X12_where_J85 f_X12_where_J87
      refine pr_bo (v_isTyped n σ hC l hT r k hr (by omega) _ hidx) (fun z => pr_l (ih (k + 1) _ _ _ e1 (by omega) ?_ ?_)) (fun z => pr_l (pr_le (fun c0 => pr_l (ih (k + 1) _ _ _ e1 (by omega) ?_ ?_)) (fun c0 => pr_l (ih (k + 1) _ _ _ e1 (by omega) ?_ ?_))))
      · rw [whC, if_neg z, hc]
      · rw [whF, if_neg (fun q => z q.1), hf]
      · rw [whC, if_pos z, hc]
      · rw [whF, if_neg (fun q => ?_), hf]
        rw [lt0, hf, q.2] at c0
        exact absurd c0 (by decide)
      · rw [whC, if_pos z, hc]
      · have qm : whF (ms_E σ 40) r l k = -1 := by
          rw [lt0] at c0
          rcases whF_r (ms_E σ 40) r l k (by omega) with q | q
          · exact q
          · rw [← hf] at q; omega
        rw [whF, if_pos ⟨z, qm⟩, hkI]
theorem v_where (n : Nat) (σ : ms_T) (hC : rC (ms_E σ 40)) (l : List Int32) (hT : TYS σ l) (a b : Int32) : pr (f_X12_where n σ a b) (fun res => res.1 = whrA (ms_E σ 40) l a b) := by
  have h4 := hC.1
  have t1 := lt1
  unfold f_X12_where f_X12_where_J27 whrA
  refine pr_bo (v_isIn n b 0 1) (fun h0 => v_is1 n σ 1 (by decide) (pr_s ?_)) (fun h1 => pr_bo (pr_w (s_isRecord hC a)) (fun h0 => v_is1 n σ 2 (by decide) (pr_s ?_)) (fun h2 => v_is0 n σ ?_))
  · rw [lt0, t1] at h0
    rw [if_neg (fun q => h0 q.1)]
  · rw [if_neg (fun q => h0 q.2)]
  · rw [lt0, t1] at h1
    rw [if_pos ⟨h1, h2⟩]
    exact v_where_L n (ms_sI (ms_sI σ 653 0) 652 0) hC l hT a.toInt.toNat (by omega) a b (by omega) n 0 0 (-1) 0 rfl (Nat.zero_le _) rfl rfl
theorem k_countLike_L (n : Nat) (hn : 70000 ≤ n) (α : hp_T) (w : Nat) (f : Nat → Int32) (hC : rC f) (h : WR α w f) (r : Nat) (hr : r < (f 0).toInt.toNat) (ta : Nat) (l : List Int32) (hT : WD α ta l) : ∀ (d k : Nat) (cI kI : Int32), kI.toInt = (k : Int) → k ≤ (f (72 + r)).toInt.toNat → 49 - k ≤ d → cI = whC f r l k → ws (f_X2_countLike_L4 n α (lpA w r) d ta cI kI) (fun v => v = whC f r l (f (72 + r)).toInt.toNat) := by
  intro d
  induction d with
  | zero =>
    intro k cI kI _ hl hd
    have h4 := hC.1
    have hsz := hC.2.2.2.2.1 r (by omega)
    omega
  | succ d ih =>
    intro k cI kI hk hl hd hc
    have h4 := hC.1
    have hsz := hC.2.2.2.2.1 r (by omega)
    have q152 := (h.2.2.1 r hr).1
    rw [f_X2_countLike_L4.eq_2]
    refine ws_l ?_
    rw [q152]
    refine ws_le (fun e => ws_s ?_) (fun e => ?_)
    · rw [hc, show k = (f (72 + r)).toInt.toNat by omega]
    · have e1 : (kI + 1).toInt = ((k + 1 : Nat) : Int) := by rw [iw_add, lt1]; omega
      obtain ⟨hW, -⟩ := (h.2.2.1 r hr).2 k (by omega)
      refine ws_b (k_wordAt n h.1 (by omega) (s := (f (72 + r)).toInt.toNat) (by rw [q152]; omega) (by omega) k (by omega) kI hk) (fun o ho => ?_)
      subst ho
      unfold f_X2_countLike_J36
      refine ws_hS (ws_bo (k_isLike n hn hW hT) (fun z => ws_l (ih (k + 1) _ _ e1 (by omega) (by omega) (by rw [whC, if_neg z, hc]))) (fun z => ws_l (ws_l (ih (k + 1) _ _ e1 (by omega) (by omega) (by rw [whC, if_pos z, hc])))))
theorem k_firstLike_L (n : Nat) (hn : 70000 ≤ n) (α : hp_T) (w : Nat) (f : Nat → Int32) (hC : rC f) (h : WR α w f) (r : Nat) (hr : r < (f 0).toInt.toNat) (ta : Nat) (l : List Int32) (hT : WD α ta l) : ∀ (d k : Nat) (kI : Int32), kI.toInt = (k : Int) → k ≤ (f (72 + r)).toInt.toNat → 49 - k ≤ d → whF f r l k = -1 → ws (f_X2_firstLike_L2 n α (lpA w r) d ta kI) (fun v => v = whF f r l (f (72 + r)).toInt.toNat) := by
  intro d
  induction d with
  | zero =>
    intro k kI _ hl hd
    have h4 := hC.1
    have hsz := hC.2.2.2.2.1 r (by omega)
    omega
  | succ d ih =>
    intro k kI hk hl hd hc
    have h4 := hC.1
    have hsz := hC.2.2.2.2.1 r (by omega)
    have q152 := (h.2.2.1 r hr).1
    rw [f_X2_firstLike_L2.eq_2]
    refine ws_l ?_
    rw [q152]
    refine ws_le (fun e => ws_s ?_) (fun e => ?_)
    · rw [← show k = (f (72 + r)).toInt.toNat by omega, hc]
    · have e1 : (kI + 1).toInt = ((k + 1 : Nat) : Int) := by rw [iw_add, lt1]; omega
      have hkI : kI = Int32.ofNat k := i_ofN hk
      obtain ⟨hW, -⟩ := (h.2.2.1 r hr).2 k (by omega)
      refine ws_b (k_wordAt n h.1 (by omega) (s := (f (72 + r)).toInt.toNat) (by rw [q152]; omega) (by omega) k (by omega) kI hk) (fun o ho => ?_)
      subst ho
      unfold f_X2_firstLike_J30
      refine ws_hS (ws_bo (k_isLike n hn hW hT) (fun z => ws_l (ih (k + 1) _ e1 (by omega) (by omega) (by rw [whF, if_neg (fun q => z q.1), hc]))) (fun z => ws_s ?_))
      -- found: it stays the first
      have hfix : ∀ j, k + 1 ≤ j → j ≤ 48 → whF f r l j = Int32.ofNat k := by
        intro j
        induction j with
        | zero => intro q; omega
        | succ j ihj =>
          intro q q2
          by_cases ej : j = k
          · subst ej
            rw [whF, if_pos ⟨z, hc⟩]
          · have := ihj (by omega) (by omega)
            rw [whF, if_neg (fun p => ?_), this]
            rw [this] at p
            have h9 : (Int32.ofNat k).toInt = -1 := by rw [p.2]; decide
            rw [Int32.toInt_ofNat_of_lt (by omega)] at h9
            omega
      rw [hfix _ (by omega) (by omega), hkI]
theorem k_where (n : Nat) (hn : 70000 ≤ n) (α : hp_T) (x : Nat) (f : Nat → Int32) (hC : rC f) (h : RWX α x f) (l : List Int32) (hT : TYC α x l) (a b : Int32) : ws (f_X11_where n α x a b) (fun res => res.1 = whrA f l a b) := by
  have h4' := hC.1
  have t1 := lt1
  obtain ⟨w, u, h1, h2, h3, h4, -⟩ := h
  obtain ⟨ta, s1, s2, s3, s4⟩ := TYC_t hT
  have bad : ∀ v : Int32, ¬ whrOK f a b → ws (hq_c (f_X11_refuse n α x v) fun r β => some (r, β)) (fun res => res.1 = whrA f l a b) := fun v hno => by
    unfold whrA
    rw [if_neg hno]
    exact ws_hc (k_refuse n α x v) (fun z γ hz => ws_s hz.1)
  unfold f_X11_where f_X11_where_J9
  refine ws_lt (fun e => bad 1 (fun q => by rw [lt0] at e; have := q.1; omega)) (fun e0 => ws_le (fun e1 => ws_l ?_) (fun e => bad 1 (fun q => by have := q.1; omega)))
  rw [lt0] at e0
  rw [t1] at e1
  rw [h1]
  refine ws_b (k_logAt n h4 hC a) (fun o ho => ?_)
  by_cases hr : 0 ≤ a.toInt ∧ a.toInt < (f 0).toInt
  · rw [if_pos hr] at ho
    subst ho
    have hsz := hC.2.2.2.2.1 a.toInt.toNat (by omega)
    have eA : whrA f l a b = (if b = 1 then whC f a.toInt.toNat l (f (72 + a.toInt.toNat)).toInt.toNat else whF f a.toInt.toNat l (f (72 + a.toInt.toNat)).toInt.toNat) := by unfold whrA; rw [if_pos ⟨⟨e0, e1⟩, hr⟩]
    refine ws_hS (ws_i (fun cb => ws_l ?_) (fun cb => ws_l ?_))
    · rw [s2, eA, if_pos cb]
      unfold f_X2_countLike
      exact ws_b (k_countLike_L n hn α w f hC h4 a.toInt.toNat (by omega) ta l s4 n 0 0 0 rfl (Nat.zero_le _) (by omega) rfl) (fun v hv => ws_hc (k_answer n α x v) (fun z γ hz => ws_s (hz.1.trans hv)))
    · rw [s2, eA, if_neg cb]
      unfold f_X2_firstLike
      refine ws_b (k_firstLike_L n hn α w f hC h4 a.toInt.toNat (by omega) ta l s4 n 0 0 rfl (Nat.zero_le _) (by omega) rfl) (fun v hv => ws_le (fun c0 => ws_hc (k_answer n α x v) (fun z γ hz => ws_s (hz.1.trans hv))) (fun c0 => ws_hc (k_refuse n α x 5) (fun z γ hz => ws_s (hz.1.trans ?_))))
      rw [lt0] at c0
      rcases whF_r f a.toInt.toNat l (f (72 + a.toInt.toNat)).toInt.toNat (by omega) with q | q
      · exact q.symm
      · rw [← hv] at q; omega
  · rw [if_neg hr] at ho
    subst ho
    exact ws_hN (bad 2 (fun q => hr q.2))
end JN9_24
section JN9_25
set_option maxRecDepth 100000
def prT : Nat → Nat → Nat → List (Nat × Nat)
  | 0, f, m => if m = 0 then [] else [(f, m)]
  | e + 1, f, m => if m = 0 then [] else if m = 1 then [(f, m)] else [(f, m)] ++ (prT e f (p0 m) ++ prT e (f + p0 m) (m - p0 m))
theorem prT_len : ∀ (e f m : Nat), m ≤ 2 ^ e → (prT e f m).length = 2 * m - 1 := by
  intro e
  induction e with
  | zero =>
    intro f m h
    rw [Nat.pow_zero] at h
    rw [prT]
    by_cases h0 : m = 0
    · rw [if_pos h0, h0]; rfl
    · rw [if_neg h0, List.length_singleton]; omega
  | succ e ih =>
    intro f m h
    rw [prT]
    by_cases h0 : m = 0
    · rw [if_pos h0, h0]; rfl
    · rw [if_neg h0]
      by_cases h1 : m = 1
      · rw [if_pos h1, h1]; rfl
      · rw [if_neg h1]
        have hp := p0_dn (show 2 ≤ m by omega) h
        have hp2 := p0_lt (show 2 ≤ m by omega)
        have hp3 := p0_le (m := m)
        have hp4 := p0_pos m
        rw [List.length_append, List.length_append, ih f (p0 m) hp, ih (f + p0 m) (m - p0 m) (by omega), List.length_singleton]
        omega
theorem prT_in : ∀ (e f m : Nat), m ≤ 2 ^ e → ∀ q ∈ prT e f m, 1 ≤ q.2 ∧ q.1 + q.2 ≤ f + m := by
  intro e
  induction e with
  | zero =>
    intro f m h q hq
    rw [prT] at hq
    by_cases h0 : m = 0
    · rw [if_pos h0] at hq; cases hq
    · rw [if_neg h0] at hq
      rw [List.mem_singleton.mp hq]
      exact ⟨by show 1 ≤ m; omega, Nat.le_refl _⟩
  | succ e ih =>
    intro f m h q hq
    rw [prT] at hq
    by_cases h0 : m = 0
    · rw [if_pos h0] at hq; cases hq
    · rw [if_neg h0] at hq
      by_cases h1 : m = 1
      · rw [if_pos h1] at hq
        rw [List.mem_singleton.mp hq]
        exact ⟨by show 1 ≤ m; omega, Nat.le_refl _⟩
      · rw [if_neg h1] at hq
        have hp := p0_dn (show 2 ≤ m by omega) h
        have hp2 := p0_lt (show 2 ≤ m by omega)
        have hp3 := p0_le (m := m)
        rcases List.mem_append.mp hq with hq | hq
        · rw [List.mem_singleton.mp hq]
          exact ⟨by show 1 ≤ m; omega, Nat.le_refl _⟩
        · rcases List.mem_append.mp hq with hq | hq
          · have := ih f (p0 m) hp q hq; omega
          · have := ih (f + p0 m) (m - p0 m) (by omega) q hq; omega
def SKR (l : List (Nat × Nat)) (σ τ : ms_T) : Prop := fr [683, 684, 685] [] σ τ ∧ ((ms_I σ 683).toInt < 0 → ms_I τ 683 = ms_I σ 683 ∧ ms_I τ 684 = ms_I σ 684 ∧ ms_I τ 685 = ms_I σ 685) ∧ ∀ k : Nat, (ms_I σ 683).toInt = (k : Int) → (∀ q, l[k]? = some q → ms_I τ 683 = -1 ∧ (ms_I τ 684).toInt = (q.1 : Int) ∧ (ms_I τ 685).toInt = (q.2 : Int)) ∧ (l.length ≤ k → (ms_I τ 683).toInt = (k : Int) - l.length ∧ ms_I τ 684 = ms_I σ 684 ∧ ms_I τ 685 = ms_I σ 685)
theorem SKR_nil (σ : ms_T) : SKR [] σ σ := ⟨fr_rf, fun _ => ⟨rfl, rfl, rfl⟩, fun k hk => ⟨fun q h => (by cases h), fun _ => ⟨(by rw [hk]; simp), rfl, rfl⟩⟩⟩
theorem SKR_neg (l : List (Nat × Nat)) (σ : ms_T) (h : (ms_I σ 683).toInt < 0) : SKR l σ σ := ⟨fr_rf, fun _ => ⟨rfl, rfl, rfl⟩, fun k hk => by omega⟩
theorem SKR_tr {l1 l2 : List (Nat × Nat)} {σ τ υ : ms_T} (h : SKR l1 σ τ) (g : SKR l2 τ υ) : SKR (l1 ++ l2) σ υ := by
  obtain ⟨h1, h2, h3⟩ := h
  obtain ⟨g1, g2, g3⟩ := g
  have m1 : (-1 : Int32).toInt = -1 := by decide
  refine ⟨fr_tr h1 g1, fun hn => ?_, fun k hk => ⟨fun q hq => ?_, fun hl => ?_⟩⟩
  · obtain ⟨a1, a2, a3⟩ := h2 hn
    obtain ⟨b1, b2, b3⟩ := g2 (by rw [a1]; exact hn)
    exact ⟨b1.trans a1, b2.trans a2, b3.trans a3⟩
  · by_cases hk1 : k < l1.length
    · rw [List.getElem?_append_left hk1] at hq
      obtain ⟨a1, a2, a3⟩ := (h3 k hk).1 q hq
      obtain ⟨b1, b2, b3⟩ := g2 (by rw [a1, m1]; omega)
      exact ⟨b1.trans a1, by rw [b2]; exact a2, by rw [b3]; exact a3⟩
    · rw [List.getElem?_append_right (by omega)] at hq
      obtain ⟨a1, a2, a3⟩ := (h3 k hk).2 (by omega)
      exact (g3 (k - l1.length) (by rw [a1]; omega)).1 q hq
  · rw [List.length_append] at hl
    obtain ⟨a1, a2, a3⟩ := (h3 k hk).2 (by omega)
    obtain ⟨b1, b2, b3⟩ := (g3 (k - l1.length) (by rw [a1]; omega)).2 (by omega)
    rw [List.length_append]
    exact ⟨by rw [b1]; omega, b2.trans a2, b3.trans a3⟩
theorem v_seeks (n : Nat) : ∀ (d e : Nat) (σ : ms_T) (f m : Nat) (fI mI : Int32), fI.toInt = (f : Int) → mI.toInt = (m : Int) → m ≤ 2 ^ e → f + m ≤ 48 → pr (f_X12_seeks n d σ fI mI) (fun τ => SKR (prT e f m) σ τ) := by
  intro d
  induction d with
  | zero => intro e σ f m fI mI _ _ _ _; rw [f_X12_seeks.eq_1]; exact pr_0
  | succ d ih =>
    intro e σ f m fI mI hf hm he hfm
    rw [f_X12_seeks.eq_2]
    refine pr_e (fun c => pr_s ?_) (fun c => pr_le (fun c1 => ?_) (fun c1 => pr_s (SKR_neg _ σ (by rw [lt0] at c1; exact c1))))
    · have m0 : m = 0 := by rw [c, lt0] at hm; omega
      rw [m0]
      have : prT e f 0 = [] := by cases e <;> rfl
      rw [this]
      exact SKR_nil σ
    · rw [lt0] at c c1
      have hh := ib_hi (ms_I σ 683)
      have m1 : (-1 : Int32).toInt = -1 := by decide
      have hJ : ∀ (σ' : ms_T), SKR [(f, m)] σ (ms_sI σ' 683 (ms_I σ' 683 - 1)) → pr (f_X12_seeks_J29 n (f_X12_seeks n d) σ' fI mI) (fun τ => SKR (prT e f m) σ τ) := fun σ' hS => by
        unfold f_X12_seeks_J29
        refine pr_l (pr_e (fun q => pr_s ?_) (fun q => ?_))
        · have m1 : m = 1 := by rw [q, lt1] at hm; omega
          subst m1
          have : prT e f 1 = [(f, 1)] := by cases e <;> rfl
          rw [this]
          exact hS
        · rw [lt1] at q
          have hm2 : 2 ≤ m := by omega
          have hp2 := p0_lt hm2
          have hp3 := p0_le (m := m)
          obtain ⟨e, rfl⟩ : ∃ y, e = y + 1 := ⟨e - 1, by
            cases e with
            | zero => rw [Nat.pow_zero] at he; omega
            | succ e => rfl⟩
          have hp := p0_dn hm2 he
          refine pr_b (v_part0 n mI (by omega)) (fun p hp1 => ?_)
          rw [hm, Int.toNat_natCast] at hp1
          refine pr_b (ih e _ f (p0 m) fI p hf hp1 hp (by omega)) (fun τ hτ => pr_b (ih e τ (f + p0 m) (m - p0 m) (fI + p) (mI - p) (by rw [iw_add]; omega) (by rw [iw_sub]; omega) (by omega) (by omega)) (fun υ hυ => pr_s ?_))
          rw [prT, if_neg (by omega), if_neg (by omega)]
          exact SKR_tr hS (SKR_tr hτ hυ)
      refine pr_e (fun z => pr_l (pr_l (hJ _ ?_))) (fun z => hJ σ ?_)
      · refine ⟨fr_tr (fr_sI (by decide)) (fr_tr (fr_sI (by decide)) (fr_sI (by decide))), fun hn => by omega, fun k hk => ?_⟩
        have k0 : k = 0 := by rw [z, lt0] at hk; omega
        subst k0
        refine ⟨fun q hq => ?_, fun hl => by rw [List.length_singleton] at hl; omega⟩
        have hq2 : (f, m) = q := Option.some.inj hq
        rw [← hq2]
        refine ⟨?_, ?_, ?_⟩
        · rw [mI_sI, if_pos rfl, mI_sI, if_neg (by decide), mI_sI, if_neg (by decide), z]; rfl
        · rw [mI_sI, if_neg (by decide), mI_sI, if_neg (by decide), mI_sI, if_pos rfl]; exact hf
        · rw [mI_sI, if_neg (by decide), mI_sI, if_pos rfl]; exact hm
      · rw [lt0] at z
        refine ⟨fr_sI (by decide), fun hn => by omega, fun k hk => ⟨fun q hq => ?_, fun hl => ⟨?_, ?_, ?_⟩⟩⟩
        · have : k < 1 := by have := (List.getElem?_eq_some_iff.mp hq).1; rwa [List.length_singleton] at this
          omega
        · rw [mI_sI, if_pos rfl, iw_sub, lt1, List.length_singleton, hk]; omega
        · rw [mI_sI, if_neg (by decide)]
        · rw [mI_sI, if_neg (by decide)]
abbrev toOK (f : Nat → Int32) (a n k w : Int32) : Prop := (0 ≤ k.toInt ∧ (0 ≤ w.toInt ∧ w.toInt ≤ 2)) ∧ hdOK f a n ∧ k.toInt < 2 * n.toInt - 1
def toV (f : Nat → Int32) (r : Nat) (w : Int32) (q : Nat × Nat) : Int32 := if w = 0 then Int32.ofNat q.1 else if w = 1 then Int32.ofNat q.2 else TMK (f 1) (EL f r) q.1 q.2
def toA (f : Nat → Int32) (a n k w : Int32) : Int32 := if toOK f a n k w then toV f a.toInt.toNat w ((prT 6 0 n.toInt.toNat).getD k.toInt.toNat (0, 0)) else -1
theorem prT_gD {N K : Nat} (hN : N ≤ 48) (hK : K < 2 * N - 1) : (prT 6 0 N)[K]? = some ((prT 6 0 N).getD K (0, 0)) ∧ 1 ≤ ((prT 6 0 N).getD K (0, 0)).2 ∧ ((prT 6 0 N).getD K (0, 0)).1 + ((prT 6 0 N).getD K (0, 0)).2 ≤ N := by
  have h64 : (2 : Nat) ^ 6 = 64 := by decide
  have hl := prT_len 6 0 N (by omega)
  have hlt : K < (prT 6 0 N).length := by omega
  have e : (prT 6 0 N).getD K (0, 0) = (prT 6 0 N)[K] := by rw [List.getD_eq_getElem?_getD, List.getElem?_eq_getElem hlt]; rfl
  have hi := prT_in 6 0 N (by omega) _ (List.getElem_mem hlt)
  rw [e]
  exact ⟨List.getElem?_eq_getElem hlt, hi.1, by omega⟩
theorem v_treeA (n : Nat) (σ : ms_T) (hC : rC (ms_E σ 40)) (a m k w : Int32) : pr (f_X12_tree n σ a m k w) (fun res => res.1 = toA (ms_E σ 40) a m k w) := by
  have t2 := t_2
  have h4 := hC.1
  have h64 : (2 : Nat) ^ 6 = 64 := by decide
  have bad : ∀ v : Int32, ¬ v = 0 → ¬ toOK (ms_E σ 40) a m k w → pr (f_X12_tree_J25 n σ a m k w v) (fun res => res.1 = toA (ms_E σ 40) a m k w) := fun v hv hno => by
    unfold f_X12_tree_J25 toA
    rw [if_neg hno]
    exact v_is1 n σ v hv (pr_s rfl)
  unfold f_X12_tree f_X12_tree_J15
  refine pr_lt (fun e => bad 1 (by decide) (fun q => by rw [lt0] at e; have := q.1.1; omega)) (fun e => pr_bo (v_isIn n w 0 2) (fun z => bad 1 (by decide) (fun q => z (by rw [lt0, t2]; exact q.1.2))) (fun z => pr_b (v_noSize n σ hC a m) (fun v hv => ?_)))
  rw [lt0] at e
  rw [lt0, t2] at z
  rcases hv with ⟨rfl, ok⟩ | ⟨hv, no⟩
  · have hsz := hC.2.2.2.2.1 a.toInt.toNat (by omega)
    unfold f_X12_tree_J25
    refine v_is0 n σ (pr_l ?_)
    obtain ⟨τ0, hτ0⟩ : ∃ τ, τ = ms_sI (ms_sI (ms_sI σ 653 0) 652 0) 683 k := ⟨_, rfl⟩
    rw [← hτ0]
    have k683 : ms_I τ0 683 = k := by rw [hτ0, mI_sI, if_pos rfl]
    refine pr_b (v_seeks n 40 6 τ0 0 m.toInt.toNat 0 m rfl (by omega) (by omega) (by omega)) (fun τ hτ => ?_)
    obtain ⟨s1, -, s3⟩ := hτ
    have eC : ms_E τ 40 = ms_E σ 40 := by rw [show ms_E τ 40 = ms_E τ0 40 from funext (fun j => s1.2 40 (by decide) j), hτ0]; rfl
    have hs := s3 k.toInt.toNat (by rw [k683]; omega)
    have hl := prT_len 6 0 m.toInt.toNat (by omega)
    have m1 : (-1 : Int32).toInt = -1 := by decide
    by_cases hk : k.toInt < 2 * m.toInt - 1
    · have ok2 : toOK (ms_E σ 40) a m k w := ⟨⟨e, z⟩, ok, hk⟩
      obtain ⟨g1, g2, g3⟩ := prT_gD (N := m.toInt.toNat) (K := k.toInt.toNat) (by omega) (by omega)
      obtain ⟨b1, b2, b3⟩ := hs.1 _ g1
      unfold toA toV
      rw [if_pos ok2]
      refine pr_lt (fun c => pr_i (fun w0 => pr_s ?_) (fun w0 => pr_i (fun w1 => pr_s ?_) (fun w1 => ?_))) (fun c => by rw [b1, m1, lt0] at c; omega)
      · rw [if_pos w0]; exact i_ofN b2
      · rw [if_neg w0, if_pos w1]; exact i_ofN b3
      · rw [if_neg w0, if_neg w1]
        refine pr_b (v_treeMark n τ (by rw [eC]; exact hC) a.toInt.toNat (by omega) a (by omega) 40 6 _ _ _ _ b2 b3 g2 (by omega) (by rw [EL_len, eC]; omega) (by rw [EL_len, eC]; omega)) (fun v hv => pr_s ?_)
        rw [eC] at hv
        unfold TMK
        rw [if_neg (by omega)]
        exact hv
    · unfold toA
      rw [if_neg (show ¬ toOK (ms_E σ 40) a m k w from fun q => hk q.2.2)]
      obtain ⟨b1, -, -⟩ := hs.2 (by omega)
      refine pr_lt (fun c => by rw [lt0] at c; omega) (fun c => pr_c (v_refuse n τ 5) (fun r υ hr => pr_s hr))
  · exact bad v hv (fun q => no q.2.1)
theorem k_toTree_L (n : Nat) (a : Nat) (α : hp_T) (hW : WC α a []) : ∀ (e d f m k : Nat) (fI mI kI dI : Int32), fI.toInt = (f : Int) → mI.toInt = (m : Int) → kI.toInt = (k : Int) → 0 ≤ dI.toInt → dI.toInt + e < 40 → k < 2 * m - 1 → m ≤ 2 ^ e → f + m ≤ 48 → e + 1 ≤ d → ws (f_X8_toTree_L15 n a d α fI mI kI dI) (fun β => ∃ q, (prT e f m)[k]? = some q ∧ WC β a [(q.1, q.2, false)] ∧ wf a α β) := by
  intro e
  induction e with
  | zero =>
    intro d f m k fI mI kI dI hf hm hk hd hd2 hkm he hfm hd3
    obtain ⟨d, rfl⟩ : ∃ y, d = y + 1 := ⟨d - 1, by omega⟩
    have t40 : (40 : Int32).toInt = 40 := by decide
    rw [Nat.pow_zero] at he
    rw [f_X8_toTree_L15.eq_2]
    unfold f_X8_toTree_J82
    refine ws_le (fun z => by omega) (fun _ => ws_le (fun _ => ?_) (fun z => by rw [lt0] at z; omega))
    refine ws_b (k_put8 n α a [] hW (by decide) (f, m, false) fI mI 0 hf hm rfl) (fun β hβ => ws_s ⟨(f, m), ?_, hβ.1, hβ.2⟩)
    rw [prT, if_neg (by omega), show k = 0 by omega]; rfl
  | succ e ih =>
    intro d f m k fI mI kI dI hf hm hk hd hd2 hkm he hfm hd3
    obtain ⟨d, rfl⟩ : ∃ y, d = y + 1 := ⟨d - 1, by omega⟩
    have t40 : (40 : Int32).toInt = 40 := by decide
    have t2 := t_2
    rw [f_X8_toTree_L15.eq_2]
    unfold f_X8_toTree_J82 f_X8_toTree_J76
    refine ws_le (fun z => by omega) (fun _ => ws_le (fun z => ?_) (fun z => ?_))
    · rw [lt0] at z
      refine ws_b (k_put8 n α a [] hW (by decide) (f, m, false) fI mI 0 hf hm rfl) (fun β hβ => ws_s ⟨(f, m), ?_, hβ.1, hβ.2⟩)
      rw [prT, if_neg (by omega), show k = 0 by omega]
      split <;> rfl
    · rw [lt0] at z
      have hm2 : 2 ≤ m := by omega
      have hp2 := p0_lt hm2
      have hp3 := p0_le (m := m)
      have hp4 := p0_pos m
      have hp := p0_dn hm2 he
      have e1 : (dI + 1).toInt = dI.toInt + 1 := by rw [iw_add, lt1]; omega
      have hA := prT_len e f (p0 m) hp
      refine ws_b (k_first n mI (by omega)) (fun p hp1 => ?_)
      rw [hm, Int.toNat_natCast] at hp1
      have h2p : ((2 : Int32) * p).toInt = 2 * (p0 m : Int) := by rw [iw_mul, t2, hp1]; omega
      have h2p1 : ((2 : Int32) * p - 1).toInt = 2 * (p0 m : Int) - 1 := by rw [iw_sub, h2p, lt1]; omega
      have hget : (prT (e + 1) f m)[k]? = if k - 1 < 2 * p0 m - 1 then (prT e f (p0 m))[k - 1]? else (prT e (f + p0 m) (m - p0 m))[k - 2 * p0 m]? := by
        rw [prT, if_neg (by omega), if_neg (by omega), List.getElem?_append_right (by rw [List.length_singleton]; omega), List.length_singleton]
        by_cases q : k - 1 < 2 * p0 m - 1
        · rw [if_pos q, List.getElem?_append_left (by omega)]
        · rw [if_neg q, List.getElem?_append_right (by omega), hA, show k - 1 - (2 * p0 m - 1) = k - 2 * p0 m by omega]
      refine ws_lt (fun c => ws_l (ws_l (ws_l (ws_l ?_)))) (fun c => ws_l (ws_l ?_))
      · refine ws_m (ih d (f + p0 m) (m - p0 m) (k - 2 * p0 m) _ _ _ _ (by rw [iw_add]; omega) (by rw [iw_sub]; omega) (by rw [iw_sub, h2p]; omega) (by omega) (by omega) (by omega) (by omega) (by omega) (by omega)) (fun β hβ => ?_)
        obtain ⟨q, h1, h2, h3⟩ := hβ
        exact ⟨q, by rw [hget, if_neg (by omega)]; exact h1, h2, h3⟩
      · have m1 : (-1 : Int32).toInt = -1 := by decide
        refine ws_m (ih d f (p0 m) (k - 1) fI p _ _ hf hp1 (by rw [iw_add, m1]; omega) (by omega) (by omega) (by omega) hp (by omega) (by omega)) (fun β hβ => ?_)
        obtain ⟨q, h1, h2, h3⟩ := hβ
        exact ⟨q, by rw [hget, if_pos (by omega)]; exact h1, h2, h3⟩
theorem k_toTreeA (n : Nat) (hn : 50 ≤ n) (y : Nat) (α : hp_T) (m k : Nat) (mI kI : Int32) (hm : mI.toInt = (m : Int)) (hk : kI.toInt = (k : Int)) (h48 : m ≤ 48) (hkm : k < 2 * m - 1) : ws (f_X8_toTree n α y kI mI) (fun γ => ∃ q, (prT 6 0 m)[k]? = some q ∧ WC γ y [(q.1, q.2, false)] ∧ wf y α γ) := by
  have h64 : (2 : Nat) ^ 6 = 64 := by decide
  have hcl : ws (f_X8_clear n α y) (fun β => WC β y [] ∧ wf y α β) := by
    unfold f_X8_clear
    refine ws_l (ws_l (ws_s ⟨⟨?_, fun k q hk => (by cases hk)⟩, wf_tr (wf_sI (Or.inl rfl)) (wf_sI (Or.inr rfl))⟩))
    rw [hI_sI, if_neg (fun z => absurd z.1 (by decide)), hI_sI, if_pos ⟨rfl, rfl⟩]; rfl
  unfold f_X8_toTree
  refine ws_b hcl (fun β hβ => ?_)
  obtain ⟨hβ1, hβ2⟩ := hβ
  refine ws_m (k_toTree_L n y β hβ1 6 n 0 m k 0 mI kI 0 rfl hm hk (by decide) (by decide) hkm (by omega) (by omega) (by omega)) (fun γ hγ => ?_)
  obtain ⟨q, g1, g2, g3⟩ := hγ
  exact ⟨q, g1, g2, wf_tr hβ2 g3⟩
theorem k_treeA (n : Nat) (hn : 70000 ≤ n) (α : hp_T) (x : Nat) (f : Nat → Int32) (hC : rC f) (h : RWX α x f) (a m k w : Int32) : ws (f_X11_tree n α x a m k w) (fun res => res.1 = toA f a m k w) := by
  obtain ⟨W, u, h1, h2, h3, h4, -⟩ := h
  have hm := h4.2.1.1
  have hm0 := hC.2.1
  have h44 := hC.1
  have t2 := t_2
  have h64 : (2 : Nat) ^ 6 = 64 := by decide
  have bad : ∀ v : Int32, ¬ toOK f a m k w → ws (hq_c (f_X11_refuse n α x v) fun r β => some (r, β)) (fun res => res.1 = toA f a m k w) := fun v hno => by
    unfold toA
    rw [if_neg hno]
    exact ws_hc (k_refuse n α x v) (fun z γ hz => ws_s hz.1)
  unfold f_X11_tree f_X11_tree_J15 f_X11_tree_J137 f_X11_wrongGrowth
  refine ws_lt (fun e => bad 1 (fun q => by rw [lt0] at e; have := q.1.1; omega)) (fun e => ws_lt (fun e2 => bad 1 (fun q => by rw [lt0] at e2; have := q.1.2.1; omega)) (fun e2 => ws_le (fun e3 => ws_l ?_) (fun e3 => bad 1 (fun q => by rw [t2] at e3; have := q.1.2.2; omega))))
  rw [lt0] at e e2
  rw [t2] at e3
  rw [h1]
  refine ws_b (k_logAt n h4 hC a) (fun o ho => ?_)
  by_cases hr : 0 ≤ a.toInt ∧ a.toInt < (f 0).toInt
  · rw [if_pos hr] at ho
    subst ho
    have q152 := (h4.2.2.1 a.toInt.toNat (by omega)).1
    have hsz := hC.2.2.2.2.1 a.toInt.toNat (by omega)
    refine ws_hS ?_
    refine ws_b (S := fun v => (v = 0 ∧ hdOK f a m) ∨ (¬ v = 0 ∧ ¬ hdOK f a m)) (ws_hS (ws_lt (fun e => absurd e (by decide)) (fun _ => ws_le (fun e => ws_l ?_) (fun e => ws_s (Or.inr ⟨by decide, fun q => by rw [lt0] at e; have := q.1; omega⟩))))) (fun v hv => ?_)
    · rw [lt0] at e
      rw [q152]
      exact ws_le (fun e2 => ws_s (Or.inl ⟨rfl, e, hr, e2⟩)) (fun e2 => ws_s (Or.inr ⟨by decide, fun q => by have := q.2.2; omega⟩))
    · rcases hv with ⟨rfl, ok⟩ | ⟨hv, no⟩
      · have hok1 := ok.1
        have hok3 := ok.2.2
        have h2m : ((2 : Int32) * m - 2).toInt = 2 * m.toInt - 2 := by rw [iw_sub, iw_mul, t2]; omega
        refine ws_i (fun _ => ws_le (fun c => ws_l ?_) (fun c => bad 5 (fun q => by have := q.2.2; omega))) (fun q => absurd rfl q)
        rw [h2m] at c
        have ok2 : toOK f a m k w := ⟨⟨e, e2, e3⟩, ok, by omega⟩
        obtain ⟨y, hy⟩ : ∃ y, y = hp_R α 612 x := ⟨_, rfl⟩
        rw [← hy]
        · refine ws_b (k_toTreeA n (by omega) y α m.toInt.toNat k.toInt.toNat m k (by omega) (by omega) (by omega) (by omega)) (fun γ hγ => ?_)
          obtain ⟨q, g1, g2, hwf⟩ := hγ
          obtain ⟨i1, i2, i3⟩ := prT_gD (N := m.toInt.toNat) (K := k.toInt.toNat) (by omega) (by omega)
          rw [g1] at i1
          have hq := Option.some.inj i1
          rw [← hq] at i2 i3
          have y6 : hp_R γ 612 x = y := by rw [hwf.1]; exact hy.symm
          have kf := k_firstAt n γ y [(q.1, q.2, false)] g2 (Nat.le_of_ble_eq_true rfl) 0 0 rfl (Nat.lt_of_lt_of_le Nat.zero_lt_one (Nat.le_of_ble_eq_true rfl))
          have km := k_manyAt n γ y [(q.1, q.2, false)] g2 (Nat.le_of_ble_eq_true rfl) 0 0 rfl (Nat.lt_of_lt_of_le Nat.zero_lt_one (Nat.le_of_ble_eq_true rfl))
          unfold toA toV
          rw [if_pos ok2, ← hq]
          refine ws_i (fun w0 => ws_l ?_) (fun w0 => ws_i (fun w1 => ws_l ?_) (fun w1 => ws_l (ws_l ?_)))
          · rw [y6]
            refine ws_b kf (fun r hr1 => ws_hc (k_answer n γ x r) (fun z δ hz => ws_s ?_))
            rw [if_pos w0]
            exact hz.1.trans (i_ofN hr1)
          · rw [y6]
            refine ws_b km (fun r hr1 => ws_hc (k_answer n γ x r) (fun z δ hz => ws_s ?_))
            rw [if_neg w0, if_pos w1]
            exact hz.1.trans (i_ofN hr1)
          · have x6 : hp_R γ 601 x = W := by rw [hwf.1]; exact h1
            have hWγ : WR γ W f := WR_f h4 hC hwf.1 hwf.2.2.1 (fun φ b _ _ hφ => hwf.2.2.2.2.1 φ b (fun z => by omega)) (fun κ b j _ _ hκ => hwf.2.2.2.2.2 κ b j (fun z => by omega))
            rw [x6, y6]
            refine ws_b kf (fun r hr1 => ws_l (ws_b km (fun s hs1 => ?_)))
            refine ws_hc (k_treeMark n hn W γ (f 1) (by omega) hWγ.2.1.1 (lpA W a.toInt.toNat) (EL f a.toInt.toNat) (WR_LM hWγ hC (by omega)) q.1 q.2 (by rw [EL_len]; omega) r s hr1 hs1) (fun v δ hδ => ws_hc (k_answer n δ x v) (fun z ε hz => ws_s ?_))
            rw [if_neg w0, if_neg w1]
            exact hz.1.trans hδ.1
      · exact ws_i (fun q => absurd q hv) (fun _ => bad v (fun q => no q.2.1))
  · rw [if_neg hr] at ho
    subst ho
    refine ws_hN ?_
    refine ws_b (S := fun v => ¬ v = 0) (ws_hN (ws_lt (fun e => absurd e (by decide)) (fun _ => ws_le (fun e => ws_s (by decide)) (fun e => ws_s (by decide))))) (fun v hv => ?_)
    exact ws_i (fun q => absurd q hv) (fun _ => bad v (fun q => hr q.2.1.2.1))
end JN9_25
section JN9_26
set_option maxRecDepth 100000
abbrev pvOK (f : Nat → Int32) (a b : Int32) : Prop := (0 ≤ a.toInt ∧ 0 ≤ b.toInt) ∧ (a.toInt < (f 3).toInt ∧ b.toInt < (f 3).toInt) ∧ (f (93 + 10 * a.toInt.toNat)).toInt ≤ (f (93 + 10 * b.toInt.toNat)).toInt
def pvA (f : Nat → Int32) (a b : Int32) : Int32 := if pvOK f a b then WBR (f 1) (EL f (f (92 + 10 * b.toInt.toNat)).toInt.toNat) (f (93 + 10 * a.toInt.toNat)).toInt.toNat (f (94 + 10 * a.toInt.toNat)) (f (93 + 10 * b.toInt.toNat)).toInt.toNat (f (94 + 10 * b.toInt.toNat)) else -1
theorem v_proves (n : Nat) (σ : ms_T) (hC : rC (ms_E σ 40)) (hF : FRI (ms_E σ 40)) (a b : Int32) : pr (f_X12_proves n σ a b) (fun res => res.1 = pvA (ms_E σ 40) a b) := by
  have h16 := hC.2.2.2.1
  have h4 := hC.1
  have c3 : ((3 : Int32)).toNatClampNeg = 3 := by decide
  have bad : ∀ v : Int32, ¬ v = 0 → ¬ pvOK (ms_E σ 40) a b → pr (f_X12_proves_J57 n σ a b v) (fun res => res.1 = pvA (ms_E σ 40) a b) := fun v hv hno => by
    unfold f_X12_proves_J57 pvA
    rw [if_neg hno]
    exact v_is1 n σ v hv (pr_s rfl)
  unfold f_X12_proves f_X12_proves_J9 f_X12_proves_J33
  rw [c3]
  refine pr_lt (fun e => bad 1 (by decide) (fun q => by rw [lt0] at e; have := q.1.1; omega)) (fun e => pr_le (fun e2 => pr_g (fun _ _ => ?_)) (fun e2 => bad 1 (by decide) (fun q => by rw [lt0] at e2; have := q.1.2; omega)))
  rw [lt0] at e e2
  refine pr_le (fun c => bad 5 (by decide) (fun q => by have := q.2.1.1; omega)) (fun c => pr_g (fun _ _ => pr_lt (fun c2 => ?_) (fun c2 => bad 5 (by decide) (fun q => by have := q.2.1.2; omega))))
  have s1 : ∀ i : Nat, 92 + 10 * i + 0 = 92 + 10 * i := fun i => by omega
  have s2 : ∀ i : Nat, 92 + 10 * i + 1 = 93 + 10 * i := fun i => by omega
  have s3 : ∀ i : Nat, 92 + 10 * i + 2 = 94 + 10 * i := fun i => by omega
  have ha : a.toInt.toNat < 16 := by omega
  have hb : b.toInt.toNat < 16 := by omega
  have qa : a.toInt = ((a.toInt.toNat : Nat) : Int) := by omega
  have qb : b.toInt = ((b.toInt.toNat : Nat) : Int) := by omega
  refine pr_b (v_froze n σ a.toInt.toNat ha a qa 1 (by omega) 1 rfl) (fun v1 hv1 => pr_b (v_froze n σ b.toInt.toNat hb b qb 1 (by omega) 1 rfl) (fun v2 hv2 => ?_))
  rw [hv1, hv2, s2, s2]
  refine pr_le (fun c4 => ?_) (fun c4 => bad 5 (by decide) (fun q => by have := q.2.2; omega))
  have ok : pvOK (ms_E σ 40) a b := ⟨⟨e, e2⟩, ⟨c, c2⟩, c4⟩
  unfold f_X12_proves_J57 pvA
  rw [if_pos ok]
  refine v_is0 n σ ?_
  obtain ⟨τ, hτ⟩ : ∃ τ, τ = ms_sI (ms_sI σ 653 0) 652 0 := ⟨_, rfl⟩
  have eC : ms_E τ 40 = ms_E σ 40 := by rw [hτ]; rfl
  rw [← hτ, ← eC]
  rw [← eC] at hC hF c c2 c4
  obtain ⟨b1, b2⟩ := hF b.toInt.toNat (by omega)
  have b0 := (hC.2.2.2.2.2.2.1 b.toInt.toNat hb).1
  have b3 := hC.2.2.2.2.2.2.2.1 b.toInt.toNat hb
  have a3 := hC.2.2.2.2.2.2.2.1 a.toInt.toNat ha
  have h44 := hC.1
  refine pr_b (v_froze n τ b.toInt.toNat hb b qb 0 (by omega) 0 rfl) (fun w1 hw1 => pr_b (v_froze n τ a.toInt.toNat ha a qa 1 (by omega) 1 rfl) (fun w2 hw2 => pr_b (v_froze n τ a.toInt.toNat ha a qa 2 (by omega) 2 rfl) (fun w3 hw3 => pr_b (v_froze n τ b.toInt.toNat hb b qb 1 (by omega) 1 rfl) (fun w4 hw4 => pr_b (v_froze n τ b.toInt.toNat hb b qb 2 (by omega) 2 rfl) (fun w5 hw5 => ?_)))))
  rw [hw1, hw2, hw3, hw4, hw5, s1, s2, s2, s3, s3]
  refine pr_c (v_whyByRecord n τ hC (ms_E τ 40 (92 + 10 * b.toInt.toNat)).toInt.toNat (by omega) _ (by omega) (ms_E τ 40 (93 + 10 * a.toInt.toNat)).toInt.toNat (ms_E τ 40 (93 + 10 * b.toInt.toNat)).toInt.toNat _ _ _ _ (by omega) (by omega) (by omega) (by rw [EL_len]; omega)) (fun r υ hr => pr_s hr.1)
theorem k_proves (n : Nat) (hn : 70000 ≤ n) (α : hp_T) (x : Nat) (f : Nat → Int32) (hC : rC f) (hF : FRI f) (h : RWX α x f) (a b : Int32) : ws (f_X11_proves n α x a b) (fun res => res.1 = pvA f a b) := by
  obtain ⟨w, u, h1, h2, h3, h4, h5, -⟩ := h
  have h16 := hC.2.2.2.1
  have h44 := hC.1
  have bad : ∀ v : Int32, ¬ pvOK f a b → ws (hq_c (f_X11_refuse n α x v) fun r β => some (r, β)) (fun res => res.1 = pvA f a b) := fun v hno => by
    unfold pvA
    rw [if_neg hno]
    exact ws_hc (k_refuse n α x v) (fun z γ hz => ws_s hz.1)
  unfold f_X11_proves f_X11_proves_J8 f_X11_proves_J54
  refine ws_lt (fun e => bad 1 (fun q => by rw [lt0] at e; have := q.1.1; omega)) (fun e => ws_le (fun e2 => ws_l ?_) (fun e2 => bad 1 (fun q => by rw [lt0] at e2; have := q.1.2; omega)))
  rw [lt0] at e e2
  rw [h1]
  refine ws_b (k_frozenAt n h4 hC a) (fun o ho => ?_)
  by_cases ca : a.toInt < (f 3).toInt
  · rw [if_pos ⟨e, ca⟩] at ho
    subst ho
    refine ws_hS (ws_l (ws_b (k_frozenAt n h4 hC b) (fun o ho => ?_)))
    by_cases cb : b.toInt < (f 3).toInt
    · rw [if_pos ⟨e2, cb⟩] at ho
      subst ho
      obtain ⟨a0, a1, a2, -⟩ := h4.2.2.2.1 a.toInt.toNat (by omega)
      obtain ⟨b0, b1, b2, -⟩ := h4.2.2.2.1 b.toInt.toNat (by omega)
      refine ws_hS (ws_l (ws_l ?_))
      rw [a1, b1]
      refine ws_le (fun c => ws_l (ws_l ?_)) (fun c => bad 5 (fun q => by have := q.2.2; omega))
      have ok : pvOK f a b := ⟨⟨e, e2⟩, ⟨ca, cb⟩, c⟩
      obtain ⟨z1, z2⟩ := hF b.toInt.toNat (by omega)
      have z0 := (hC.2.2.2.2.2.2.1 b.toInt.toNat (by omega)).1
      have z3 := hC.2.2.2.2.2.2.2.1 b.toInt.toNat (by omega)
      have z4 := hC.2.2.2.2.2.2.2.1 a.toInt.toNat (by omega)
      rw [b0]
      refine ws_b (k_logAt n h4 hC _) (fun o ho => ?_)
      rw [if_pos ⟨z0, z1⟩] at ho
      subst ho
      refine ws_hS (ws_l (ws_l (ws_l (ws_l (ws_l ?_)))))
      rw [a2, b2]
      refine ws_hc (k_whyGrown n hn α w f h4 hC h5 (f (92 + 10 * b.toInt.toNat)).toInt.toNat (by omega) (f (93 + 10 * a.toInt.toNat)).toInt.toNat (f (93 + 10 * b.toInt.toNat)).toInt.toNat _ _ _ _ (by omega) (by omega) (by omega)) (fun v β hv => ws_hc (k_answer n β x v) (fun z γ hz => ws_s ?_))
      unfold pvA
      rw [if_pos ok]
      have hv1 := hv.1
      rw [if_pos (by omega)] at hv1
      exact hz.1.trans hv1
    · rw [if_neg (fun q => cb q.2)] at ho
      subst ho
      exact ws_hN (bad 5 (fun q => cb q.2.1.2))
  · rw [if_neg (fun q => ca q.2)] at ho
    subst ho
    refine ws_hN (ws_l (ws_b (k_frozenAt n h4 hC b) (fun o ho => ?_)))
    have hz := bad 5 (fun q => ca q.2.1.1)
    cases o with
    | none => exact ws_hN hz
    | some l => exact ws_hS hz
end JN9_26
section JN9_27
set_option maxRecDepth 100000
def ptW (m : Int32) (La Lb : List Int32) : Nat → Nat → Nat → Nat → Nat × Nat
  | 0, f, _, c => (f, c)
  | d + 1, f, k, c => if k ≤ 1 then (f, c) else if TMK m La f (p0 k) = TMK m Lb f (p0 k) then ptW m La Lb d (f + p0 k) (k - p0 k) (c + 1) else ptW m La Lb d f (p0 k) (c + 1)
theorem v_part_L (n : Nat) (σ : ms_T) (hC : rC (ms_E σ 40)) (a b : Nat) (ha : a < 4) (hb : b < 4) (aI bI wI : Int32) (haI : aI.toInt = (a : Int)) (hbI : bI.toInt = (b : Int)) : ∀ (d e f k c : Nat) (kI fI cI : Int32), kI.toInt = (k : Int) → fI.toInt = (f : Int) → cI.toInt = (c : Int) → f + k ≤ (EL (ms_E σ 40) a).length → f + k ≤ (EL (ms_E σ 40) b).length → k ≤ 2 ^ e → e ≤ 6 → c + e ≤ 6 → pr (f_X12_part_L123 n d σ aI bI wI kI fI cI) (fun res => res.1.toInt = (((if wI = 0 then (ptW (ms_E σ 40 1) (EL (ms_E σ 40) a) (EL (ms_E σ 40) b) e f k c).1 else (ptW (ms_E σ 40 1) (EL (ms_E σ 40) a) (EL (ms_E σ 40) b) e f k c).2) : Nat) : Int)) := by
  intro d
  induction d with
  | zero => intro e f k c kI fI cI _ _ _ _ _ _ _ _; rw [f_X12_part_L123.eq_1]; exact pr_0
  | succ d ih =>
    intro e f k c kI fI cI hk hf hc la lb he he6 hce
    have h48 : (EL (ms_E σ 40) a).length ≤ 48 := by rw [EL_len]; have := hC.2.2.2.2.1 a ha; omega
    have t1 := lt1
    have hend : k ≤ 1 → ptW (ms_E σ 40 1) (EL (ms_E σ 40) a) (EL (ms_E σ 40) b) e f k c = (f, c) := fun h => by
      cases e with
      | zero => rw [ptW]
      | succ e => rw [ptW, if_pos h]
    rw [f_X12_part_L123.eq_2]
    refine pr_le (fun h => ?_) (fun h => ?_)
    · rw [hend (by omega)]
      exact pr_i (fun c0 => pr_s (by rw [if_pos c0]; exact hf)) (fun c0 => pr_s (by rw [if_neg c0]; exact hc))
    · have hk2 : 2 ≤ k := by omega
      cases e with
      | zero => rw [Nat.pow_zero] at he; omega
      | succ e =>
        have p1 := p0_lt hk2
        have p2 := p0_pos k
        have p3 := p0_dn hk2 he
        have p4 := p0_le (m := k)
        have pe : 2 ^ (e + 1) = 2 ^ e + 2 ^ e := by rw [Nat.pow_succ]; omega
        refine pr_b (v_part0 n kI (by omega)) (fun p hp => pr_l ?_)
        rw [hk, Int.toNat_natCast] at hp
        have e1 : (cI + 1).toInt = ((c + 1 : Nat) : Int) := by rw [iw_add, lt1]; omega
        refine pr_b (v_tree n σ hC a ha aI haI f (p0 k) fI p hf hp (by omega)) (fun v1 hv1 => pr_b (v_tree n σ hC b hb bI hbI f (p0 k) fI p hf hp (by omega)) (fun v2 hv2 => ?_))
        unfold f_X12_part_J165 f_X12_part_J180 f_X12_part_J198
        refine pr_i (fun cq => ?_) (fun cq => ?_)
        · have hq : TMK (ms_E σ 40 1) (EL (ms_E σ 40) a) f (p0 k) = TMK (ms_E σ 40 1) (EL (ms_E σ 40) b) f (p0 k) := hv1.symm.trans (cq.trans hv2)
          rw [ptW, if_neg (show ¬ k ≤ 1 by omega), if_pos hq]
          refine pr_i (fun z => absurd z (by decide)) (fun _ => pr_l (pr_i (fun z => absurd z (by decide)) (fun _ => ?_)))
          exact ih e (f + p0 k) (k - p0 k) (c + 1) _ _ _ (by rw [iw_sub]; omega) (by rw [iw_add]; omega) e1 (by omega) (by omega) (by omega) (by omega) (by omega)
        · have hq : ¬ TMK (ms_E σ 40 1) (EL (ms_E σ 40) a) f (p0 k) = TMK (ms_E σ 40 1) (EL (ms_E σ 40) b) f (p0 k) := fun z => cq (hv1.trans (z.trans hv2.symm))
          rw [ptW, if_neg (show ¬ k ≤ 1 by omega), if_neg hq]
          refine pr_i (fun _ => pr_l (pr_i (fun _ => ?_) (fun z => absurd rfl z))) (fun z => absurd rfl z)
          exact ih e f (p0 k) (c + 1) _ _ _ hp (by rw [iw_add, lt0]; omega) e1 (by omega) (by omega) p3 (by omega) (by omega)
theorem k_part_L (n : Nat) (hn : 70000 ≤ n) (w : Nat) (m : Int32) (hm : 0 < m.toInt) (ga gb : Nat) (La Lb : List Int32) (wI : Int32) (α0 : hp_T) : ∀ (e f k c q : Nat) (d : Nat) (α : hp_T) (kI fI cI qI : Int32), hp_I α 550 w = m → LM α ga La → LM α gb Lb → jf w α0 α → kI.toInt = (k : Int) → fI.toInt = (f : Int) → cI.toInt = (c : Int) → qI.toInt = (q : Int) → f + k ≤ La.length → f + k ≤ Lb.length → k ≤ 2 ^ e → e ≤ 6 → q + e ≤ 6 → c = q → e + 1 ≤ d → ws (f_X10_partingTrees_L12 n w d α ga gb wI fI kI cI qI) (fun res => res.1.toInt = (((if wI = 0 then (ptW m La Lb e f k c).1 else (ptW m La Lb e f k c).2) : Nat) : Int) ∧ jf w α0 res.2) := by
  intro e
  induction e with
  | zero =>
    intro f k c q d α kI fI cI qI hα ha hb hj hk hf hc hq la lb he he6 hqe hcq hd
    rw [Nat.pow_zero] at he
    obtain ⟨d, rfl⟩ : ∃ z, d = z + 1 := ⟨d - 1, by omega⟩
    have t40 : (40 : Int32).toInt = 40 := by decide
    have t1 := lt1
    rw [f_X10_partingTrees_L12.eq_2, ptW]
    unfold f_X10_partingTrees_J83
    refine ws_le (fun z => by omega) (fun _ => ws_le (fun _ => ?_) (fun z => by omega))
    exact ws_i (fun c0 => ws_s ⟨by rw [if_pos c0]; exact hf, hj⟩) (fun c0 => ws_s ⟨by rw [if_neg c0]; exact hc, hj⟩)
  | succ e ih =>
    intro f k c q d α kI fI cI qI hα ha hb hj hk hf hc hq la lb he he6 hqe hcq hd
    obtain ⟨d, rfl⟩ : ∃ z, d = z + 1 := ⟨d - 1, by omega⟩
    have t40 : (40 : Int32).toInt = 40 := by decide
    have t1 := lt1
    have h48 := ha.1
    rw [f_X10_partingTrees_L12.eq_2, ptW]
    unfold f_X10_partingTrees_J83 f_X10_partingTrees_J77
    refine ws_le (fun z => by omega) (fun _ => ws_le (fun h => ?_) (fun h => ?_))
    · rw [if_pos (show k ≤ 1 by omega)]
      exact ws_i (fun c0 => ws_s ⟨by rw [if_pos c0]; exact hf, hj⟩) (fun c0 => ws_s ⟨by rw [if_neg c0]; exact hc, hj⟩)
    · have hk2 : 2 ≤ k := by omega
      have p1 := p0_lt hk2
      have p2 := p0_pos k
      have p3 := p0_dn hk2 he
      have p4 := p0_le (m := k)
      have pe : 2 ^ (e + 1) = 2 ^ e + 2 ^ e := by rw [Nat.pow_succ]; omega
      rw [if_neg (show ¬ k ≤ 1 by omega)]
      refine ws_b (k_first n kI (by omega)) (fun p hp => ws_l ?_)
      rw [hk, Int.toNat_natCast] at hp
      have e1 : (cI + 1).toInt = ((c + 1 : Nat) : Int) := by rw [iw_add, lt1]; omega
      have e2 : (qI + 1).toInt = ((q + 1 : Nat) : Int) := by rw [iw_add, lt1]; omega
      refine ws_hc (k_treeMark n hn w α m hm hα ga La ha f (p0 k) (by omega) fI p hf hp) (fun v1 β hv1 => ?_)
      have hαβ : hp_I β 550 w = m := by rw [hv1.2.2.2.2.2.1]; exact hα
      refine ws_hc (k_treeMark n hn w β m hm hαβ gb Lb (LM_jf hb hv1.2) f (p0 k) (by omega) fI p hf hp) (fun v2 γ hv2 => ?_)
      have hαγ : hp_I γ 550 w = m := by rw [hv2.2.2.2.2.2.1]; exact hαβ
      have haγ := LM_jf (LM_jf ha hv1.2) hv2.2
      have hbγ := LM_jf (LM_jf hb hv1.2) hv2.2
      have hjγ := jf_tr hj (jf_tr hv1.2 hv2.2)
      have hw1 : v1 = TMK m La f (p0 k) := hv1.1
      have hw2 : v2 = TMK m Lb f (p0 k) := hv2.1
      refine ws_i (fun cq => ws_l (ws_l (ws_l ?_))) (fun cq => ws_l ?_)
      · rw [if_pos (hw1.symm.trans (cq.trans hw2))]
        exact ih (f + p0 k) (k - p0 k) (c + 1) (q + 1) d γ _ _ _ _ hαγ haγ hbγ hjγ (by rw [iw_sub]; omega) (by rw [iw_add]; omega) e1 e2 (by omega) (by omega) (by omega) (by omega) (by omega) (by omega) (by omega)
      · rw [if_neg (show ¬ TMK m La f (p0 k) = TMK m Lb f (p0 k) from fun z => cq (hw1.trans (z.trans hw2.symm)))]
        exact ih f (p0 k) (c + 1) (q + 1) d γ _ _ _ _ hαγ haγ hbγ hjγ hp hf e1 e2 (by omega) (by omega) p3 (by omega) (by omega) (by omega) (by omega)
abbrev ptOK (f : Nat → Int32) (a b c : Int32) : Prop := (0 ≤ c.toInt ∧ c.toInt ≤ 1) ∧ (0 ≤ a.toInt ∧ a.toInt < (f 0).toInt) ∧ (0 ≤ b.toInt ∧ b.toInt < (f 0).toInt)
def ptN (f : Nat → Int32) (r s : Nat) : Nat := if (f (72 + s)).toInt ≤ (f (72 + r)).toInt then (f (72 + s)).toInt.toNat else (f (72 + r)).toInt.toNat
def ptV (f : Nat → Int32) (r s : Nat) (c : Int32) : Int := if TMK (f 1) (EL f r) 0 (ptN f r s) = TMK (f 1) (EL f s) 0 (ptN f r s) then (if c = 1 then 0 else if f (72 + r) = f (72 + s) then -1 else (ptN f r s : Int)) else (((if c = 0 then (ptW (f 1) (EL f r) (EL f s) 6 0 (ptN f r s) 0).1 else (ptW (f 1) (EL f r) (EL f s) 6 0 (ptN f r s) 0).2) : Nat) : Int)
def ptI (f : Nat → Int32) (a b c : Int32) : Int := if ptOK f a b c then ptV f a.toInt.toNat b.toInt.toNat c else -1
theorem m1_t : ((-1 : Int32)).toInt = -1 := by decide
theorem ptN_r {f : Nat → Int32} (hC : rC f) {r s : Nat} (hr : r < 4) (hs : s < 4) : ptN f r s ≤ (EL f r).length ∧ ptN f r s ≤ (EL f s).length ∧ ptN f r s ≤ 48 := by
  have h1 := hC.2.2.2.2.1 r hr
  have h2 := hC.2.2.2.2.1 s hs
  rw [EL_len, EL_len]
  unfold ptN
  split <;> omega
theorem v_sizeOf2 (n : Nat) (σ : ms_T) (r : Nat) (hr : r < 4) (aI : Int32) (ha : aI.toInt = (r : Int)) : pr (f_X12_sizeOf n σ aI) (fun v => v = ms_E σ 40 (72 + r)) := by
  unfold f_X12_sizeOf
  refine pr_g (fun _ _ => pr_s ?_)
  rw [cl_n (i := (72 : Int32) + aI) (k := 72 + r) (by rw [iw_add, t_72]; omega)]
theorem v_part69 (n : Nat) (σ : ms_T) (hC : rC (ms_E σ 40)) (r s : Nat) (hr : r < 4) (hs : s < 4) (a b c : Int32) (ha : a.toInt = (r : Int)) (hb : b.toInt = (s : Int)) (hc : 0 ≤ c.toInt ∧ c.toInt ≤ 1) (nI : Int32) (hn : nI.toInt = (ptN (ms_E σ 40) r s : Int)) : pr (f_X12_part_J69 n σ a b c nI) (fun res => res.1.toInt = ptV (ms_E σ 40) r s c) := by
  obtain ⟨q1, q2, q3⟩ := ptN_r hC hr hs
  unfold f_X12_part_J69 ptV
  refine pr_b (v_headOf n σ hC r hr a ha (ptN (ms_E σ 40) r s) nI hn q1) (fun v1 hv1 => pr_b (v_headOf n σ hC s hs b hb (ptN (ms_E σ 40) r s) nI hn q2) (fun v2 hv2 => pr_i (fun e => ?_) (fun e => ?_)))
  · rw [if_pos (hv1.symm.trans (e.trans hv2))]
    refine pr_i (fun c1 => pr_s (by rw [if_pos c1]; rfl)) (fun c1 => ?_)
    rw [if_neg c1]
    refine pr_b (v_sizeOf2 n σ r hr a ha) (fun z1 hz1 => pr_b (v_sizeOf2 n σ s hs b hb) (fun z2 hz2 => pr_i (fun e2 => pr_s ?_) (fun e2 => pr_s ?_)))
    · rw [if_pos (hz1.symm.trans (e2.trans hz2))]; exact m1_t
    · rw [if_neg (fun q => e2 (hz1.trans (q.trans hz2.symm)))]; exact hn
  · rw [if_neg (fun q => e (hv1.trans (q.trans hv2.symm)))]
    exact v_part_L n σ hC r s hr hs a b c ha hb n 6 0 (ptN (ms_E σ 40) r s) 0 nI 0 0 hn rfl rfl (by omega) (by omega) (by omega) (by omega) (by omega)
theorem v_part (n : Nat) (σ : ms_T) (hC : rC (ms_E σ 40)) (a b c : Int32) : pr (f_X12_part n σ a b c) (fun res => res.1.toInt = ptI (ms_E σ 40) a b c) := by
  have h4 := hC.1
  have t1 := lt1
  unfold f_X12_part f_X12_part_J30 f_X12_part_J35 ptI
  refine pr_bo (v_isIn n c 0 1) (fun h0 => v_is1 n σ 1 (by decide) (pr_s ?_)) (fun h1 => pr_bo (pr_w (s_isRecord hC a)) (fun h0 => v_is1 n σ 2 (by decide) (pr_s ?_)) (fun h2 => pr_bo (pr_w (s_isRecord hC b)) (fun h0 => v_is1 n σ 2 (by decide) (pr_s ?_)) (fun h3 => v_is0 n σ ?_)))
  · rw [lt0, t1] at h0
    rw [if_neg (fun q => h0 q.1)]; exact m1_t
  · rw [if_neg (fun q => h0 q.2.1)]; exact m1_t
  · rw [if_neg (fun q => h0 q.2.2)]; exact m1_t
  · rw [lt0, t1] at h1
    rw [if_pos ⟨h1, h2, h3⟩]
    have hr : a.toInt.toNat < 4 := by omega
    have hs : b.toInt.toNat < 4 := by omega
    have g1 := hC.2.2.2.2.1 a.toInt.toNat hr
    have g2 := hC.2.2.2.2.1 b.toInt.toNat hs
    have fin := fun nI hn => v_part69 n (ms_sI (ms_sI σ 653 0) 652 0) hC a.toInt.toNat b.toInt.toNat hr hs a b c (by omega) (by omega) h1 nI hn
    refine pr_b (v_sizeOf2 n _ a.toInt.toNat hr a (by omega)) (fun z1 hz1 => pr_b (v_sizeOf2 n _ b.toInt.toNat hs b (by omega)) (fun z2 hz2 => ?_))
    have hz1' : z1 = ms_E σ 40 (72 + a.toInt.toNat) := hz1
    have hz2' : z2 = ms_E σ 40 (72 + b.toInt.toNat) := hz2
    refine pr_le (fun e => pr_b (v_sizeOf2 n _ b.toInt.toNat hs b (by omega)) (fun z hz => fin z ?_)) (fun e => pr_b (v_sizeOf2 n _ a.toInt.toNat hr a (by omega)) (fun z hz => fin z ?_))
    · have hz' : z = ms_E σ 40 (72 + b.toInt.toNat) := hz
      rw [hz1', hz2'] at e
      show z.toInt = (ptN (ms_E σ 40) a.toInt.toNat b.toInt.toNat : Int)
      unfold ptN
      rw [if_pos e, hz']; omega
    · have hz' : z = ms_E σ 40 (72 + a.toInt.toNat) := hz
      rw [hz1', hz2'] at e
      show z.toInt = (ptN (ms_E σ 40) a.toInt.toNat b.toInt.toNat : Int)
      unfold ptN
      rw [if_neg (by omega), hz']; omega
theorem k_part (n : Nat) (hn : 70000 ≤ n) (α : hp_T) (x : Nat) (f : Nat → Int32) (hC : rC f) (h : RWX α x f) (a b c : Int32) : ws (f_X11_part n α x a b c) (fun res => res.1.toInt = ptI f a b c) := by
  have h4' := hC.1
  have hm0 := hC.2.1
  have t1 := lt1
  obtain ⟨w, u, h1, h2, h3, h4, -⟩ := h
  have bad : ∀ v : Int32, ¬ ptOK f a b c → ws (hq_c (f_X11_refuse n α x v) fun r β => some (r, β)) (fun res => res.1.toInt = ptI f a b c) := fun v hno => by
    unfold ptI
    rw [if_neg hno]
    exact ws_hc (k_refuse n α x v) (fun z γ hz => ws_s (by rw [show z = -1 from hz.1]; exact m1_t))
  unfold f_X11_part f_X11_part_J9 f_X11_part_J45 f_X11_part_J81
  refine ws_lt (fun e => bad 1 (fun q => by rw [lt0] at e; have := q.1; omega)) (fun e0 => ws_le (fun e1 => ws_l ?_) (fun e => bad 1 (fun q => by have := q.1; omega)))
  rw [lt0] at e0
  rw [t1] at e1
  rw [h1]
  refine ws_b (k_logAt n h4 hC a) (fun o ho => ?_)
  by_cases hra : 0 ≤ a.toInt ∧ a.toInt < (f 0).toInt
  · rw [if_pos hra] at ho
    subst ho
    refine ws_hS (ws_l (ws_b (k_logAt n h4 hC b) (fun o ho => ?_)))
    by_cases hrb : 0 ≤ b.toInt ∧ b.toInt < (f 0).toInt
    · rw [if_pos hrb] at ho
      subst ho
      have hr : a.toInt.toNat < 4 := by omega
      have hs : b.toInt.toNat < 4 := by omega
      have g1 := hC.2.2.2.2.1 a.toInt.toNat hr
      have g2 := hC.2.2.2.2.1 b.toInt.toNat hs
      have qa := (h4.2.2.1 a.toInt.toNat (by omega)).1
      have qb := (h4.2.2.1 b.toInt.toNat (by omega)).1
      have La := WR_LM h4 hC (r := a.toInt.toNat) (by omega)
      have Lb := WR_LM h4 hC (r := b.toInt.toNat) (by omega)
      obtain ⟨n1, n2, n3⟩ := ptN_r hC hr hs
      have hmin : ws (f_J9_min_7cf53 n (f (72 + a.toInt.toNat)) (f (72 + b.toInt.toNat))) (fun v => v.toInt = (ptN f a.toInt.toNat b.toInt.toNat : Int)) := by
        unfold f_J9_min_7cf53 ptN
        refine ws_lt (fun e => ws_s ?_) (fun e => ws_s ?_)
        · rw [if_pos (by omega)]; omega
        · by_cases ee : (f (72 + b.toInt.toNat)).toInt ≤ (f (72 + a.toInt.toNat)).toInt
          · rw [if_pos ee]; omega
          · rw [if_neg ee]; omega
      have ok : ptOK f a b c := ⟨⟨e0, e1⟩, hra, hrb⟩
      have fin : ∀ (v : Int32) (β : hp_T), v.toInt = ptV f a.toInt.toNat b.toInt.toNat c → ws (hq_c (f_X11_answer n β x v) fun r β => some (r, β)) (fun res => res.1.toInt = ptI f a b c) := fun v β hv => by
        unfold ptI
        rw [if_pos ok]
        exact ws_hc (k_answer n β x v) (fun z γ hz => ws_s (by rw [show z = v from hz.1]; exact hv))
      refine ws_hS (ws_i (fun c0 => ws_l ?_) (fun c0 => ws_l ?_))
      · unfold f_X10_partingEntry f_X10_partingTrees
        refine ws_hc (T := fun p => p.1.toInt = ptV f a.toInt.toNat b.toInt.toNat c) (ws_l (ws_l ?_)) (fun v β hv => fin v β hv)
        rw [qa, qb]
        refine ws_b hmin (fun v hv => ws_hc (k_headOf n hn w α (f 1) (by omega) h4.2.1.1 _ _ La (ptN f a.toInt.toNat b.toInt.toNat) n1 v hv) (fun v1 β hv1 => ?_))
        have hβ := WR_jf h4 hC hv1.2
        refine ws_hc (k_headOf n hn w β (f 1) (by omega) hβ.2.1.1 _ _ (LM_jf Lb hv1.2) (ptN f a.toInt.toNat b.toInt.toNat) n2 v hv) (fun v2 γ hv2 => ?_)
        have hγ := WR_jf hβ hC hv2.2
        have w1 : v1 = TMK (f 1) (EL f a.toInt.toNat) 0 (ptN f a.toInt.toNat b.toInt.toNat) := hv1.1
        have w2 : v2 = TMK (f 1) (EL f b.toInt.toNat) 0 (ptN f a.toInt.toNat b.toInt.toNat) := hv2.1
        unfold ptV
        refine ws_i (fun e => ws_l (ws_l ?_)) (fun e => ?_)
        · rw [(hγ.2.2.1 a.toInt.toNat (by omega)).1, (hγ.2.2.1 b.toInt.toNat (by omega)).1, if_pos (w1.symm.trans (e.trans w2)), if_neg (show ¬ c = 1 by rw [c0]; decide)]
          exact ws_i (fun e2 => ws_s (by rw [if_pos e2]; exact m1_t)) (fun e2 => ws_s (by rw [if_neg e2]; exact hv))
        · rw [if_neg (fun q => e (w1.trans (q.trans w2.symm))), if_pos c0]
          have := k_part_L n hn w (f 1) (by omega) (lpA w a.toInt.toNat) (lpA w b.toInt.toNat) (EL f a.toInt.toNat) (EL f b.toInt.toNat) 0 γ 6 0 (ptN f a.toInt.toNat b.toInt.toNat) 0 0 n γ v 0 0 0 hγ.2.1.1 (LM_jf (LM_jf La hv1.2) hv2.2) (LM_jf (LM_jf Lb hv1.2) hv2.2) ⟨rfl, rfl, rfl, rfl, rfl, fun _ _ _ _ => rfl⟩ hv rfl rfl rfl (by omega) (by omega) (by omega) (by omega) (by omega) rfl (by omega)
          rw [if_pos rfl] at this
          exact ws_hc this (fun v β hv => ws_s hv.1)
      · have hc1 : c = 1 := by
          have : ¬ c.toInt = 0 := fun q => c0 (Int32.toInt_inj.mp (by rw [q]; rfl))
          exact Int32.toInt_inj.mp (by rw [t1]; omega)
        unfold f_X10_partingCompared f_X10_partingTrees
        refine ws_hc (T := fun p => p.1.toInt = ptV f a.toInt.toNat b.toInt.toNat c) (ws_l (ws_l ?_)) (fun v β hv => fin v β hv)
        rw [qa, qb]
        refine ws_b hmin (fun v hv => ws_hc (k_headOf n hn w α (f 1) (by omega) h4.2.1.1 _ _ La (ptN f a.toInt.toNat b.toInt.toNat) n1 v hv) (fun v1 β hv1 => ?_))
        have hβ := WR_jf h4 hC hv1.2
        refine ws_hc (k_headOf n hn w β (f 1) (by omega) hβ.2.1.1 _ _ (LM_jf Lb hv1.2) (ptN f a.toInt.toNat b.toInt.toNat) n2 v hv) (fun v2 γ hv2 => ?_)
        have hγ := WR_jf hβ hC hv2.2
        have w1 : v1 = TMK (f 1) (EL f a.toInt.toNat) 0 (ptN f a.toInt.toNat b.toInt.toNat) := hv1.1
        have w2 : v2 = TMK (f 1) (EL f b.toInt.toNat) 0 (ptN f a.toInt.toNat b.toInt.toNat) := hv2.1
        unfold ptV
        refine ws_i (fun e => ws_s ?_) (fun e => ?_)
        · rw [if_pos (w1.symm.trans (e.trans w2)), if_pos hc1]; rfl
        · rw [if_neg (fun q => e (w1.trans (q.trans w2.symm))), if_neg c0]
          have := k_part_L n hn w (f 1) (by omega) (lpA w a.toInt.toNat) (lpA w b.toInt.toNat) (EL f a.toInt.toNat) (EL f b.toInt.toNat) 1 γ 6 0 (ptN f a.toInt.toNat b.toInt.toNat) 0 0 n γ v 0 0 0 hγ.2.1.1 (LM_jf (LM_jf La hv1.2) hv2.2) (LM_jf (LM_jf Lb hv1.2) hv2.2) ⟨rfl, rfl, rfl, rfl, rfl, fun _ _ _ _ => rfl⟩ hv rfl rfl rfl (by omega) (by omega) (by omega) (by omega) (by omega) rfl (by omega)
          rw [if_neg (by decide)] at this
          exact ws_hc this (fun v β hv => ws_s hv.1)
    · rw [if_neg hrb] at ho
      subst ho
      exact ws_hN (bad 2 (fun q => hrb q.2.2))
  · rw [if_neg hra] at ho
    subst ho
    refine ws_hN (ws_l (ws_b (k_logAt n h4 hC b) (fun o ho => ?_)))
    have hz := bad 2 (fun q => hra q.2.1)
    rcases o with _ | o
    · exact ws_hN hz
    · exact ws_hS hz
end JN9_27
section JN9_28
set_option maxRecDepth 100000
def buN (f : Nat → Int32) (R : Int32) : Nat → Int32
  | 0 => 0
  | k + 1 => if f (92 + 10 * k) = R ∧ ¬ sdP f k then buN f R k + 1 else buN f R k
def blL (f : Nat → Int32) (R : Int32) : Nat → Int32
  | 0 => -1
  | k + 1 => if f (92 + 10 * k) = R ∧ ¬ sdP f k ∧ (blL f R k = -1 ∨ (f (93 + 10 * k)).toInt < (blL f R k).toInt) then f (93 + 10 * k) else blL f R k
def bgS (f : Nat → Int32) (R L S : Int32) : Nat → Int32
  | 0 => S
  | k + 1 => if f (92 + 10 * k) = R ∧ sdP f k ∧ (f (93 + 10 * k)).toInt < L.toInt ∧ (bgS f R L S k).toInt < (f (93 + 10 * k)).toInt then f (93 + 10 * k) else bgS f R L S k
theorem blL_r {f : Nat → Int32} (hC : rC f) (R : Int32) : ∀ k, k ≤ 16 → blL f R k = -1 ∨ 0 ≤ (blL f R k).toInt := by
  intro k
  induction k with
  | zero => intro _; exact Or.inl rfl
  | succ k ih =>
    intro hk
    rw [blL]
    have h9 := hC.2.2.2.2.2.2.2.1 k (by omega)
    split
    · exact Or.inr h9.1
    · exact ih (by omega)
theorem bgS_m {f : Nat → Int32} (hC : rC f) (R S : Int32) : ∀ k, k ≤ 16 → bgS f R (-1) S k = S := by
  intro k
  induction k with
  | zero => intro _; rfl
  | succ k ih =>
    intro hk
    have h9 := hC.2.2.2.2.2.2.2.1 k (by omega)
    have m1 : (-1 : Int32).toInt = -1 := by decide
    rw [bgS, if_neg (fun q => by have := q.2.2.1; rw [m1] at this; omega)]
    exact ih (by omega)
def blA2 (f : Nat → Int32) (R w L : Int32) : Int32 := if w = 0 then L else if w = 1 then bgS f R L (if 0 ≤ L.toInt then 0 else -1) (f 3).toInt.toNat else buN f R (f 3).toInt.toNat
abbrev bmOK (f : Nat → Int32) (a b : Int32) : Prop := (0 ≤ b.toInt ∧ b.toInt ≤ 2) ∧ (0 ≤ a.toInt ∧ a.toInt < (f 0).toInt)
def bmA (f : Nat → Int32) (a b : Int32) : Int32 := if bmOK f a b then blA2 f a b (blL f a (f 3).toInt.toNat) else -1
theorem v_blame_L2 (n : Nat) (σ : ms_T) (hC : rC (ms_E σ 40)) (hF : FRI (ms_E σ 40)) (R w L c S : Int32) : ∀ (d k : Nat) (mI kI : Int32), kI.toInt = (k : Int) → k ≤ (ms_E σ 40 3).toInt.toNat → mI = bgS (ms_E σ 40) R L S k → pr (f_X12_blame_L127 n d σ R w L c mI kI) (fun res => res.1 = if w = 0 then L else if w = 1 then bgS (ms_E σ 40) R L S (ms_E σ 40 3).toInt.toNat else c) := by
  intro d
  induction d with
  | zero => intro k mI kI _ _ _; rw [f_X12_blame_L127.eq_1]; exact pr_0
  | succ d ih =>
    intro k mI kI hk hl hm
    have h16 := hC.2.2.2.1
    have c3 : ((3 : Int32)).toNatClampNeg = 3 := by decide
    rw [f_X12_blame_L127.eq_2, c3]
    refine pr_g (fun _ _ => pr_le (fun e => ?_) (fun e => ?_))
    · have ek : k = (ms_E σ 40 3).toInt.toNat := by omega
      refine pr_i (fun w0 => pr_s (by rw [if_pos w0])) (fun w0 => pr_i (fun w1 => pr_s ?_) (fun w1 => pr_s (by rw [if_neg w0, if_neg w1])))
      rw [if_neg w0, if_pos w1, ← ek]
      exact hm
    · have hkN : k < (ms_E σ 40 3).toInt.toNat := by omega
      have hk16 : k < 16 := by omega
      have e1 : (kI + 1).toInt = ((k + 1 : Nat) : Int) := by rw [iw_add, lt1]; omega
      have nx : ∀ m, m = bgS (ms_E σ 40) R L S (k + 1) → pr (f_X12_blame_L127 n d σ R w L c m (kI + 1)) (fun res => res.1 = if w = 0 then L else if w = 1 then bgS (ms_E σ 40) R L S (ms_E σ 40 3).toInt.toNat else c) := fun m hm => ih (k + 1) m _ e1 (by omega) hm
      have a0 : 92 + 10 * k + 0 = 92 + 10 * k := by omega
      have a1 : 92 + 10 * k + 1 = 93 + 10 * k := by omega
      unfold f_X12_blame_J190
      refine pr_b (v_froze n σ k hk16 kI hk 0 (by omega) 0 rfl) (fun v hv => ?_)
      rw [hv, a0]
      refine pr_i (fun cR => ?_) (fun cR => pr_l (nx _ (by rw [bgS, if_neg (fun q => cR q.1), hm])))
      refine pr_bo (v_isSound n σ hC hF k hkN kI hk) (fun ns => pr_l (nx _ (by rw [bgS, if_neg (fun q => ns q.2.1), hm]))) (fun so => ?_)
      refine pr_b (v_froze n σ k hk16 kI hk 1 (by omega) 1 rfl) (fun v1 hv1 => ?_)
      rw [hv1, a1]
      refine pr_le (fun c1 => pr_l (nx _ (by rw [bgS, if_neg (fun q => by have := q.2.2.1; omega), hm]))) (fun c1 => ?_)
      refine pr_b (v_froze n σ k hk16 kI hk 1 (by omega) 1 rfl) (fun v2 hv2 => ?_)
      rw [hv2, a1]
      refine pr_le (fun c2 => pr_l (nx _ (by rw [hm] at c2; rw [bgS, if_neg (fun q => by have := q.2.2.2; omega), hm]))) (fun c2 => ?_)
      refine pr_b (v_froze n σ k hk16 kI hk 1 (by omega) 1 rfl) (fun v3 hv3 => pr_l (nx _ ?_))
      rw [hm] at c2
      rw [hv3, a1, bgS, if_pos ⟨cR, so, c1, c2⟩]
theorem v_blame_L1 (n : Nat) (σ : ms_T) (hC : rC (ms_E σ 40)) (hF : FRI (ms_E σ 40)) (R w : Int32) : ∀ (d k : Nat) (lI cI kI : Int32), kI.toInt = (k : Int) → k ≤ (ms_E σ 40 3).toInt.toNat → lI = blL (ms_E σ 40) R k → cI = buN (ms_E σ 40) R k → pr (f_X12_blame_L43 n d σ R w lI cI kI) (fun res => res.1 = blA2 (ms_E σ 40) R w (blL (ms_E σ 40) R (ms_E σ 40 3).toInt.toNat)) := by
  intro d
  induction d with
  | zero => intro k lI cI kI _ _ _ _; rw [f_X12_blame_L43.eq_1]; exact pr_0
  | succ d ih =>
    intro k lI cI kI hk hl hL hc
    have h16 := hC.2.2.2.1
    have c3 : ((3 : Int32)).toNatClampNeg = 3 := by decide
    rw [f_X12_blame_L43.eq_2, c3]
    refine pr_g (fun _ _ => pr_le (fun e => ?_) (fun e => ?_))
    · have ek : k = (ms_E σ 40 3).toInt.toNat := by omega
      unfold f_X12_blame_J122 blA2
      rw [← ek, ← hL, ← hc]
      refine pr_le (fun z => ?_) (fun z => ?_)
      · rw [lt0] at z
        rw [if_pos z, ek]
        exact v_blame_L2 n σ hC hF R w lI cI 0 n 0 0 0 rfl (Nat.zero_le _) rfl
      · rw [lt0] at z
        rw [if_neg (show ¬ 0 ≤ lI.toInt by omega), ek]
        exact v_blame_L2 n σ hC hF R w lI cI (-1) n 0 (-1) 0 rfl (Nat.zero_le _) rfl
    · have hkN : k < (ms_E σ 40 3).toInt.toNat := by omega
      have hk16 : k < 16 := by omega
      have e1 : (kI + 1).toInt = ((k + 1 : Nat) : Int) := by rw [iw_add, lt1]; omega
      have nx : ∀ l c, l = blL (ms_E σ 40) R (k + 1) → c = buN (ms_E σ 40) R (k + 1) → pr (f_X12_blame_L43 n d σ R w l c (kI + 1)) (fun res => res.1 = blA2 (ms_E σ 40) R w (blL (ms_E σ 40) R (ms_E σ 40 3).toInt.toNat)) := fun l c h1 h2 => ih (k + 1) l c _ e1 (by omega) h1 h2
      have a0 : 92 + 10 * k + 0 = 92 + 10 * k := by omega
      have a1 : 92 + 10 * k + 1 = 93 + 10 * k := by omega
      unfold f_X12_blame_J107
      refine pr_b (v_froze n σ k hk16 kI hk 0 (by omega) 0 rfl) (fun v hv => ?_)
      rw [hv, a0]
      refine pr_i (fun cR => ?_) (fun cR => pr_l (nx _ _ (by rw [blL, if_neg (fun q => cR q.1), hL]) (by rw [buN, if_neg (fun q => cR q.1), hc])))
      refine pr_bo (v_isSound n σ hC hF k hkN kI hk) (fun ns => pr_l ?_) (fun so => pr_l (nx _ _ (by rw [blL, if_neg (fun q => q.2.1 so), hL]) (by rw [buN, if_neg (fun q => q.2 so), hc])))
      have hbu : cI + 1 = buN (ms_E σ 40) R (k + 1) := by rw [buN, if_pos ⟨cR, ns⟩, hc]
      unfold f_X12_blame_J95 f_X12_blame_J106 f_X12_blame_J107
      refine pr_lt (fun z => ?_) (fun z => ?_)
      · refine pr_b (v_froze n σ k hk16 kI hk 1 (by omega) 1 rfl) (fun v1 hv1 => pr_l (nx _ _ ?_ hbu))
        have hm1 : blL (ms_E σ 40) R k = -1 := by
          rw [lt0, hL] at z
          rcases blL_r hC R k (by omega) with y | y
          · exact y
          · omega
        rw [hv1, a1, blL, if_pos ⟨cR, ns, Or.inl hm1⟩]
      · refine pr_b (v_froze n σ k hk16 kI hk 1 (by omega) 1 rfl) (fun v1 hv1 => ?_)
        rw [hv1, a1]
        rw [lt0, hL] at z
        have hn1 : ¬ blL (ms_E σ 40) R k = -1 := fun y => by rw [y] at z; exact absurd z (by decide)
        refine pr_le (fun y => pr_l (nx _ _ ?_ hbu)) (fun y => ?_)
        · rw [hL] at y
          rw [blL, if_neg (fun q => by rcases q.2.2 with u | u; exact hn1 u; omega), hL]
        · rw [hL] at y
          refine pr_b (v_froze n σ k hk16 kI hk 1 (by omega) 1 rfl) (fun v2 hv2 => pr_l (nx _ _ ?_ hbu))
          rw [hv2, a1, blL, if_pos ⟨cR, ns, Or.inr y⟩]
theorem v_blame (n : Nat) (σ : ms_T) (hC : rC (ms_E σ 40)) (hF : FRI (ms_E σ 40)) (a b : Int32) : pr (f_X12_blame n σ a b) (fun res => res.1 = bmA (ms_E σ 40) a b) := by
  have t2 := t_2
  have bad : ∀ v : Int32, ¬ v = 0 → ¬ bmOK (ms_E σ 40) a b → pr (f_X12_blame_J27 n σ a b v) (fun res => res.1 = bmA (ms_E σ 40) a b) := fun v hv hno => by
    unfold f_X12_blame_J27 bmA
    rw [if_neg hno]
    exact v_is1 n σ v hv (pr_s rfl)
  unfold f_X12_blame
  refine pr_bo (v_isIn n b 0 2) (fun z => bad 1 (by decide) (fun q => z (by rw [lt0, t2]; exact q.1))) (fun z => pr_bo (pr_w (s_isRecord hC a)) (fun y => bad 2 (by decide) (fun q => y q.2)) (fun y => ?_))
  rw [lt0, t2] at z
  unfold f_X12_blame_J27 bmA
  rw [if_pos ⟨z, y⟩]
  exact v_is0 n σ (v_blame_L1 n (ms_sI (ms_sI σ 653 0) 652 0) hC hF a b n 0 (-1) 0 0 rfl (Nat.zero_le _) rfl rfl)
theorem k_max (n : Nat) (a b : Int32) : ws (f_J9_max_7cf53 n a b) (fun r => r = if a.toInt < b.toInt then b else a) := by
  unfold f_J9_max_7cf53
  exact ws_lt (fun e => ws_s (by rw [if_pos e])) (fun e => ws_s (by rw [if_neg (by omega)]))
theorem k_countUnsound_L (n : Nat) (hn : 70000 ≤ n) (w : Nat) (f : Nat → Int32) (hC : rC f) (hF : FRI f) (R : Int32) (α0 : hp_T) : ∀ (d k : Nat) (α : hp_T) (cI kI : Int32), WR α w f → jf w α0 α → kI.toInt = (k : Int) → k ≤ (f 3).toInt.toNat → 17 - k ≤ d → cI = buN f R k → ws (f_X10_countUnsound_L4 n w d α R cI kI) (fun res => res.1 = buN f R (f 3).toInt.toNat ∧ jf w α0 res.2) := by
  intro d
  induction d with
  | zero => intro k α cI kI _ _ _ hl hd; have h16 := hC.2.2.2.1; omega
  | succ d ih =>
    intro k α cI kI h hj hk hl hd hc
    have h16 := hC.2.2.2.1
    rw [f_X10_countUnsound_L4.eq_2]
    refine ws_l ?_
    rw [h.2.1.2.2.1]
    refine ws_le (fun e => ws_s ⟨by show cI = _; rw [hc, show k = (f 3).toInt.toNat by omega], hj⟩) (fun e => ?_)
    have e1 : (kI + 1).toInt = ((k + 1 : Nat) : Int) := by rw [iw_add, lt1]; omega
    have nx : ∀ β, WR β w f → jf w α0 β → ∀ c, c = buN f R (k + 1) → ws (f_X10_countUnsound_L4 n w d β R c (kI + 1)) (fun res => res.1 = buN f R (f 3).toInt.toNat ∧ jf w α0 res.2) := fun β hβ hjβ c hc => ih (k + 1) β c _ hβ hjβ e1 (by omega) (by omega) hc
    refine ws_b (k_frozenAt n h hC kI) (fun o ho => ?_)
    rw [if_pos ⟨by omega, by omega⟩, hk, Int.toNat_natCast] at ho
    subst ho
    obtain ⟨z0, z1, -⟩ := h.2.2.2.1 k (by omega)
    unfold f_X10_countUnsound_J45
    refine ws_hS (ws_l ?_)
    rw [z0]
    refine ws_i (fun cR => ?_) (fun cR => ws_l (nx α h hj _ (by rw [buN, if_neg (fun q => cR q.1), hc])))
    refine ws_hc (k_isSound n hn α w f hC hF h k (by omega)) (fun v β hv => ?_)
    obtain ⟨hb, hj2⟩ := hv
    have hβ := WR_jf h hC hj2
    have hjβ : jf w α0 β := jf_tr hj hj2
    rcases hb with ⟨ev, so⟩ | ⟨ev, so⟩
    · replace ev : v = 1 := ev
      subst ev
      exact ws_i (fun q => absurd q (by decide)) (fun _ => ws_l (nx β hβ hjβ _ (by rw [buN, if_neg (fun q => q.2 so), hc])))
    · replace ev : v = 0 := ev
      subst ev
      exact ws_i (fun _ => ws_l (ws_l (nx β hβ hjβ _ (by rw [buN, if_pos ⟨cR, so⟩, hc])))) (fun q => absurd rfl q)
theorem k_leastUnsound_L (n : Nat) (hn : 70000 ≤ n) (w : Nat) (f : Nat → Int32) (hC : rC f) (hF : FRI f) (R : Int32) (α0 : hp_T) : ∀ (d k : Nat) (α : hp_T) (cI kI : Int32), WR α w f → jf w α0 α → kI.toInt = (k : Int) → k ≤ (f 3).toInt.toNat → 17 - k ≤ d → cI = blL f R k → ws (f_X10_leastUnsound_L4 n w d α R cI kI) (fun res => res.1 = blL f R (f 3).toInt.toNat ∧ jf w α0 res.2) := by
  intro d
  induction d with
  | zero => intro k α cI kI _ _ _ hl hd; have h16 := hC.2.2.2.1; omega
  | succ d ih =>
    intro k α cI kI h hj hk hl hd hc
    have h16 := hC.2.2.2.1
    rw [f_X10_leastUnsound_L4.eq_2]
    refine ws_l ?_
    rw [h.2.1.2.2.1]
    refine ws_le (fun e => ws_s ⟨by show cI = _; rw [hc, show k = (f 3).toInt.toNat by omega], hj⟩) (fun e => ?_)
    have e1 : (kI + 1).toInt = ((k + 1 : Nat) : Int) := by rw [iw_add, lt1]; omega
    have nx : ∀ β, WR β w f → jf w α0 β → ∀ c, c = blL f R (k + 1) → ws (f_X10_leastUnsound_L4 n w d β R c (kI + 1)) (fun res => res.1 = blL f R (f 3).toInt.toNat ∧ jf w α0 res.2) := fun β hβ hjβ c hc => ih (k + 1) β c _ hβ hjβ e1 (by omega) (by omega) hc
    refine ws_b (k_frozenAt n h hC kI) (fun o ho => ?_)
    rw [if_pos ⟨by omega, by omega⟩, hk, Int.toNat_natCast] at ho
    subst ho
    obtain ⟨z0, z1, -⟩ := h.2.2.2.1 k (by omega)
    unfold f_X10_leastUnsound_J56 f_X10_leastUnsound_J62
    refine ws_hS (ws_l ?_)
    rw [z0]
    refine ws_i (fun cR => ?_) (fun cR => ws_l (nx α h hj _ (by rw [blL, if_neg (fun q => cR q.1), hc])))
    refine ws_hc (k_isSound n hn α w f hC hF h k (by omega)) (fun v β hv => ?_)
    obtain ⟨hb, hj2⟩ := hv
    have hβ := WR_jf h hC hj2
    have hjβ : jf w α0 β := jf_tr hj hj2
    obtain ⟨y0, y1, -⟩ := hβ.2.2.2.1 k (by omega)
    rcases hb with ⟨ev, so⟩ | ⟨ev, so⟩
    · replace ev : v = 1 := ev
      subst ev
      exact ws_i (fun q => absurd q (by decide)) (fun _ => ws_l (nx β hβ hjβ _ (by rw [blL, if_neg (fun q => q.2.1 so), hc])))
    · replace ev : v = 0 := ev
      subst ev
      refine ws_i (fun _ => ?_) (fun q => absurd rfl q)
      refine ws_i (fun u => ws_l (ws_l (nx β hβ hjβ _ ?_))) (fun u => ws_l ?_)
      · rw [hc] at u
        rw [y1, blL, if_pos ⟨cR, so, Or.inl u⟩]
      · rw [y1]
        rw [hc] at u
        refine ws_le (fun u2 => ws_l (nx β hβ hjβ _ ?_)) (fun u2 => ws_l (ws_l (nx β hβ hjβ _ ?_)))
        · rw [hc] at u2
          rw [blL, if_neg (fun q => by rcases q.2.2 with t | t; exact u t; omega), hc]
        · rw [hc] at u2
          rw [blL, if_pos ⟨cR, so, Or.inr u2⟩]
theorem k_greatest_L (n : Nat) (hn : 70000 ≤ n) (w : Nat) (f : Nat → Int32) (hC : rC f) (hF : FRI f) (R L : Int32) (α0 : hp_T) : ∀ (d k : Nat) (α : hp_T) (cI kI : Int32), WR α w f → jf w α0 α → kI.toInt = (k : Int) → k ≤ (f 3).toInt.toNat → 17 - k ≤ d → cI = bgS f R L 0 k → ws (f_X10_greatestSoundBelow_L5 n w d α R L cI kI) (fun res => res.1 = bgS f R L 0 (f 3).toInt.toNat ∧ jf w α0 res.2) := by
  intro d
  induction d with
  | zero => intro k α cI kI _ _ _ hl hd; have h16 := hC.2.2.2.1; omega
  | succ d ih =>
    intro k α cI kI h hj hk hl hd hc
    have h16 := hC.2.2.2.1
    rw [f_X10_greatestSoundBelow_L5.eq_2]
    refine ws_l ?_
    rw [h.2.1.2.2.1]
    refine ws_le (fun e => ws_s ⟨by show cI = _; rw [hc, show k = (f 3).toInt.toNat by omega], hj⟩) (fun e => ?_)
    have e1 : (kI + 1).toInt = ((k + 1 : Nat) : Int) := by rw [iw_add, lt1]; omega
    have nx : ∀ β, WR β w f → jf w α0 β → ∀ c, c = bgS f R L 0 (k + 1) → ws (f_X10_greatestSoundBelow_L5 n w d β R L c (kI + 1)) (fun res => res.1 = bgS f R L 0 (f 3).toInt.toNat ∧ jf w α0 res.2) := fun β hβ hjβ c hc => ih (k + 1) β c _ hβ hjβ e1 (by omega) (by omega) hc
    refine ws_b (k_frozenAt n h hC kI) (fun o ho => ?_)
    rw [if_pos ⟨by omega, by omega⟩, hk, Int.toNat_natCast] at ho
    subst ho
    obtain ⟨z0, z1, -⟩ := h.2.2.2.1 k (by omega)
    unfold f_X10_greatestSoundBelow_J64
    refine ws_hS (ws_l ?_)
    rw [z0]
    refine ws_i (fun cR => ws_l ?_) (fun cR => ws_l (nx α h hj _ (by rw [bgS, if_neg (fun q => cR q.1), hc])))
    rw [z1]
    refine ws_le (fun c1 => ws_l (nx α h hj _ (by rw [bgS, if_neg (fun q => by have := q.2.2.1; omega), hc]))) (fun c1 => ?_)
    refine ws_hc (k_isSound n hn α w f hC hF h k (by omega)) (fun v β hv => ?_)
    obtain ⟨hb, hj2⟩ := hv
    have hβ := WR_jf h hC hj2
    have hjβ : jf w α0 β := jf_tr hj hj2
    obtain ⟨y0, y1, -⟩ := hβ.2.2.2.1 k (by omega)
    rcases hb with ⟨ev, so⟩ | ⟨ev, so⟩
    · replace ev : v = 1 := ev
      subst ev
      refine ws_i (fun q => absurd q (by decide)) (fun _ => ws_l ?_)
      rw [y1]
      refine ws_b (k_max n cI _) (fun m hm => ws_l (nx β hβ hjβ m ?_))
      rw [hm, hc, bgS]
      by_cases u : (bgS f R L 0 k).toInt < (f (93 + 10 * k)).toInt
      · rw [if_pos u, if_pos ⟨cR, so, c1, u⟩]
      · rw [if_neg u, if_neg (fun q => u q.2.2.2)]
    · replace ev : v = 0 := ev
      subst ev
      exact ws_i (fun _ => ws_l (nx β hβ hjβ _ (by rw [bgS, if_neg (fun q => so q.2.1), hc]))) (fun q => absurd rfl q)
theorem k_blame (n : Nat) (hn : 70000 ≤ n) (α : hp_T) (x : Nat) (f : Nat → Int32) (hC : rC f) (hF : FRI f) (h : RWX α x f) (a b : Int32) : ws (f_X11_blame n α x a b) (fun res => res.1 = bmA f a b) := by
  obtain ⟨w, u, h1, h2, h3, h4, -⟩ := h
  have h16 := hC.2.2.2.1
  have t2 := t_2
  have jr : jf w α α := ⟨rfl, rfl, rfl, rfl, rfl, fun _ _ _ _ => rfl⟩
  have bad : ∀ v : Int32, ¬ bmOK f a b → ws (hq_c (f_X11_refuse n α x v) fun r β => some (r, β)) (fun res => res.1 = bmA f a b) := fun v hno => by
    unfold bmA
    rw [if_neg hno]
    exact ws_hc (k_refuse n α x v) (fun z γ hz => ws_s hz.1)
  unfold f_X11_blame f_X11_blame_J9 f_X11_blame_J69 f_X11_blame_J82
  refine ws_lt (fun e => bad 1 (fun q => by rw [lt0] at e; have := q.1.1; omega)) (fun e => ws_le (fun e2 => ws_l ?_) (fun e2 => bad 1 (fun q => by rw [t2] at e2; have := q.1.2; omega)))
  rw [lt0] at e
  rw [t2] at e2
  rw [h1]
  refine ws_b (k_logAt n h4 hC a) (fun o ho => ?_)
  by_cases hr : 0 ≤ a.toInt ∧ a.toInt < (f 0).toInt
  · rw [if_pos hr] at ho
    subst ho
    have ok : bmOK f a b := ⟨⟨e, e2⟩, hr⟩
    refine ws_hS ?_
    unfold bmA
    rw [if_pos ok]
    unfold blA2
    refine ws_i (fun b2 => ws_l ?_) (fun b2 => ws_l ?_)
    · refine ws_hc (k_countUnsound_L n hn w f hC hF a α n 0 α 0 0 h4 jr rfl (Nat.zero_le _) (by omega) rfl) (fun v β hv => ws_hc (k_answer n β x v) (fun z γ hz => ws_s ?_))
      rw [b2, if_neg (by decide), if_neg (by decide)]
      exact hz.1.trans hv.1
    · refine ws_hc (k_leastUnsound_L n hn w f hC hF a α n 0 α (-1) 0 h4 jr rfl (Nat.zero_le _) (by omega) rfl) (fun v β hv => ?_)
      obtain ⟨hv1, hv2⟩ := hv
      replace hv1 : v = blL f a (f 3).toInt.toNat := hv1
      refine ws_i (fun b0 => ws_hc (k_answer n β x v) (fun z γ hz => ws_s ?_)) (fun b0 => ?_)
      · rw [if_pos b0]
        exact hz.1.trans hv1
      · have b1 : b = 1 := Int32.toInt_inj.mp (by
          have n0 : ¬ b.toInt = 0 := fun q => b0 (Int32.toInt_inj.mp (by rw [q]; rfl))
          have n2 : ¬ b.toInt = 2 := fun q => b2 (Int32.toInt_inj.mp (by rw [q]; rfl))
          rw [lt1]; omega)
        refine ws_i (fun m1 => ws_hc (k_answer n β x v) (fun z γ hz => ws_s ?_)) (fun m1 => ws_l ?_)
        · have hm : blL f a (f 3).toInt.toNat = -1 := hv1.symm.trans m1
          rw [if_neg b0, if_pos b1, hm, if_neg (by decide), bgS_m hC a (-1) _ (by omega)]
          exact hz.1.trans m1
        · have hβ := WR_jf h4 hC hv2
          have h1β : hp_R β 601 x = w := by rw [hv2.1]; exact h1
          rw [h1β]
          refine ws_hc (k_greatest_L n hn w f hC hF a v β n 0 β 0 0 hβ ⟨rfl, rfl, rfl, rfl, rfl, fun _ _ _ _ => rfl⟩ rfl (Nat.zero_le _) (by omega) rfl) (fun y γ hy => ws_hc (k_answer n γ x y) (fun z δ hz => ws_s ?_))
          have h0 : 0 ≤ (blL f a (f 3).toInt.toNat).toInt := by
            rcases blL_r hC a (f 3).toInt.toNat (by omega) with q | q
            · exact absurd (hv1.trans q) m1
            · exact q
          rw [if_neg b0, if_pos b1, if_pos h0, ← hv1]
          exact hz.1.trans hy.1
  · rw [if_neg hr] at ho
    subst ho
    exact ws_hN (bad 2 (fun q => hr q.2))
end JN9_28
section JN9_29
set_option maxRecDepth 100000
theorem wyG_dep : ∀ (e d i f m : Nat) (w : Bool), 1 ≤ i → i ≤ m → m ≤ 2 ^ e → (wyG d i f m w).length ≤ e + 1 := by
  intro e
  induction e with
  | zero =>
    intro d i f m w h1 h2 h3
    rw [Nat.pow_zero] at h3
    cases d with
    | zero => rw [wyG]; exact Nat.zero_le _
    | succ d =>
      rw [wyG, if_pos (show i = m by omega)]
      split
      · exact Nat.zero_le _
      · exact Nat.le_refl _
  | succ e ih =>
    intro d i f m w h1 h2 h3
    cases d with
    | zero => rw [wyG]; exact Nat.zero_le _
    | succ d =>
      rw [wyG]
      by_cases h4 : i = m
      · rw [if_pos h4]
        split
        · exact Nat.zero_le _
        · exact Nat.succ_le_succ (Nat.zero_le _)
      · rw [if_neg h4]
        have hp := p0_dn (show 2 ≤ m by omega) h3
        have hp2 := p0_lt (show 2 ≤ m by omega)
        have hp3 := p0_le (m := m)
        have pe : 2 ^ (e + 1) = 2 ^ e + 2 ^ e := by rw [Nat.pow_succ]; omega
        by_cases h5 : i ≤ p0 m
        · rw [if_pos h5]; exact Nat.succ_le_succ (ih d i f (p0 m) w h1 h5 hp)
        · rw [if_neg h5]; exact Nat.succ_le_succ (ih d (i - p0 m) (f + p0 m) (m - p0 m) false (by omega) (by omega) (by omega))
theorem wyH_7 {i N : Nat} (h : i ≤ N) (hN : N ≤ 48) : (wyH i N).length ≤ 7 := by
  unfold wyH
  split
  · exact Nat.zero_le _
  · exact wyG_dep 6 32 i 0 N true (by omega) h (by have : (2 : Nat) ^ 6 = 64 := (by decide); omega)
end JN9_29
section JN9_30
set_option maxRecDepth 100000
def adL : List (Nat × Nat × Bool) → List (Nat × Nat × Bool) → List (Nat × Nat × Bool)
  | S, [] => S
  | S, q :: r => adL (if S.any (e2 q) then S else S ++ [q]) r
theorem adL_len : ∀ (l S : List (Nat × Nat × Bool)), (adL S l).length ≤ S.length + l.length := by
  intro l
  induction l with
  | nil => intro S; exact Nat.le_refl _
  | cons q r ih =>
    intro S
    rw [adL]
    have := ih (if S.any (e2 q) then S else S ++ [q])
    rw [List.length_cons]
    split at this
    · rename_i h; rw [if_pos h]; omega
    · rename_i h; rw [if_neg h]; rw [List.length_append, List.length_singleton] at this; omega
theorem any_e2 {S : List (Nat × Nat × Bool)} {p : Nat × Nat × Bool} : S.any (e2 p) = true ↔ ∃ q ∈ S, q.1 = p.1 ∧ q.2.1 = p.2.1 := by
  rw [List.any_eq_true]
  constructor
  · rintro ⟨q, h1, h2⟩
    have := e2_iff.mp h2
    exact ⟨q, h1, this.1.symm, this.2.symm⟩
  · rintro ⟨q, h1, h2, h3⟩
    exact ⟨q, h1, e2_iff.mpr ⟨h2.symm, h3.symm⟩⟩
theorem v_notes2_L (n : Nat) (l : List (Nat × Nat × Bool)) : ∀ (k : Nat) (σ : ms_T) (S : List (Nat × Nat × Bool)) (v : Nat) (vI : Int32), WS σ l → HD σ S → vI.toInt = (v : Int) → v ≤ l.length → pr (f_X12_notes_L2 n k σ vI) (fun τ => HD τ (adL S (l.drop v)) ∧ fr [695] [57, 58] σ τ) := by
  intro k
  induction k with
  | zero => intro σ S v vI hW hH h1 h2; rw [f_X12_notes_L2.eq_1]; exact pr_0
  | succ k ih =>
    intro σ S v vI hW hH h1 h2
    rw [f_X12_notes_L2.eq_2]
    refine pr_le (fun hc => pr_s ⟨?_, fr_rf⟩) (fun hc => ?_)
    · rw [hW.1] at hc
      rw [List.drop_eq_nil_of_le (by omega)]
      exact hH
    · rw [hW.1] at hc
      have hv : v < l.length := by omega
      have hq := hW.2 v _ (List.getElem?_eq_getElem hv)
      have cV : vI.toNatClampNeg = v := cl_n h1
      have hS := ib_hi (ms_I σ 657)
      have hn : (vI + 1).toInt = ((v + 1 : Nat) : Int) := by rw [ii_add (by rw [lt1]; omega) (by rw [lt1, h1]; have := hW.1; omega), h1, lt1]; omega
      rw [List.drop_eq_getElem_cons hv, adL]
      refine pr_g (fun _ _ => pr_g (fun _ _ => pr_bo (P := ∃ q ∈ S, mtc (ms_E σ 42 vI.toNatClampNeg) (ms_E σ 43 vI.toNatClampNeg) q) (v_had n σ S hH _ _) (fun hno => ?_) (fun hyes => ?_)))
      · have hna : ¬ S.any (e2 l[v]) = true := fun h => by
          obtain ⟨q, hq1, hq2⟩ := any_e2.mp h
          refine hno ⟨q, hq1, ?_⟩
          rw [cV]
          exact (mtc_n hq.1 hq.2).mpr hq2
        rw [if_neg hna]
        unfold f_X12_notes_J72
        refine pr_g (fun _ _ => pr_g (fun g0 g1 => pr_l (pr_g (fun _ _ => pr_g (fun _ _ => pr_l (pr_l (pr_l (pr_m (ih _ (S ++ [l[v]]) (v + 1) _ ?_ ?_ hn (by omega)) (fun τ hτ => ⟨hτ.1, fr_tr (fr_tr (fr_sE (by decide)) (fr_tr (fr_sE (by decide)) (fr_sI (by decide)))) hτ.2⟩)))))))))
        · exact ⟨hW.1, fun k q hk => hW.2 k q hk⟩
        · have hc2 : (ms_I σ 695).toNatClampNeg = S.length := cl_n hH.1
          refine ⟨?_, fun k q hk => ?_⟩
          · rw [mI_sI, if_pos rfl]
            show (ms_I σ 695 + 1).toInt = _
            rw [ii_add (by rw [lt1]; omega) (by rw [lt1]; omega), hH.1, lt1, List.length_append]; rfl
          · rw [mE_sI, mE_sI, show (ms_I (ms_sE σ 57 (ms_I σ 695).toNatClampNeg (ms_E σ 42 vI.toNatClampNeg)) 695).toNatClampNeg = S.length from hc2, hc2, mE_sE, mE_sE, mE_sE, mE_sE, cV, mE_sE]
            rcases ap_get hk with ⟨g1, g2⟩ | ⟨g1, g2⟩
            · have hne : ¬ k = S.length := by omega
              simpa [hne] using hH.2 k q g2
            · subst g1; subst g2
              simpa using hq
      · have hya : S.any (e2 l[v]) = true := by
          rw [cV] at hyes
          obtain ⟨q0, hq0, hm0⟩ := hyes
          rw [mtc_n hq.1 hq.2] at hm0
          exact any_e2.mpr ⟨q0, hq0, hm0⟩
        rw [if_pos hya]
        unfold f_X12_notes_J72
        exact pr_l (ih σ S (v + 1) _ hW hH hn (by omega))
theorem v_notes2 (n : Nat) (σ : ms_T) (l S : List (Nat × Nat × Bool)) (hW : WS σ l) (hH : HD σ S) : pr (f_X12_notes n σ) (fun τ => HD τ (adL S l) ∧ fr [695] [57, 58] σ τ) := by
  have := v_notes2_L n l n σ S 0 0 hW hH rfl (Nat.zero_le _)
  rw [List.drop_zero] at this
  exact this
def lfA (f : Nat → Int32) (R s : Int32) : Nat → Int32
  | 0 => -1
  | k + 1 => if f (92 + 10 * k) = R ∧ s.toInt < (f (93 + 10 * k)).toInt ∧ (lfA f R s k = -1 ∨ (f (93 + 10 * k)).toInt < (lfA f R s k).toInt) then f (93 + 10 * k) else lfA f R s k
def lfC (f : Nat → Int32) (R s : Int32) : Nat → Nat
  | 0 => 0
  | k + 1 => if f (92 + 10 * k) = R ∧ s.toInt < (f (93 + 10 * k)).toInt then lfC f R s k + 1 else lfC f R s k
theorem lfA_r {f : Nat → Int32} (hC : rC f) (R s : Int32) : ∀ k, k ≤ 16 → lfA f R s k = -1 ∨ (s.toInt < (lfA f R s k).toInt ∧ 0 ≤ (lfA f R s k).toInt ∧ (lfA f R s k).toInt ≤ 48 ∧ lfC f R (lfA f R s k) k + 1 ≤ lfC f R s k) := by
  have mono : ∀ (t u : Int32), u.toInt ≤ t.toInt → ∀ k, lfC f R t k ≤ lfC f R u k := by
    intro t u htu k
    induction k with
    | zero => exact Nat.le_refl _
    | succ k ih =>
      rw [lfC, lfC]
      by_cases h1 : f (92 + 10 * k) = R ∧ t.toInt < (f (93 + 10 * k)).toInt
      · rw [if_pos h1, if_pos ⟨h1.1, by omega⟩]; omega
      · rw [if_neg h1]
        split <;> omega
  intro k
  induction k with
  | zero => intro _; exact Or.inl rfl
  | succ k ih =>
    intro hk
    have h9 := hC.2.2.2.2.2.2.2.1 k (by omega)
    rw [lfA]
    by_cases h1 : f (92 + 10 * k) = R ∧ s.toInt < (f (93 + 10 * k)).toInt ∧ (lfA f R s k = -1 ∨ (f (93 + 10 * k)).toInt < (lfA f R s k).toInt)
    · rw [if_pos h1]
      refine Or.inr ⟨h1.2.1, h9.1, h9.2, ?_⟩
      rw [lfC, lfC, if_neg (fun q => by omega), if_pos ⟨h1.1, h1.2.1⟩]
      have := mono (f (93 + 10 * k)) s (by omega) k
      omega
    · rw [if_neg h1]
      rcases ih (by omega) with h | ⟨h2, h3, h4, h5⟩
      · exact Or.inl h
      · refine Or.inr ⟨h2, h3, h4, ?_⟩
        rw [lfC, lfC]
        by_cases h6 : f (92 + 10 * k) = R ∧ (lfA f R s k).toInt < (f (93 + 10 * k)).toInt
        · rw [if_pos h6, if_pos ⟨h6.1, by omega⟩]; omega
        · rw [if_neg h6]
          split <;> omega
theorem lfC_le (f : Nat → Int32) (R s : Int32) : ∀ k, lfC f R s k ≤ k := by
  intro k
  induction k with
  | zero => exact Nat.le_refl _
  | succ k ih => rw [lfC]; split <;> omega
theorem v_sizeAbove_L (n : Nat) (σ : ms_T) (hC : rC (ms_E σ 40)) (R s : Int32) : ∀ (d k : Nat) (lI kI : Int32), kI.toInt = (k : Int) → k ≤ (ms_E σ 40 3).toInt.toNat → lI = lfA (ms_E σ 40) R s k → pr (f_X12_sizeAbove_L5 n σ d R s lI kI) (fun v => v = lfA (ms_E σ 40) R s (ms_E σ 40 3).toInt.toNat) := by
  intro d
  induction d with
  | zero => intro k lI kI _ _ _; rw [f_X12_sizeAbove_L5.eq_1]; exact pr_0
  | succ d ih =>
    intro k lI kI hk hl hL
    have h16 := hC.2.2.2.1
    have c3 : ((3 : Int32)).toNatClampNeg = 3 := by decide
    rw [f_X12_sizeAbove_L5.eq_2, c3]
    refine pr_g (fun _ _ => pr_le (fun e => pr_s ?_) (fun e => ?_))
    · rw [hL, show k = (ms_E σ 40 3).toInt.toNat by omega]
    · have hkN : k < (ms_E σ 40 3).toInt.toNat := by omega
      have hk16 : k < 16 := by omega
      have e1 : (kI + 1).toInt = ((k + 1 : Nat) : Int) := by rw [iw_add, lt1]; omega
      have nx : ∀ l, l = lfA (ms_E σ 40) R s (k + 1) → pr (f_X12_sizeAbove_L5 n σ d R s l (kI + 1)) (fun v => v = lfA (ms_E σ 40) R s (ms_E σ 40 3).toInt.toNat) := fun l h => ih (k + 1) l _ e1 (by omega) h
      have a0 : 92 + 10 * k + 0 = 92 + 10 * k := by omega
      have a1 : 92 + 10 * k + 1 = 93 + 10 * k := by omega
      unfold f_X12_sizeAbove_J53 f_X12_sizeAbove_J61
      refine pr_b (v_froze n σ k hk16 kI hk 0 (by omega) 0 rfl) (fun v hv => ?_)
      rw [hv, a0]
      refine pr_i (fun cR => ?_) (fun cR => pr_l (nx _ (by rw [lfA, if_neg (fun q => cR q.1), hL])))
      refine pr_b (v_froze n σ k hk16 kI hk 1 (by omega) 1 rfl) (fun v1 hv1 => ?_)
      rw [hv1, a1]
      refine pr_le (fun c1 => pr_l (nx _ (by rw [lfA, if_neg (fun q => by have := q.2.1; omega), hL]))) (fun c1 => ?_)
      have hr := lfA_r hC R s k (by omega)
      refine pr_lt (fun z => ?_) (fun z => ?_)
      · refine pr_b (v_froze n σ k hk16 kI hk 1 (by omega) 1 rfl) (fun v2 hv2 => pr_l (nx _ ?_))
        rw [lt0, hL] at z
        have hm1 : lfA (ms_E σ 40) R s k = -1 := by
          rcases hr with h | h
          · exact h
          · omega
        rw [hv2, a1, lfA, if_pos ⟨cR, c1, Or.inl hm1⟩]
      · rw [lt0, hL] at z
        have hn1 : ¬ lfA (ms_E σ 40) R s k = -1 := fun y => by rw [y] at z; exact absurd z (by decide)
        refine pr_b (v_froze n σ k hk16 kI hk 1 (by omega) 1 rfl) (fun v2 hv2 => ?_)
        rw [hv2, a1]
        refine pr_le (fun y => pr_l (nx _ ?_)) (fun y => ?_)
        · rw [hL] at y
          rw [lfA, if_neg (fun q => by rcases q.2.2 with u | u; exact hn1 u; omega), hL]
        · rw [hL] at y
          refine pr_b (v_froze n σ k hk16 kI hk 1 (by omega) 1 rfl) (fun v3 hv3 => pr_l (nx _ ?_))
          rw [hv3, a1, lfA, if_pos ⟨cR, c1, Or.inr y⟩]
theorem v_sizeAbove (n : Nat) (σ : ms_T) (hC : rC (ms_E σ 40)) (R s : Int32) : pr (f_X12_sizeAbove n σ R s) (fun v => v = lfA (ms_E σ 40) R s (ms_E σ 40 3).toInt.toNat) := by
  unfold f_X12_sizeAbove
  exact v_sizeAbove_L n σ hC R s n 0 (-1) 0 rfl (Nat.zero_le _) rfl
def chL (f : Nat → Int32) (R : Int32) : Nat → Int32 → Nat → Nat → List (Nat × Nat × Bool) → Nat × Nat × Nat
  | 0, _, h, s, l => (h, s, l.length)
  | d + 1, was, h, s, l =>
    if lfA f R was (f 3).toInt.toNat = -1 then (h, s, l.length)
    else if was = -1 then chL f R d (lfA f R was (f 3).toInt.toNat) (h + 1) s l
    else chL f R d (lfA f R was (f 3).toInt.toNat) (h + 1) (s + (wyH was.toInt.toNat (lfA f R was (f 3).toInt.toNat).toInt.toNat).length) (adL l (wyH was.toInt.toNat (lfA f R was (f 3).toInt.toNat).toInt.toNat).reverse)
def chE (w : Int32) (r : Nat × Nat × Nat) : Int := if w = 0 then (r.1 : Int) else if w = 1 then (r.2.1 : Int) else (r.2.2 : Int)
abbrev chV (was : Int32) : Prop := was = -1 ∨ (0 ≤ was.toInt ∧ was.toInt ≤ 48)
theorem v_chain_L (n : Nat) (R w : Int32) (f : Nat → Int32) (hC : rC f) : ∀ (d e : Nat) (σ : ms_T) (h s : Nat) (l : List (Nat × Nat × Bool)) (hI sI was v : Int32), ms_E σ 40 = f → HD σ l → hI.toInt = (h : Int) → sI.toInt = (s : Int) → h + e ≤ 17 → s ≤ 7 * h → chV was → v = lfA f R was (f 3).toInt.toNat → lfC f R was (f 3).toInt.toNat + 1 ≤ e → pr (f_X12_chain_L56 n d σ R w hI sI was v) (fun res => res.1.toInt = chE w (chL f R e was h s l)) := by
  intro d
  induction d with
  | zero => intro e σ h s l hI sI was v _ _ _ _ _ _ _ _ _; rw [f_X12_chain_L56.eq_1]; exact pr_0
  | succ d ih =>
    intro e σ h s l hI sI was v hσ hH hh hs he hsb hw hv hc
    have h16 := hC.2.2.2.1
    obtain ⟨e, rfl⟩ : ∃ y, e = y + 1 := ⟨e - 1, by omega⟩
    have m1 : (-1 : Int32).toInt = -1 := by decide
    have hr := lfA_r hC R was (f 3).toInt.toNat (by omega)
    rw [f_X12_chain_L56.eq_2]
    refine pr_lt (fun z => ?_) (fun z => ?_)
    · rw [lt0, hv] at z
      have hm1 : lfA f R was (f 3).toInt.toNat = -1 := by
        rcases hr with y | y
        · exact y
        · omega
      rw [chL, if_pos hm1]
      unfold chE
      refine pr_i (fun w0 => pr_s (by rw [if_pos w0]; exact hh)) (fun w0 => pr_i (fun w1 => pr_s (by rw [if_neg w0, if_pos w1]; exact hs)) (fun w1 => pr_s (by rw [if_neg w0, if_neg w1]; exact hH.1)))
    · rw [lt0, hv] at z
      have hn1 : ¬ lfA f R was (f 3).toInt.toNat = -1 := fun y => by rw [y] at z; exact absurd z (by decide)
      rcases hr with y | ⟨r1, r2, r3, r4⟩
      · exact absurd y hn1
      have e1 : (hI + 1).toInt = ((h + 1 : Nat) : Int) := by rw [iw_add, lt1]; omega
      rw [chL, if_neg hn1]
      unfold f_X12_chain_J82
      refine pr_l (pr_l (pr_lt (fun c => pr_l ?_) (fun c => ?_)))
      · -- the first one
        rw [lt0] at c
        have hwas : was = -1 := by rcases hw with y | y; exact y; omega
        rw [if_pos hwas]
        have hW0 : WS (ms_sI σ 657 0) [] := ⟨by rw [mI_sI, if_pos rfl]; rfl, fun k q hk => by cases hk⟩
        refine pr_b (v_notes2 n (ms_sI σ 657 0) [] l hW0 ⟨hH.1, hH.2⟩) (fun τ hτ => ?_)
        have eτ : ms_E τ 40 = f := by rw [← hσ]; exact funext (fun j => hτ.2.2 40 (by decide) j)
        refine pr_b (v_sizeAbove n τ (by rw [eτ]; exact hC) R v) (fun v2 hv2 => ?_)
        rw [eτ] at hv2
        rw [hv] at hv2
        refine ih e τ (h + 1) s l _ _ v v2 eτ hτ.1 e1 ?_ (by omega) (by omega) (Or.inr (by rw [hv]; exact ⟨r2, r3⟩)) (by rw [hv]; exact hv2) (by rw [hv]; omega) |> (fun q => by rw [hv] at q ⊢; exact q)
        rw [mI_sI, if_pos rfl, iw_add, lt0, hs]; omega
      · rw [lt0] at c
        have hwas : ¬ was = -1 := fun y => by rw [y] at c; exact absurd c (by decide)
        rw [if_neg hwas]
        rcases hw with y | ⟨w0, w1⟩
        · exact absurd y hwas
        refine pr_b (fun τ hτ => (⟨v_growth n (ms_sI σ 657 0) was v c (by rw [hv]; omega) τ hτ, v_growth_fr n (ms_sI σ 657 0) was v τ hτ⟩ : WS τ _ ∧ fr [657] [42, 43] (ms_sI σ 657 0) τ)) (fun τ hτ => pr_l ?_)
        obtain ⟨hW, hf⟩ := hτ
        have hHτ : HD τ l := ⟨by rw [hf.1 695 (by decide)]; exact hH.1, fun k q hk => by rw [hf.2 57 (by decide), hf.2 58 (by decide)]; exact hH.2 k q hk⟩
        have hlen := wyH_7 (i := was.toInt.toNat) (N := v.toInt.toNat) (by rw [hv]; omega) (by rw [hv]; omega)
        have hWl := hW.1
        rw [List.length_reverse] at hWl
        refine pr_b (v_notes2 n τ _ l hW hHτ) (fun υ hυ => ?_)
        have eυ : ms_E υ 40 = f := by rw [← hσ]; exact funext (fun j => (hυ.2.2 40 (by decide) j).trans (hf.2 40 (by decide) j))
        refine pr_b (v_sizeAbove n υ (by rw [eυ]; exact hC) R v) (fun v2 hv2 => ?_)
        rw [eυ] at hv2
        rw [← hv]
        refine ih e υ (h + 1) (s + (wyH was.toInt.toNat v.toInt.toNat).length) _ _ _ v v2 eυ hυ.1 e1 ?_ (by omega) (by omega) (Or.inr (by rw [hv]; exact ⟨r2, r3⟩)) hv2 (by rw [hv]; omega)
        rw [iw_add, hs, hWl]; omega
abbrev caOK (f : Nat → Int32) (a b : Int32) : Prop := (0 ≤ b.toInt ∧ b.toInt ≤ 2) ∧ (0 ≤ a.toInt ∧ a.toInt < (f 0).toInt)
def caA (f : Nat → Int32) (a b : Int32) : Int := if caOK f a b then chE b (chL f a 17 (-1) 0 0 []) else -1
theorem v_chain (n : Nat) (σ : ms_T) (hC : rC (ms_E σ 40)) (a b : Int32) : pr (f_X12_chain n σ a b) (fun res => res.1.toInt = caA (ms_E σ 40) a b) := by
  have t2 := t_2
  have h16 := hC.2.2.2.1
  have bad : ∀ v : Int32, ¬ v = 0 → ¬ caOK (ms_E σ 40) a b → pr (f_X12_chain_J27 n σ a b v) (fun res => res.1.toInt = caA (ms_E σ 40) a b) := fun v hv hno => by
    unfold f_X12_chain_J27 caA
    rw [if_neg hno]
    exact v_is1 n σ v hv (pr_s rfl)
  unfold f_X12_chain
  refine pr_bo (v_isIn n b 0 2) (fun z => bad 1 (by decide) (fun q => z (by rw [lt0, t2]; exact q.1))) (fun z => pr_bo (pr_w (s_isRecord hC a)) (fun y => bad 2 (by decide) (fun q => y q.2)) (fun y => ?_))
  rw [lt0, t2] at z
  unfold f_X12_chain_J27 caA
  rw [if_pos ⟨z, y⟩]
  refine v_is0 n σ (pr_l ?_)
  refine pr_b (v_sizeAbove n (ms_sI (ms_sI (ms_sI σ 653 0) 652 0) 695 0) hC a (-1)) (fun v hv => ?_)
  have := lfC_le (ms_E σ 40) a (-1) (ms_E σ 40 3).toInt.toNat
  exact v_chain_L n a b (ms_E σ 40) hC n 17 _ 0 0 [] 0 0 (-1) v rfl ⟨rfl, fun k q hk => by cases hk⟩ rfl rfl (by omega) (by omega) (Or.inl rfl) hv (by omega)
def hfr_lx (α β : hp_T) : Prop := hp_R β = hp_R α ∧ hp_Q β = hp_Q α ∧ (∀ φ b, φ ≠ 453 → φ ≠ 454 → hp_I β φ b = hp_I α φ b) ∧ ∀ κ b j, κ ≠ 21 → κ ≠ 22 → κ ≠ 23 → κ ≠ 26 → hp_E β κ b j = hp_E α κ b j
theorem WR_hf {α β : hp_T} {w : Nat} {f : Nat → Int32} (h : WR α w f) (hC : rC f) (g : hfr_lx α β) : WR β w f :=
  WR_f h hC g.1 g.2.1 (fun φ b _ _ hφ => g.2.2.1 φ b (by omega) (by omega)) (fun κ b j _ _ hκ => g.2.2.2 κ b j (by omega) (by omega) (by omega) (by omega))
def LKS (α : hp_T) (x : Nat) (l : List (Nat × Nat × Bool)) : Prop := (∀ q ∈ l, q.1 ≤ 48 ∧ q.2.1 ≤ 48) ∧ ∀ (k : Nat) (q : Nat × Nat × Bool), l[k]? = some q → (hp_E α 26 (hp_R α 617 x) k).toInt = 64 * (q.1 : Int) + q.2.1
theorem k_leastFrozen_L (n : Nat) (α : hp_T) (w : Nat) (f : Nat → Int32) (hC : rC f) (h : WR α w f) (R s : Int32) : ∀ (d k : Nat) (lI kI : Int32), kI.toInt = (k : Int) → k ≤ (f 3).toInt.toNat → 17 - k ≤ d → lI = lfA f R s k → ws (f_X10_leastFrozenAbove_L5 n α w d R s lI kI) (fun v => v = lfA f R s (f 3).toInt.toNat) := by
  intro d
  induction d with
  | zero => intro k lI kI _ hl hd; have h16 := hC.2.2.2.1; omega
  | succ d ih =>
    intro k lI kI hk hl hd hL
    have h16 := hC.2.2.2.1
    rw [f_X10_leastFrozenAbove_L5.eq_2]
    refine ws_l ?_
    rw [h.2.1.2.2.1]
    refine ws_le (fun e => ws_s (by rw [hL, show k = (f 3).toInt.toNat by omega])) (fun e => ?_)
    have e1 : (kI + 1).toInt = ((k + 1 : Nat) : Int) := by rw [iw_add, lt1]; omega
    have nx : ∀ l, l = lfA f R s (k + 1) → ws (f_X10_leastFrozenAbove_L5 n α w d R s l (kI + 1)) (fun v => v = lfA f R s (f 3).toInt.toNat) := fun l h => ih (k + 1) l _ e1 (by omega) (by omega) h
    refine ws_b (k_frozenAt n h hC kI) (fun o ho => ?_)
    rw [if_pos ⟨by omega, by omega⟩, hk, Int.toNat_natCast] at ho
    subst ho
    obtain ⟨z0, z1, -⟩ := h.2.2.2.1 k (by omega)
    unfold f_X10_leastFrozenAbove_J59 f_X10_leastFrozenAbove_J65
    refine ws_hS (ws_l ?_)
    rw [z0]
    refine ws_i (fun cR => ws_l ?_) (fun cR => ws_l (nx _ (by rw [lfA, if_neg (fun q => cR q.1), hL])))
    rw [z1]
    refine ws_le (fun c1 => ws_l (nx _ (by rw [lfA, if_neg (fun q => by have := q.2.1; omega), hL]))) (fun c1 => ?_)
    refine ws_i (fun u => ws_l (ws_l (nx _ ?_))) (fun u => ws_l ?_)
    · rw [hL] at u
      rw [lfA, if_pos ⟨cR, c1, Or.inl u⟩]
    · rw [hL] at u
      refine ws_le (fun u2 => ws_l (nx _ ?_)) (fun u2 => ws_l (ws_l (nx _ ?_)))
      · rw [hL] at u2
        rw [lfA, if_neg (fun q => by rcases q.2.2 with t | t; exact u t; omega), hL]
      · rw [hL] at u2
        rw [lfA, if_pos ⟨cR, c1, Or.inr u2⟩]
theorem k_isLink_L (n : Nat) (α : hp_T) (x : Nat) (l : List (Nat × Nat × Bool)) (hL : LKS α x l) (hl : l.length ≤ 256) (p : Nat × Nat × Bool) (hp : p.2.1 ≤ 48) (pI cI : Int32) (hpI : pI.toInt = 64 * (p.1 : Int) + p.2.1) (hcI : cI.toInt = (l.length : Int)) : ∀ (d v : Nat) (vI : Int32), vI.toInt = (v : Int) → v ≤ l.length → 257 - v ≤ d → ws (f_X11_isLink_L2 n α x d pI cI vI) (fun r => bo r ((l.drop v).any (e2 p) = true)) := by
  intro d
  induction d with
  | zero => intro v vI _ _ hd; omega
  | succ d ih =>
    intro v vI hv hvl hd
    have t256 : (256 : Int32).toInt = 256 := by decide
    rw [f_X11_isLink_L2.eq_2]
    refine ws_le (fun e => ws_s (Or.inr ⟨rfl, ?_⟩)) (fun e => ws_l (ws_le (fun e2 => by omega) (fun e3 => ws_l (ws_g (by omega) (by omega) ?_))))
    · rw [List.drop_eq_nil_of_le (by omega)]
      simp
    · have hvl2 : v < l.length := by omega
      have hq := hL.2 v _ (List.getElem?_eq_getElem hvl2)
      have hr := hL.1 _ (List.getElem_mem hvl2)
      have e1 : (vI + 1).toInt = ((v + 1 : Nat) : Int) := by rw [iw_add, lt1]; omega
      rw [cl_n hv, List.drop_eq_getElem_cons hvl2, List.any_cons]
      refine ws_i (fun c => ws_s (Or.inl ⟨rfl, ?_⟩)) (fun c => ws_l (ws_m (ih (v + 1) _ e1 (by omega) (by omega)) (fun r hr2 => ?_)))
      · have : e2 p l[v] = true := e2_iff.mpr (by rw [c, hpI] at hq; omega)
        rw [this]; rfl
      · have : e2 p l[v] = false := by
          cases hb : e2 p l[v] with
          | false => rfl
          | true =>
            have hb := e2_iff.mp hb
            exact absurd (Int32.toInt_inj.mp (by rw [hq, hpI, hb.1, hb.2])) c
        rw [this, Bool.false_or]
        exact hr2
def afr (x : Nat) (α β : hp_T) : Prop := hp_R β = hp_R α ∧ hp_Q β = hp_Q α ∧ hp_I β = hp_I α ∧ ∀ κ b j, κ ≠ 26 → hp_E β κ b j = hp_E α κ b j
theorem k_addLinks_L (n : Nat) (hn : 70000 ≤ n) (x y : Nat) (W : List (Nat × Nat × Bool)) (hW48 : ∀ q ∈ W, q.1 ≤ 48 ∧ q.2.1 ≤ 48) (hW7 : W.length ≤ 64) (α0 : hp_T) : ∀ (d v : Nat) (α : hp_T) (l : List (Nat × Nat × Bool)) (cI vI : Int32), hp_R α 612 x = y → WC α y W → LKS α x l → afr x α0 α → cI.toInt = (l.length : Int) → vI.toInt = (v : Int) → v ≤ W.length → l.length + (W.length - v) ≤ 256 → 65 - v ≤ d → ws (f_X11_addLinks_L4 n x d α cI vI) (fun res => res.1.toInt = ((adL l (W.drop v)).length : Int) ∧ LKS res.2 x (adL l (W.drop v)) ∧ afr x α0 res.2) := by
  intro d
  induction d with
  | zero => intro v α l cI vI _ _ _ _ _ _ hv _ hd; omega
  | succ d ih =>
    intro v α l cI vI hy hW hL ha hc hv hvl hb hd
    have t64 := t_64
    have t256 : (256 : Int32).toInt = 256 := by decide
    rw [f_X11_addLinks_L4.eq_2]
    refine ws_l (ws_l ?_)
    rw [hy]
    refine ws_le (fun e => ws_s ?_) (fun e => ws_l ?_)
    · rw [hW.1] at e
      rw [List.drop_eq_nil_of_le (by omega)]
      exact ⟨hc, hL, ha⟩
    · rw [hW.1] at e
      have hvl2 : v < W.length := by omega
      have e1 : (vI + 1).toInt = ((v + 1 : Nat) : Int) := by rw [iw_add, lt1]; omega
      have hr := hW48 _ (List.getElem_mem hvl2)
      rw [List.drop_eq_getElem_cons hvl2, adL]
      refine ws_b (k_firstAt n α y W hW hW7 v vI hv hvl2) (fun r1 hr1 => ws_l (ws_b (k_manyAt n α y W hW hW7 v vI hv hvl2) (fun r2 hr2 => ws_l ?_)))
      have em : (r1 * (64 : Int32)).toInt = (W[v].1 : Int) * 64 := by rw [ii_mul (by rw [hr1, t64]; omega) (by rw [hr1, t64]; omega), hr1, t64]
      have hlk : (r1 * (64 : Int32) + r2).toInt = 64 * (W[v].1 : Int) + W[v].2.1 := by rw [ii_add (by rw [em, hr2]; omega) (by rw [em, hr2]; omega), em, hr2]; omega
      have nx : ∀ (β : hp_T) (l2 : List (Nat × Nat × Bool)) (c2 : Int32), hp_R β 612 x = y → WC β y W → LKS β x l2 → afr x α0 β → c2.toInt = (l2.length : Int) → l2.length + (W.length - (v + 1)) ≤ 256 → ws (f_X11_addLinks_L4 n x d β c2 (vI + 1)) (fun res => res.1.toInt = ((adL l2 (W.drop (v + 1))).length : Int) ∧ LKS res.2 x (adL l2 (W.drop (v + 1))) ∧ afr x α0 res.2) := fun β l2 c2 h1 h2 h3 h4 h5 h6 => ih (v + 1) β l2 c2 _ h1 h2 h3 h4 h5 e1 (by omega) h6 (by omega)
      unfold f_X11_isLink f_X11_addLinks_J71
      refine ws_bo (k_isLink_L n α x l hL (by omega) W[v] hr.2 _ cI hlk hc n 0 0 rfl (Nat.zero_le _) (by omega)) (fun hno => ?_) (fun hyes => ?_)
      · rw [List.drop_zero] at hno
        rw [if_neg hno]
        refine ws_lt (fun z => by rw [lt0] at z; omega) (fun z => ws_l (ws_le (fun z2 => by omega) (fun z2 => ws_l (ws_g (by omega) (by omega) (ws_l (ws_l (ws_l ?_)))))))
        rw [cl_n hc]
        refine nx (hp_sE α 26 (hp_R α 617 x) l.length _) (l ++ [W[v]]) _ hy ⟨hW.1, fun k q hk => hW.2 k q hk⟩ ⟨fun q hq => ?_, fun k q hk => ?_⟩ ⟨ha.1, ha.2.1, ha.2.2.1, fun κ b j hκ => ?_⟩ ?_ ?_
        · rcases List.mem_append.mp hq with h | h
          · exact hL.1 q h
          · rw [List.mem_singleton.mp h]; exact hr
        · show (hp_E (hp_sE α 26 (hp_R α 617 x) l.length _) 26 (hp_R α 617 x) k).toInt = _
          rw [hE_sE]
          rcases ap_get hk with ⟨g1, g2⟩ | ⟨g1, g2⟩
          · rw [if_neg (fun z => by have := z.2.2; omega)]
            exact hL.2 k q g2
          · rw [if_pos ⟨rfl, rfl, g1⟩, g2]
            exact hlk
        · rw [hE_sE, if_neg (fun z => hκ z.1)]
          exact ha.2.2.2 κ b j hκ
        · rw [iw_add, lt1, List.length_append, List.length_singleton]; omega
        · rw [List.length_append, List.length_singleton]; omega
      · rw [List.drop_zero] at hyes
        rw [if_pos hyes]
        exact ws_l (nx α l cI hy hW hL ha hc (by omega))
theorem k_chain_L (n : Nat) (hn : 70000 ≤ n) (x w : Nat) (R wI : Int32) (f : Nat → Int32) (hC : rC f) : ∀ (e d : Nat) (α : hp_T) (h s : Nat) (l : List (Nat × Nat × Bool)) (hI sI lI was kI : Int32), hp_R α 601 x = w → WR α w f → LKS α x l → hI.toInt = (h : Int) → sI.toInt = (s : Int) → lI.toInt = (l.length : Int) → kI.toInt = 17 - (e : Int) → h + e ≤ 17 → s ≤ 7 * h → l.length ≤ 7 * h → chV was → e + 1 ≤ d → ws (f_X11_chain_L46 n x d α R wI hI sI lI was kI) (fun res => res.1.toInt = chE wI (chL f R e was h s l)) := by
  intro e
  induction e with
  | zero =>
    intro d α h s l hI sI lI was kI h1 hW hL hh hs hl hk he hsb hlb hv hd
    obtain ⟨d, rfl⟩ : ∃ y, d = y + 1 := ⟨d - 1, by omega⟩
    have t16 : (16 : Int32).toInt = 16 := by decide
    rw [f_X11_chain_L46.eq_2, chL]
    unfold f_X11_chain_J124 f_X11_chain_J147 chE
    refine ws_lt (fun z => ?_) (fun z => by omega)
    exact ws_i (fun w0 => ws_hc (k_answer n α x hI) (fun z γ hz => ws_s (by rw [if_pos w0, show z = hI from hz.1]; exact hh))) (fun w0 => ws_i (fun w1 => ws_hc (k_answer n α x sI) (fun z γ hz => ws_s (by rw [if_neg w0, if_pos w1, show z = sI from hz.1]; exact hs))) (fun w1 => ws_hc (k_answer n α x lI) (fun z γ hz => ws_s (by rw [if_neg w0, if_neg w1, show z = lI from hz.1]; exact hl))))
  | succ e ih =>
    intro d α h s l hI sI lI was kI h1 hW hL hh hs hl hk he hsb hlb hv hd
    obtain ⟨d, rfl⟩ : ∃ y, d = y + 1 := ⟨d - 1, by omega⟩
    have t16 : (16 : Int32).toInt = 16 := by decide
    have h16 := hC.2.2.2.1
    rw [f_X11_chain_L46.eq_2, chL]
    unfold f_X11_chain_J124 f_X11_chain_J147
    refine ws_lt (fun z => by omega) (fun z => ws_l ?_)
    rw [h1]
    unfold f_X10_leastFrozenAbove
    refine ws_b (k_leastFrozen_L n α w f hC hW R was n 0 (-1) 0 rfl (Nat.zero_le _) (by omega) rfl) (fun v hv2 => ?_)
    have hr := lfA_r hC R was (f 3).toInt.toNat (by omega)
    rw [← hv2] at hr ⊢
    refine ws_i (fun m1 => ?_) (fun m1 => ws_l ?_)
    · rw [if_pos m1]
      unfold chE
      exact ws_i (fun w0 => ws_hc (k_answer n α x hI) (fun z γ hz => ws_s (by rw [if_pos w0, show z = hI from hz.1]; exact hh))) (fun w0 => ws_i (fun w1 => ws_hc (k_answer n α x sI) (fun z γ hz => ws_s (by rw [if_neg w0, if_pos w1, show z = sI from hz.1]; exact hs))) (fun w1 => ws_hc (k_answer n α x lI) (fun z γ hz => ws_s (by rw [if_neg w0, if_neg w1, show z = lI from hz.1]; exact hl))))
    · rw [if_neg m1]
      rcases hr with y | ⟨r1, r2, r3, r4⟩
      · exact absurd y m1
      have e1 : (hI + 1).toInt = ((h + 1 : Nat) : Int) := by rw [iw_add, lt1]; omega
      have e2' : (kI + 1).toInt = 17 - (e : Int) := by rw [iw_add, lt1]; omega
      unfold f_X11_chain_J114
      refine ws_i (fun c => ws_l ?_) (fun c => ws_l ?_)
      · rw [if_pos c]
        exact ih d α (h + 1) s l _ _ _ v _ h1 hW hL e1 hs hl e2' (by omega) (by omega) (by omega) (Or.inr ⟨r2, r3⟩) (by omega)
      · rw [if_neg c]
        rcases hv with y | ⟨w0, w1⟩
        · exact absurd y c
        have hlen := wyH_7 (i := was.toInt.toNat) (N := v.toInt.toNat) (by omega) (by omega)
        refine ws_b (k_toGrowth n hn α _ was v w0 (by omega)) (fun β hβ => ws_l (ws_l (ws_l ?_)))
        obtain ⟨hWC, hwf⟩ := hβ
        have hR612 : hp_R β 612 x = hp_R α 612 x := by rw [hwf.1]
        rw [hR612]
        have hLβ : LKS β x l := ⟨hL.1, fun k q hk => by rw [hwf.1, hwf.2.2.2.2.2 26 _ _ (by omega)]; exact hL.2 k q hk⟩
        have hin := wyH_in was.toInt.toNat v.toInt.toNat (by omega)
        have hl7 : (wyH was.toInt.toNat v.toInt.toNat).reverse.length ≤ 7 := by rw [List.length_reverse]; exact hlen
        have hWl := hWC.1
        rw [List.length_reverse] at hWl
        unfold f_X11_addLinks
        refine ws_hc (k_addLinks_L n hn x _ _ (fun q hq => by have := hin q hq; omega) (by omega) β n 0 β l lI 0 hR612 hWC hLβ ⟨rfl, rfl, rfl, fun _ _ _ _ => rfl⟩ hl rfl (Nat.zero_le _) (by omega) (by omega)) (fun r γ hγ => ws_l ?_)
        obtain ⟨g1, g2, g3⟩ := hγ
        rw [List.drop_zero] at g1 g2
        have hh1 : hfr_lx α γ := ⟨g3.1.trans hwf.1, g3.2.1.trans hwf.2.2.1, fun φ b p q => by rw [g3.2.2.1]; exact hwf.2.2.2.2.1 φ b (fun z => by omega), fun κ b j p q r s => by rw [g3.2.2.2 κ b j s]; exact hwf.2.2.2.2.2 κ b j (fun z => by omega)⟩
        have hal := adL_len (wyH was.toInt.toNat v.toInt.toNat).reverse l
        refine ih d γ (h + 1) (s + (wyH was.toInt.toNat v.toInt.toNat).length) _ _ _ r v _ (by rw [hh1.1]; exact h1) (WR_hf hW hC hh1) g2 e1 ?_ g1 e2' (by omega) (by omega) (by omega) (Or.inr ⟨r2, r3⟩) (by omega)
        rw [iw_add, hs, hWl]; omega
theorem k_chain (n : Nat) (hn : 70000 ≤ n) (α : hp_T) (x : Nat) (f : Nat → Int32) (hC : rC f) (h : RWX α x f) (a b : Int32) : ws (f_X11_chain n α x a b) (fun res => res.1.toInt = caA f a b) := by
  obtain ⟨w, u, h1, h2, h3, h4, -⟩ := h
  have t2 := t_2
  have bad : ∀ v : Int32, ¬ caOK f a b → ws (hq_c (f_X11_refuse n α x v) fun r β => some (r, β)) (fun res => res.1.toInt = caA f a b) := fun v hno => by
    unfold caA
    rw [if_neg hno]
    exact ws_hc (k_refuse n α x v) (fun z γ hz => ws_s (by rw [show z = -1 from hz.1]; rfl))
  unfold f_X11_chain f_X11_chain_J9
  refine ws_lt (fun e => bad 1 (fun q => by rw [lt0] at e; have := q.1.1; omega)) (fun e => ws_le (fun e2 => ws_l ?_) (fun e2 => bad 1 (fun q => by rw [t2] at e2; have := q.1.2; omega)))
  rw [lt0] at e
  rw [t2] at e2
  rw [h1]
  refine ws_b (k_logAt n h4 hC a) (fun o ho => ?_)
  by_cases hr : 0 ≤ a.toInt ∧ a.toInt < (f 0).toInt
  · rw [if_pos hr] at ho
    subst ho
    refine ws_hS ?_
    unfold caA
    rw [if_pos ⟨⟨e, e2⟩, hr⟩]
    exact k_chain_L n hn x w a b f hC 17 n α 0 0 [] 0 0 0 (-1) 0 h1 h4 ⟨fun q hq => absurd hq List.not_mem_nil, fun k q hk => (by cases hk)⟩ rfl rfl rfl rfl (by omega) (by omega) (Nat.zero_le _) (Or.inl rfl) (by omega)
  · rw [if_neg hr] at ho
    subst ho
    exact ws_hN (bad 2 (fun q => hr q.2))
end JN9_30
section JN9_31
set_option maxRecDepth 100000
noncomputable def agG (f : Nat → Int32) (a b : Nat) : Int32 := @ite Int32 (∃ r, r < (f 0).toInt.toNat ∧ agP f a b r) (Classical.propDecidable _) 1 0
theorem agG_b (f : Nat → Int32) (a b : Nat) : bo (agG f a b) (∃ r, r < (f 0).toInt.toNat ∧ agP f a b r) := by
  unfold agG
  by_cases h : ∃ r, r < (f 0).toInt.toNat ∧ agP f a b r
  · exact Or.inl ⟨if_pos h, h⟩
  · exact Or.inr ⟨if_neg h, h⟩
def spI (g : Nat → Nat → Int32) (a : Nat) : Nat → Nat → Int32 → Int32 → Int32 × Int32
  | 0, _, c, q => (c, q)
  | d + 1, b, c, q => if g a b = 0 then spI g a d (b + 1) (c + 1) (if c = 0 then Int32.ofNat (10 * a + b) else q) else spI g a d (b + 1) c q
def spO (g : Nat → Nat → Int32) : Nat → Nat → Int32 → Int32 → Int32 × Int32
  | 0, _, c, q => (c, q)
  | d + 1, a, c, q => spO g d (a + 1) (spI g a (3 - a) (a + 1) c q).1 (spI g a (3 - a) (a + 1) c q).2
def spV (c q : Int32) (k : Nat) : Prop := (c.toInt = 0 ∧ q = -1) ∨ (1 ≤ c.toInt ∧ c.toInt ≤ (k : Int) ∧ 0 ≤ q.toInt)
theorem spI_v (g : Nat → Nat → Int32) (a : Nat) (ha : a < 4) : ∀ (d b : Nat) (c q : Int32) (k : Nat), b + d ≤ 4 → k + d ≤ 100 → spV c q k → spV (spI g a d b c q).1 (spI g a d b c q).2 (k + d) := by
  intro d
  induction d with
  | zero => intro b c q k _ _ h; exact h
  | succ d ih =>
    intro b c q k hb hk h
    rw [spI]
    have hq : ∀ m, m = k + (d + 1) → m = (k + 1) + d := fun m h => by omega
    rw [hq _ rfl]
    split
    · refine ih (b + 1) _ _ (k + 1) (by omega) (by omega) (Or.inr ?_)
      have e1 : (c + 1).toInt = c.toInt + 1 := by rw [iw_add, lt1]; rcases h with h | h <;> omega
      rcases h with ⟨h1, h2⟩ | ⟨h1, h2, h3⟩
      · have hc : c = 0 := Int32.toInt_inj.mp (by rw [h1]; rfl)
        rw [if_pos hc, Int32.toInt_ofNat_of_lt (by omega)]
        omega
      · rw [if_neg (fun z => by rw [z, lt0] at h1; omega)]
        omega
    · refine ih (b + 1) _ _ (k + 1) (by omega) (by omega) ?_
      rcases h with h | ⟨h1, h2, h3⟩
      · exact Or.inl h
      · exact Or.inr ⟨h1, by omega, h3⟩
def spE (w c q : Int32) : Int32 := if w = 0 then c else if c = 0 then -1 else q
theorem v_split_I (n : Nat) (σ : ms_T) (hC : rC (ms_E σ 40)) (wI : Int32) (P : Int32 × ms_T → Prop) (rec : ms_T → Int32 → Int32 → Int32 → Int32 → Option (Int32 × ms_T)) (a : Nat) (ha : a < 4) (aI : Int32) (haI : aI.toInt = (a : Int)) : ∀ (d e b : Nat) (c q bI : Int32) (k : Nat), bI.toInt = (b : Int) → b + e = 4 → k + e ≤ 50 → spV c q k → pr (rec σ wI (spI (agG (ms_E σ 40)) a e b c q).1 (spI (agG (ms_E σ 40)) a e b c q).2 (aI + 1)) P → pr (f_X12_split_L42 n rec d σ wI c q aI bI) P := by
  intro d
  induction d with
  | zero => intro e b c q bI k _ _ _ _ _; rw [f_X12_split_L42.eq_1]; exact pr_0
  | succ d ih =>
    intro e b c q bI k hb he hk hv hP
    have t4 := t_4
    rw [f_X12_split_L42.eq_2]
    refine pr_le (fun z => pr_l ?_) (fun z => ?_)
    · have e0 : e = 0 := by omega
      subst e0
      exact hP
    · obtain ⟨e, rfl⟩ : ∃ y, e = y + 1 := ⟨e - 1, by omega⟩
      have e1 : (bI + 1).toInt = ((b + 1 : Nat) : Int) := by rw [iw_add, lt1]; omega
      unfold f_X12_split_J81 f_X12_split_J82
      rw [spI] at hP
      have hag := agG_b (ms_E σ 40) a b
      refine pr_bo (v_isAgreed n σ hC a b ha (by omega) aI bI haI hb) (fun no => pr_l ?_) (fun yes => pr_l ?_)
      · have g0 : agG (ms_E σ 40) a b = 0 := by rcases hag with h | h; exact absurd h.2 no; exact h.1
        rw [if_pos g0] at hP
        have e2 : (c + 1).toInt = c.toInt + 1 := by rw [iw_add, lt1]; rcases hv with h | h <;> omega
        have v2 := spI_v (agG (ms_E σ 40)) a ha 1 b c q k (by omega) (by omega) hv
        rw [spI, if_pos g0, spI] at v2
        rcases hv with ⟨h1, h2⟩ | ⟨h1, h2, h3⟩
        · have hc : c = 0 := Int32.toInt_inj.mp (by rw [h1]; rfl)
          refine pr_le (fun y => by rw [h2, lt0] at y; exact absurd y (by decide)) (fun y => pr_l ?_)
          rw [if_pos hc] at hP v2
          have hi : (10 : Int32) * aI + bI = Int32.ofNat (10 * a + b) := i_ofN (by rw [iw_add, iw_mul, t_10]; omega)
          rw [hi]
          exact ih e (b + 1) (c + 1) _ _ (k + 1) e1 (by omega) (by omega) v2 hP
        · have hc : ¬ c = 0 := fun y => by rw [y, lt0] at h1; omega
          refine pr_le (fun y => pr_l ?_) (fun y => by rw [lt0] at y; omega)
          rw [if_neg hc] at hP v2
          exact ih e (b + 1) (c + 1) _ _ (k + 1) e1 (by omega) (by omega) v2 hP
      · have g1 : ¬ agG (ms_E σ 40) a b = 0 := by rcases hag with h | h; (rw [h.1]; decide); exact absurd yes h.2
        rw [if_neg g1] at hP
        exact ih e (b + 1) c q _ k e1 (by omega) (by omega) hv hP
theorem v_split_O (n : Nat) (σ : ms_T) (hC : rC (ms_E σ 40)) (wI : Int32) (hw : wI = 0 ∨ wI = 1) : ∀ (d e a : Nat) (c q aI : Int32) (k : Nat), aI.toInt = (a : Int) → a + e = 4 → k ≤ 10 * a → spV c q k → pr (f_X12_split_L30 n d σ wI c q aI) (fun res => res.1 = spE wI (spO (agG (ms_E σ 40)) e a c q).1 (spO (agG (ms_E σ 40)) e a c q).2) := by
  intro d
  induction d with
  | zero => intro e a c q aI k _ _ _ _; rw [f_X12_split_L30.eq_1]; exact pr_0
  | succ d ih =>
    intro e a c q aI k ha he hk hv
    have t4 := t_4
    rw [f_X12_split_L30.eq_2]
    refine pr_le (fun z => ?_) (fun z => pr_l ?_)
    · have e0 : e = 0 := by omega
      subst e0
      show pr _ (fun (res : Int32 × ms_T) => res.1 = if wI = 0 then c else if c = 0 then -1 else q)
      refine pr_i (fun w0 => pr_s (by rw [if_pos w0])) (fun w0 => pr_le (fun y => pr_s ?_) (fun y => pr_c (v_refuse n _ 5) (fun r τ h => pr_s ?_)))
      · rw [if_neg w0]
        rw [lt0] at y
        rcases hv with ⟨h1, h2⟩ | ⟨h1, h2, h3⟩
        · rw [h2] at y; exact absurd y (by decide)
        · rw [if_neg (fun u => by rw [u, lt0] at h1; omega)]
      · rw [if_neg w0]
        rw [lt0] at y
        rcases hv with ⟨h1, h2⟩ | ⟨h1, h2, h3⟩
        · rw [if_pos (Int32.toInt_inj.mp (by rw [h1]; rfl))]; exact h
        · omega
    · obtain ⟨e, rfl⟩ : ∃ y, e = y + 1 := ⟨e - 1, by omega⟩
      have e1 : (aI + 1).toInt = ((a + 1 : Nat) : Int) := by rw [iw_add, lt1]; omega
      refine v_split_I n σ hC wI _ (f_X12_split_L30 n d) a (by omega) aI ha n (3 - a) (a + 1) c q _ k e1 (by omega) (by omega) hv ?_
      rw [spO]
      exact ih e (a + 1) _ _ _ (k + (3 - a)) e1 (by omega) (by omega) (spI_v _ a (by omega) _ _ _ _ k (by omega) (by omega) hv)
abbrev slOK (w : Int32) : Prop := 0 ≤ w.toInt ∧ w.toInt ≤ 1
noncomputable def slA (f : Nat → Int32) (w : Int32) : Int32 := if slOK w then spE w (spO (agG f) 4 0 0 (-1)).1 (spO (agG f) 4 0 0 (-1)).2 else -1
theorem v_split (n : Nat) (σ : ms_T) (hC : rC (ms_E σ 40)) (w : Int32) : pr (f_X12_split n σ w) (fun res => res.1 = slA (ms_E σ 40) w) := by
  have t1 := lt1
  unfold f_X12_split f_X12_split_J15 slA
  refine pr_bo (v_isIn n w 0 1) (fun h0 => v_is1 n σ 1 (by decide) (pr_s ?_)) (fun h1 => v_is0 n σ ?_)
  · rw [lt0, t1] at h0
    rw [if_neg h0]
  · rw [lt0, t1] at h1
    rw [if_pos h1]
    exact v_split_O n (ms_sI (ms_sI σ 653 0) 652 0) hC w (by
      by_cases q : w.toInt = 0
      · exact Or.inl (Int32.toInt_inj.mp (by rw [q]; rfl))
      · exact Or.inr (Int32.toInt_inj.mp (by rw [t1]; omega))) n 4 0 0 (-1) 0 0 rfl rfl (by omega) (Or.inl ⟨rfl, rfl⟩)
theorem k_split_I (n : Nat) (hn : 70000 ≤ n) (x w : Nat) (f : Nat → Int32) (hC : rC f) (wI : Int32) (P : Int32 × hp_T → Prop) (rec : hp_T → Int32 → Int32 → Int32 → Int32 → Option (Int32 × hp_T)) (a : Nat) (ha : a < 4) (aI : Int32) (haI : aI.toInt = (a : Int)) : ∀ (e b : Nat) (d : Nat) (α : hp_T) (c q bI : Int32) (k : Nat), hp_R α 601 x = w → WR α w f → bI.toInt = (b : Int) → b + e = 4 → e + 1 ≤ d → k + e ≤ 50 → spV c q k → (∀ β, hp_R β 601 x = w → WR β w f → ws (rec β wI (spI (agG f) a e b c q).1 (spI (agG f) a e b c q).2 (aI + 1)) P) → ws (f_X11_split_L34 n x rec d α wI c q aI bI) P := by
  intro e
  induction e with
  | zero =>
    intro b d α c q bI k h1 h hb he hd hk hv hP
    obtain ⟨d, rfl⟩ : ∃ y, d = y + 1 := ⟨d - 1, by omega⟩
    have t4 := t_4
    rw [f_X11_split_L34.eq_2]
    exact ws_le (fun z => ws_l (hP α h1 h)) (fun z => by omega)
  | succ e ih =>
    intro b d α c q bI k h1 h hb he hd hk hv hP
    obtain ⟨d, rfl⟩ : ∃ y, d = y + 1 := ⟨d - 1, by omega⟩
    have t4 := t_4
    have e1 : (bI + 1).toInt = ((b + 1 : Nat) : Int) := by rw [iw_add, lt1]; omega
    rw [f_X11_split_L34.eq_2]
    refine ws_le (fun z => by omega) (fun z => ws_l (ws_l ?_))
    rw [h1]
    refine ws_b (k_watcherAt n h.1 a ha aI haI) (fun o ho => ?_)
    subst ho
    refine ws_hS (ws_l (ws_b (k_watcherAt n h.1 b (by omega) bI hb) (fun o ho => ?_)))
    subst ho
    refine ws_hS ?_
    refine ws_hc (k_doAgree n hn α w f hC h a b ha (by omega)) (fun v β hv2 => ?_)
    obtain ⟨hb2, hj⟩ := hv2
    have hβ := WR_jf h hC hj
    have h1β : hp_R β 601 x = w := by rw [hj.1]; exact h1
    have hag := agG_b f a b
    unfold f_X11_split_J84 f_X11_split_J88
    rcases hb2 with ⟨ev, yes⟩ | ⟨ev, no⟩
    · replace ev : v = 1 := ev
      subst ev
      have g1 : ¬ agG f a b = 0 := by rcases hag with y | y; (rw [y.1]; decide); exact absurd yes y.2
      refine ws_i (fun y => absurd y (by decide)) (fun _ => ws_l ?_)
      refine ih (b + 1) d β c q _ k h1β hβ e1 (by omega) (by omega) (by omega) hv (fun γ y1 y2 => ?_)
      have := hP γ y1 y2
      rw [spI, if_neg g1] at this
      exact this
    · replace ev : v = 0 := ev
      subst ev
      have g0 : agG f a b = 0 := by rcases hag with y | y; exact absurd y.2 no; exact y.1
      have v2 := spI_v (agG f) a ha 1 b c q k (by omega) (by omega) hv
      rw [spI, if_pos g0, spI] at v2
      have hi : (10 : Int32) * aI + bI = Int32.ofNat (10 * a + b) := i_ofN (by rw [iw_add, iw_mul, t_10]; omega)
      refine ws_i (fun _ => ws_i (fun hc => ws_l (ws_l ?_)) (fun hc => ws_l (ws_l ?_))) (fun y => absurd rfl y)
      · rw [if_pos hc] at v2
        rw [hi]
        refine ih (b + 1) d β (c + 1) _ _ (k + 1) h1β hβ e1 (by omega) (by omega) (by omega) v2 (fun γ y1 y2 => ?_)
        have := hP γ y1 y2
        rw [spI, if_pos g0, if_pos hc] at this
        exact this
      · rw [if_neg hc] at v2
        refine ih (b + 1) d β (c + 1) _ _ (k + 1) h1β hβ e1 (by omega) (by omega) (by omega) v2 (fun γ y1 y2 => ?_)
        have := hP γ y1 y2
        rw [spI, if_pos g0, if_neg hc] at this
        exact this
theorem k_split_O (n : Nat) (hn : 70000 ≤ n) (x w : Nat) (f : Nat → Int32) (hC : rC f) (wI : Int32) : ∀ (e a : Nat) (d : Nat) (α : hp_T) (c q aI : Int32) (k : Nat), hp_R α 601 x = w → WR α w f → aI.toInt = (a : Int) → a + e = 4 → e + 1 ≤ d → k ≤ 10 * a → spV c q k → ws (f_X11_split_L22 n x d α wI c q aI) (fun res => res.1 = spE wI (spO (agG f) e a c q).1 (spO (agG f) e a c q).2) := by
  intro e
  induction e with
  | zero =>
    intro a d α c q aI k h1 h ha he hd hk hv
    obtain ⟨d, rfl⟩ : ∃ y, d = y + 1 := ⟨d - 1, by omega⟩
    have t4 := t_4
    rw [f_X11_split_L22.eq_2]
    show ws _ (fun (res : Int32 × hp_T) => res.1 = if wI = 0 then c else if c = 0 then -1 else q)
    refine ws_le (fun z => ws_i (fun w0 => ws_hc (k_answer n α x c) (fun y γ hy => ws_s (by rw [if_pos w0]; exact hy.1))) (fun w0 => ws_i (fun c0 => ws_hc (k_refuse n α x 5) (fun y γ hy => ws_s (by rw [if_neg w0, if_pos c0]; exact hy.1))) (fun c0 => ws_hc (k_answer n α x q) (fun y γ hy => ws_s (by rw [if_neg w0, if_neg c0]; exact hy.1))))) (fun z => by omega)
  | succ e ih =>
    intro a d α c q aI k h1 h ha he hd hk hv
    obtain ⟨d, rfl⟩ : ∃ y, d = y + 1 := ⟨d - 1, by omega⟩
    have t4 := t_4
    have e1 : (aI + 1).toInt = ((a + 1 : Nat) : Int) := by rw [iw_add, lt1]; omega
    rw [f_X11_split_L22.eq_2]
    refine ws_le (fun z => by omega) (fun z => ws_l ?_)
    refine k_split_I n hn x w f hC wI _ (f_X11_split_L22 n x d) a (by omega) aI ha (3 - a) (a + 1) n α c q _ k h1 h e1 (by omega) (by omega) (by omega) hv (fun β y1 y2 => ?_)
    rw [spO]
    exact ih (a + 1) d β _ _ _ (k + (3 - a)) y1 y2 e1 (by omega) (by omega) (by omega) (spI_v _ a (by omega) _ _ _ _ k (by omega) (by omega) hv)
theorem k_split (n : Nat) (hn : 70000 ≤ n) (α : hp_T) (x : Nat) (f : Nat → Int32) (hC : rC f) (h : RWX α x f) (v : Int32) : ws (f_X11_split n α x v) (fun res => res.1 = slA f v) := by
  have t1 := lt1
  obtain ⟨w, u, h1, h2, h3, h4, -⟩ := h
  have bad : ¬ slOK v → ws (hq_c (f_X11_refuse n α x 1) fun r β => some (r, β)) (fun res => res.1 = slA f v) := fun hno => by
    unfold slA
    rw [if_neg hno]
    exact ws_hc (k_refuse n α x 1) (fun z γ hz => ws_s hz.1)
  unfold f_X11_split f_X11_split_J9
  refine ws_lt (fun e => bad (fun q => by rw [lt0] at e; have := q.1; omega)) (fun e0 => ws_le (fun e1 => ?_) (fun e => bad (fun q => by have := q.2; omega)))
  rw [lt0] at e0
  rw [t1] at e1
  unfold slA
  rw [if_pos ⟨e0, e1⟩]
  exact k_split_O n hn x w f hC v 4 0 n α 0 (-1) 0 0 h1 h4 rfl rfl (by omega) (by omega) (Or.inl ⟨rfl, rfl⟩)
end JN9_31
section JN9_32
set_option maxRecDepth 100000
theorem mx_r (m h x : Int32) (hm : 0 < m.toInt) (h0 : 0 ≤ h.toInt) (h1 : h.toInt ≤ 70000) (x0 : 0 ≤ x.toInt) (x1 : x.toInt ≤ 70000) : 0 ≤ (mx m h x).toInt ∧ (mx m h x).toInt < m.toInt := by
  obtain ⟨H, hH⟩ : ∃ H, H = h.toInt * h.toInt := ⟨_, rfl⟩
  have H0 : 0 ≤ H := by rw [hH]; exact Int.mul_nonneg h0 h0
  have H1 : H ≤ 4900000000 := by
    rw [hH]
    exact Int.le_trans (Int.mul_le_mul h1 h1 h0 (by decide)) (by decide)
  have i3 : (3 : Int64).toInt = 3 := by decide
  have i7 : (7 : Int64).toInt = 7 := by decide
  have e1 : (h.toInt64 * h.toInt64).toInt = H := by rw [jl_mul (by rw [i64_of, ← hH]; omega) (by rw [i64_of, ← hH]; omega), i64_of, ← hH]
  have e2 : ((3 : Int64) * h.toInt64).toInt = 3 * h.toInt := by rw [jl_mul (by rw [i64_of, i3]; omega) (by rw [i64_of, i3]; omega), i64_of, i3]
  have e3 : (h.toInt64 * h.toInt64 + (3 : Int64) * h.toInt64).toInt = H + 3 * h.toInt := by rw [jl_add (by rw [e1, e2]; omega) (by rw [e1, e2]; omega), e1, e2]
  have e4 : (h.toInt64 * h.toInt64 + (3 : Int64) * h.toInt64 + x.toInt64).toInt = H + 3 * h.toInt + x.toInt := by rw [jl_add (by rw [e3, i64_of]; omega) (by rw [e3, i64_of]; omega), e3, i64_of]
  have e5 : (h.toInt64 * h.toInt64 + (3 : Int64) * h.toInt64 + x.toInt64 + (7 : Int64)).toInt = H + 3 * h.toInt + x.toInt + 7 := by rw [jl_add (by rw [e4, i7]; omega) (by rw [e4, i7]; omega), e4, i7]
  obtain ⟨T, hT⟩ : ∃ T, T = h.toInt64 * h.toInt64 + (3 : Int64) * h.toInt64 + x.toInt64 + (7 : Int64) := ⟨_, rfl⟩
  rw [← hT] at e5
  have hr := jl_rem (x := T) (m := m) (by omega) (by omega) hm
  have h32 := congrArg Int64.toInt (rem_32 (x := T) (m := m) (by omega) (by omega) hm)
  rw [i64_of, hr] at h32
  have em : (mx m h x).toInt = T.toInt.tmod m.toInt := by
    unfold mx
    rw [← hT]
    exact h32
  rw [em]
  exact ⟨Int.tmod_nonneg _ (by omega), Int.tmod_lt_of_pos _ hm⟩
theorem bt_r (m a b : Int32) (hm : 0 < m.toInt) (hm2 : m.toInt ≤ 65521) (a0 : 0 ≤ a.toInt) (a1 : a.toInt ≤ 70000) (b0 : 0 ≤ b.toInt) (b1 : b.toInt ≤ 70000) : 0 ≤ (bt m a b).toInt ∧ (bt m a b).toInt < m.toInt := by
  have h := mx_r m 2 a hm (by decide) (by decide) a0 a1
  exact mx_r m _ b hm h.1 (by omega) b0 b1
theorem eml_r (m : Int32) (hm : 0 < m.toInt) (hm2 : m.toInt ≤ 65521) (g : Nat → Int32) : ∀ k, (∀ j, j < k → 0 ≤ (g j).toInt ∧ (g j).toInt ≤ 70000) → 0 ≤ (eml m g k).toInt ∧ (eml m g k).toInt ≤ 65521 := by
  intro k
  induction k with
  | zero => intro _; exact ⟨by show 0 ≤ (1 : Int32).toInt; decide, by show (1 : Int32).toInt ≤ 65521; decide⟩
  | succ k ih =>
    intro h
    have q := ih (fun j hj => h j (by omega))
    have r := mx_r m (eml m g k) (g k) hm q.1 (by omega) (h k (by omega)).1 (h k (by omega)).2
    rw [eml]
    exact ⟨r.1, by omega⟩
theorem TR_r (m : Int32) (hm : 0 < m.toInt) (hm2 : m.toInt ≤ 65521) : ∀ (d : Nat) (l : List Int32), (∀ x ∈ l, 0 ≤ x.toInt ∧ x.toInt ≤ 65521) → 0 ≤ (TR (bt m) d l).toInt ∧ (TR (bt m) d l).toInt ≤ 65521 := by
  have hd : ∀ l : List Int32, (∀ x ∈ l, 0 ≤ x.toInt ∧ x.toInt ≤ 65521) → 0 ≤ (l.headD 0).toInt ∧ (l.headD 0).toInt ≤ 65521 := fun l h => by
    cases l with
    | nil => exact ⟨by show 0 ≤ (0 : Int32).toInt; decide, by show (0 : Int32).toInt ≤ 65521; decide⟩
    | cons a l => exact h a List.mem_cons_self
  intro d
  induction d with
  | zero => intro l h; exact hd l h
  | succ d ih =>
    intro l h
    rw [TR]
    split
    · exact hd l h
    · have q1 := ih (l.take (p0 l.length)) (fun x hx => h x (List.mem_of_mem_take hx))
      have q2 := ih (l.drop (p0 l.length)) (fun x hx => h x (List.mem_of_mem_drop hx))
      have r := bt_r m _ _ hm hm2 q1.1 (by omega) q2.1 (show (TR (bt m) d (l.drop (p0 l.length))).toInt ≤ 70000 by omega)
      exact ⟨r.1, by omega⟩
def MR (f : Nat → Int32) : Prop := ∀ r, r < (f 0).toInt.toNat → ∀ x ∈ EL f r, 0 ≤ x.toInt ∧ x.toInt ≤ 65521
theorem TMK_r {f : Nat → Int32} (hC : rC f) {L : List Int32} (h : ∀ x ∈ L, 0 ≤ x.toInt ∧ x.toInt ≤ 65521) (a k : Nat) : 0 ≤ (TMK (f 1) L a k).toInt ∧ (TMK (f 1) L a k).toInt ≤ 65521 := by
  have hm := hC.2.1
  unfold TMK
  split
  · exact ⟨by decide, by decide⟩
  · exact TR_r (f 1) (by omega) (by omega) 6 _ (fun x hx => h x (List.mem_of_mem_drop (List.mem_of_mem_take hx)))
theorem MR_WR {α : hp_T} {w : Nat} {f : Nat → Int32} (h : WR α w f) (hC : rC f) : MR f := by
  have hm := hC.2.1
  intro r hr x hx
  unfold EL at hx
  obtain ⟨i, hi, rfl⟩ := List.mem_map.mp hx
  rw [List.mem_range] at hi
  obtain ⟨⟨-, -, -, b4⟩, -⟩ := (h.2.2.1 r hr).2 i hi
  rw [EM_l]
  refine eml_r (f 1) (by omega) (by omega) _ _ (fun j hj => ?_)
  have hmem : (ltr f r i).getD j 0 ∈ ltr f r i := by
    rw [List.getD_eq_getElem?_getD, List.getElem?_eq_getElem hj]
    exact List.getElem_mem hj
  have := b4 _ hmem
  exact ⟨this.1, by omega⟩
def te : Nat → Int32
  | 0 => 1
  | 1 => 10
  | 2 => 100
  | 3 => 1000
  | _ => 10000
def dg1 (v : Int32) (k : Nat) : Int32 := (48 : Int32) + (v / te k - v / te k / (10 : Int32) * (10 : Int32))
def emL (v : Int32) : Nat → List Int32
  | 0 => [dg1 v 0]
  | k + 1 => dg1 v (k + 1) :: emL v k
theorem emL_len (v : Int32) : ∀ k, (emL v k).length = k + 1 := by
  intro k
  induction k with
  | zero => rfl
  | succ k ih => rw [emL, List.length_cons, ih]
def dE (v : Int32) : Nat := if v.toInt ≤ 9 then 0 else if v.toInt ≤ 99 then 1 else if v.toInt ≤ 999 then 2 else if v.toInt ≤ 9999 then 3 else 4
def dgs (v : Int32) : List Int32 := emL v (dE v)
theorem dE_4 (v : Int32) : dE v ≤ 4 := by unfold dE; split; omega; split; omega; split; omega; split <;> omega
theorem te_t : ∀ k, k ≤ 4 → (te k).toInt = (10 : Int) ^ k := by decide
theorem te_p : ∀ k, k ≤ 4 → 0 < (te k).toInt ∧ ¬ te k = 0 := by decide
theorem te_m : ∀ k, k < 4 → te k * (10 : Int32) = te (k + 1) ∧ te (k + 1) / (10 : Int32) = te k := by decide
theorem te_0 : te 0 / (10 : Int32) = 0 := by decide
theorem dg1_r {v : Int32} (h0 : 0 ≤ v.toInt) {k : Nat} (hk : k ≤ 4) : 48 ≤ (dg1 v k).toInt ∧ (dg1 v k).toInt ≤ 57 := by
  have t10 := t_10
  have hp := (te_p k hk).1
  have hd := ii_div h0 hp
  have h1 : 0 ≤ (v / te k).toInt := by rw [hd]; exact Int.ediv_nonneg h0 (by omega)
  have hr := ii_rem (x := v / te k) (y := 10) h1 (by decide)
  have t48 := t_48
  unfold dg1
  rw [iw_add, hr, t10, t48]
  omega
theorem dE_k {v : Int32} (h0 : 0 ≤ v.toInt) (h1 : v.toInt ≤ 70000) {k : Nat} (hk : k ≤ 4) : (v / te k).toInt ≤ 9 ↔ dE v ≤ k := by
  have hd := ii_div h0 (te_p k hk).1
  rw [hd]
  unfold dE
  have : k = 0 ∨ k = 1 ∨ k = 2 ∨ k = 3 ∨ k = 4 := by omega
  have q0 : (te 0).toInt = 1 := by decide
  have q1 : (te 1).toInt = 10 := by decide
  have q2 : (te 2).toInt = 100 := by decide
  have q3 : (te 3).toInt = 1000 := by decide
  have q4 : (te 4).toInt = 10000 := by decide
  rcases this with rfl | rfl | rfl | rfl | rfl
  · rw [q0]; split <;> (try split) <;> (try split) <;> (try split) <;> omega
  · rw [q1]; split <;> (try split) <;> (try split) <;> (try split) <;> omega
  · rw [q2]; split <;> (try split) <;> (try split) <;> (try split) <;> omega
  · rw [q3]; split <;> (try split) <;> (try split) <;> (try split) <;> omega
  · rw [q4]; split <;> (try split) <;> (try split) <;> (try split) <;> omega
def TDS (σ : ms_T) (T : List Int32) : Prop := (ms_I σ 697).toInt = (T.length : Int) ∧ ∀ k, k < T.length → some (ms_E σ 59 k) = T[k]?
theorem v_tells (n : Nat) {σ : ms_T} {T : List Int32} (h : TDS σ T) (c : Int32) : pr (f_X12_tells n σ c) (fun τ => TDS τ (T ++ [c]) ∧ fr [697] [59] σ τ) := by
  unfold f_X12_tells
  refine pr_g (fun g0 g1 => pr_l (pr_l (pr_s ⟨⟨?_, fun k hk => ?_⟩, fr_tr (fr_sE (by decide)) (fr_sI (by decide))⟩)))
  · rw [mI_sI, if_pos rfl]
    show (ms_I σ 697 + 1).toInt = _
    rw [iw_add, lt1, List.length_append, List.length_singleton, h.1]
    have := h.1
    omega
  · rw [List.length_append, List.length_singleton] at hk
    rw [mE_sI, mE_sE, cl_n h.1]
    by_cases ek : k = T.length
    · rw [if_pos ⟨rfl, ek⟩, ek, List.getElem?_append_right (Nat.le_refl _), Nat.sub_self]; rfl
    · rw [if_neg (fun q => ek q.2), List.getElem?_append_left (by omega)]
      exact h.2 k (by omega)
theorem v_emit (n : Nat) (v : Int32) : ∀ (d k : Nat) (σ : ms_T) (T : List Int32), k ≤ 4 → TDS σ T → pr (f_X12_tellsNumber_L18 n d σ v (te k)) (fun τ => TDS τ (T ++ emL v k) ∧ fr [697] [59] σ τ) := by
  intro d
  induction d with
  | zero => intro k σ T _ _; rw [f_X12_tellsNumber_L18.eq_1]; exact pr_0
  | succ d ih =>
    intro k σ T hk hT
    rw [f_X12_tellsNumber_L18.eq_2]
    refine pr_le (fun e => by have := (te_p k hk).1; rw [lt0] at e; omega) (fun _ => pr_n (fun _ => pr_b (v_tells n hT _) (fun τ hτ => pr_l ?_)))
    cases k with
    | zero =>
      rw [te_0]
      cases d with
      | zero => rw [f_X12_tellsNumber_L18.eq_1]; exact pr_0
      | succ d =>
        rw [f_X12_tellsNumber_L18.eq_2]
        exact pr_le (fun _ => pr_s hτ) (fun e => absurd e (by decide))
    | succ k =>
      rw [(te_m k (by omega)).2]
      refine pr_m (ih k τ _ (by omega) hτ.1) (fun υ hυ => ⟨?_, fr_tr hτ.2 hυ.2⟩)
      rw [List.append_assoc] at hυ
      exact hυ.1
theorem v_number_L (n : Nat) (v : Int32) (h0 : 0 ≤ v.toInt) (h1 : v.toInt ≤ 70000) (σ : ms_T) (T : List Int32) (hT : TDS σ T) : ∀ (d k : Nat), k ≤ dE v → pr (f_X12_tellsNumber_L2 n d σ v (te k)) (fun τ => TDS τ (T ++ dgs v) ∧ fr [697] [59] σ τ) := by
  intro d
  induction d with
  | zero => intro k _; rw [f_X12_tellsNumber_L2.eq_1]; exact pr_0
  | succ d ih =>
    intro k hk
    have h4 := dE_4 v
    have t9 : (9 : Int32).toInt = 9 := by decide
    have q := dE_k h0 h1 (k := k) (by omega)
    rw [f_X12_tellsNumber_L2.eq_2]
    refine pr_n (fun _ => pr_le (fun e => ?_) (fun e => pr_l ?_))
    · rw [t9] at e
      have : dE v = k := by have := q.mp e; omega
      unfold dgs
      rw [this]
      exact v_emit n v n k σ T (by omega) hT
    · rw [t9] at e
      have : ¬ dE v ≤ k := fun z => by have := q.mpr z; omega
      rw [(te_m k (by omega)).1]
      exact ih (k + 1) (by omega)
theorem v_number (n : Nat) (v : Int32) (h0 : 0 ≤ v.toInt) (h1 : v.toInt ≤ 70000) {σ : ms_T} {T : List Int32} (hT : TDS σ T) : pr (f_X12_tellsNumber n σ v) (fun τ => TDS τ (T ++ dgs v) ∧ fr [697] [59] σ τ) := by
  unfold f_X12_tellsNumber
  exact v_number_L n v h0 h1 σ T hT n 0 (Nat.zero_le _)
def cs (i : Nat) : List Int32 := (List.range (hp_len i).toInt.toNat).map (hp_ch i)
theorem cs_gt (i k : Nat) (h : k < (cs i).length) : (cs i)[k] = hp_ch i k := by
  have q : (cs i)[k]? = some (hp_ch i k) := by
    unfold cs at h ⊢
    rw [List.length_map, List.length_range] at h
    rw [List.getElem?_map, List.getElem?_range h]; rfl
  rw [List.getElem?_eq_getElem h] at q
  exact Option.some.inj q
theorem EL_gt {f : Nat → Int32} {r i : Nat} (h : i < (f (72 + r)).toInt.toNat) (h2 : i < (EL f r).length) : (EL f r)[i] = EM f r i := by
  have q := EL_get f r i h
  rw [List.getElem?_eq_getElem h2] at q
  exact Option.some.inj q
theorem v_says_L (n i : Nat) (hi : i < 21) (v : Int32) (h0 : 0 ≤ v.toInt) (h1 : v.toInt ≤ 70000) (σ0 : ms_T) (T : List Int32) : ∀ (d k : Nat) (σ : ms_T) (kI : Int32), kI.toInt = (k : Int) → k ≤ (cs i).length → TDS σ (T ++ (cs i).take k) → fr [697] [59] σ0 σ → pr (f_X12_says_L15 n i d σ v kI) (fun τ => TDS τ (T ++ cs i ++ [32] ++ dgs v) ∧ fr [697] [59] σ0 τ) := by
  intro d
  induction d with
  | zero => intro k σ kI _ _ _ _; rw [f_X12_says_L15.eq_1]; exact pr_0
  | succ d ih =>
    intro k σ kI hk hkl hT hf
    have hl := st_len i hi
    have hcl : (cs i).length = (hp_len i).toInt.toNat := by unfold cs; rw [List.length_map, List.length_range]
    rw [f_X12_says_L15.eq_2]
    refine pr_le (fun e => ?_) (fun e => pr_q (fun _ _ => ?_))
    · rw [List.take_of_length_le (by omega)] at hT
      refine pr_b (v_tells n hT 32) (fun τ hτ => pr_b (v_number n v h0 h1 hτ.1) (fun υ hυ => pr_s ⟨hυ.1, fr_tr hf (fr_tr hτ.2 hυ.2)⟩))
    · have hk2 : k < (cs i).length := by omega
      refine pr_b (v_tells n hT _) (fun τ hτ => pr_l ?_)
      refine ih (k + 1) τ _ (by rw [iw_add, lt1]; omega) (by omega) ?_ (fr_tr hf hτ.2)
      have e1 : (cs i).take (k + 1) = (cs i).take k ++ [hp_ch i k] := by
        rw [List.take_succ_eq_append_getElem hk2]
        congr 2
        exact cs_gt i k hk2
      rw [e1, ← List.append_assoc]
      rw [cl_n hk] at hτ
      exact hτ.1
def sayL (i : Nat) (v : Int32) : List Int32 := cs i ++ [32] ++ dgs v
theorem v_says (n i : Nat) (hi : i < 21) (v : Int32) (h0 : 0 ≤ v.toInt) (h1 : v.toInt ≤ 70000) {σ : ms_T} {T : List Int32} (hT : TDS σ T) : pr (f_X12_says n σ i v) (fun τ => TDS τ (T ++ (if T = [] then [] else [32]) ++ sayL i v) ∧ fr [697] [59] σ τ) := by
  unfold f_X12_says f_X12_says_J13 sayL
  refine pr_le (fun e => ?_) (fun e => pr_b (v_tells n hT 32) (fun τ hτ => ?_))
  · have : T = [] := by
      rw [hT.1, lt0] at e
      exact List.eq_nil_of_length_eq_zero (by omega)
    subst this
    refine pr_m (v_says_L n i hi v h0 h1 σ [] n 0 σ 0 rfl (Nat.zero_le _) hT fr_rf) (fun τ hτ => ⟨?_, hτ.2⟩)
    have := hτ.1
    simpa [List.append_assoc] using this
  · have hne : ¬ T = [] := fun q => by rw [hT.1, q, lt0] at e; exact absurd e (by decide)
    rw [if_neg hne]
    refine pr_m (v_says_L n i hi v h0 h1 τ (T ++ [32]) n 0 τ 0 rfl (Nat.zero_le _) (by rw [List.take_zero, List.append_nil]; exact hτ.1) fr_rf) (fun υ hυ => ⟨?_, fr_tr hτ.2 hυ.2⟩)
    have := hυ.1
    simpa [List.append_assoc] using this
def mksL : List Int32 → List Int32
  | [] => []
  | v :: r => [32] ++ dgs v ++ mksL r
theorem v_tm_L (n : Nat) (ml : List Int32) (hr : ∀ x ∈ ml, 0 ≤ x.toInt ∧ x.toInt ≤ 65521) : ∀ (d k : Nat) (σ : ms_T) (T : List Int32) (kI : Int32), kI.toInt = (k : Int) → k ≤ ml.length → TDS σ T → (ms_I σ 657).toInt = (ml.length : Int) → MKS σ ml → pr (f_X12_tellsMarks_L25 n d σ kI) (fun res => res.1.toInt = ((T ++ mksL (ml.drop k) ++ [59]).length : Int) ∧ TDS res.2 (T ++ mksL (ml.drop k) ++ [59])) := by
  intro d
  induction d with
  | zero => intro k σ T kI _ _ _ _ _; rw [f_X12_tellsMarks_L25.eq_1]; exact pr_0
  | succ d ih =>
    intro k σ T kI hk hkl hT h7 hM
    rw [f_X12_tellsMarks_L25.eq_2]
    refine pr_le (fun e => ?_) (fun e => ?_)
    · rw [List.drop_eq_nil_of_le (by omega)]
      refine pr_b (v_tells n hT 59) (fun τ hτ => pr_s ?_)
      have e0 : T ++ mksL [] ++ [59] = T ++ [59] := by rw [mksL, List.append_nil]
      rw [e0]
      exact ⟨hτ.1.1, hτ.1⟩
    · have hk2 : k < ml.length := by omega
      refine pr_b (v_tells n hT 32) (fun τ hτ => pr_g (fun _ _ => ?_))
      have hv : ms_E τ 44 kI.toNatClampNeg = ml[k] := by
        rw [cl_n hk, hτ.2.2 44 (by decide)]
        have := hM k hk2
        rw [List.getElem?_eq_getElem hk2] at this
        exact Option.some.inj this
      rw [hv]
      have hx := hr _ (List.getElem_mem hk2)
      refine pr_b (v_number n ml[k] hx.1 (by omega) hτ.1) (fun υ hυ => pr_l ?_)
      have i7 : ms_I υ 657 = ms_I σ 657 := (hυ.2.1 657 (by decide)).trans (hτ.2.1 657 (by decide))
      have hMυ : MKS υ ml := fun j hj => by rw [hυ.2.2 44 (by decide), hτ.2.2 44 (by decide)]; exact hM j hj
      refine pr_m (ih (k + 1) υ (T ++ [32] ++ dgs ml[k]) _ (by rw [iw_add, lt1]; omega) (by omega) hυ.1 (by rw [i7]; exact h7) hMυ) (fun res hres => ?_)
      rw [List.drop_eq_getElem_cons hk2, mksL]
      simpa [List.append_assoc] using hres
theorem v_tm (n : Nat) (σ : ms_T) (hC : rC (ms_E σ 40)) (hMR : MR (ms_E σ 40)) (r : Nat) (hr : r < (ms_E σ 40 0).toInt.toNat) (rI : Int32) (hrI : rI.toInt = (r : Int)) (l : List (Nat × Nat × Bool)) (hW : WS σ l) (hin : ∀ q ∈ l, q.1 + q.2.1 ≤ (EL (ms_E σ 40) r).length) (T : List Int32) (hT : TDS σ T) : pr (f_X12_tellsMarks n σ rI) (fun res => res.1.toInt = ((T ++ [32, 98, 121] ++ mksL (mkl (ms_E σ 40 1) (EL (ms_E σ 40) r) l) ++ [59]).length : Int) ∧ TDS res.2 (T ++ [32, 98, 121] ++ mksL (mkl (ms_E σ 40 1) (EL (ms_E σ 40) r) l) ++ [59])) := by
  have h4 := hC.1
  unfold f_X12_tellsMarks
  refine pr_b (v_fetches n σ hC r (by omega) rI hrI l hW hin) (fun τ hτ => ?_)
  obtain ⟨h1, h2, h3⟩ := hτ
  have hT1 : TDS τ T := ⟨by rw [h3.1 697 (by decide)]; exact hT.1, fun k hk => by rw [h3.2 59 (by decide)]; exact hT.2 k hk⟩
  refine pr_b (v_tells n hT1 32) (fun t1 q1 => pr_b (v_tells n q1.1 98) (fun t2 q2 => pr_b (v_tells n q2.1 121) (fun t3 q3 => ?_)))
  have hf : fr [697] [59] τ t3 := fr_tr q1.2 (fr_tr q2.2 q3.2)
  have hml : ∀ x ∈ mkl (ms_E σ 40 1) (EL (ms_E σ 40) r) l, 0 ≤ x.toInt ∧ x.toInt ≤ 65521 := fun x hx => by
    unfold mkl at hx
    obtain ⟨q, -, rfl⟩ := List.mem_map.mp hx
    exact TMK_r hC (hMR r hr) _ _
  refine pr_m (v_tm_L n _ hml n 0 t3 (T ++ [32] ++ [98] ++ [121]) 0 rfl (Nat.zero_le _) q3.1 (by rw [hf.1 657 (by decide), mkl_len]; exact h2.1) (fun k hk => by rw [hf.2 44 (by decide)]; exact h1 k hk)) (fun res hres => ?_)
  rw [List.drop_zero] at hres
  simpa [List.append_assoc] using hres
def tlL (f : Nat → Int32) (a i m : Int32) : List Int32 := sayL 14 i ++ [32] ++ sayL 18 m ++ [32] ++ sayL 16 (EM f a.toInt.toNat i.toInt.toNat) ++ [32] ++ sayL 13 (TMK (f 1) (EL f a.toInt.toNat) 0 m.toInt.toNat) ++ [32, 98, 121] ++ mksL (inL f a i m) ++ [59]
theorem sayL_ne (i : Nat) (v : Int32) (T : List Int32) : ¬ T ++ sayL i v = [] := by
  unfold sayL
  simp
theorem EL_mem {f : Nat → Int32} {r i : Nat} (h : i < (f (72 + r)).toInt.toNat) : EM f r i ∈ EL f r := by
  unfold EL
  exact List.mem_map.mpr ⟨i, List.mem_range.mpr h, rfl⟩
theorem v_tell (n : Nat) (σ : ms_T) (hC : rC (ms_E σ 40)) (hMR : MR (ms_E σ 40)) (a i m : Int32) : pr (f_X12_tell n σ a i m) (fun res => (inOK (ms_E σ 40) a i m → res.1.toInt = ((tlL (ms_E σ 40) a i m).length : Int) ∧ TDS res.2 (tlL (ms_E σ 40) a i m)) ∧ (¬ inOK (ms_E σ 40) a i m → res.1 = -1 ∧ ∀ T, TDS σ T → TDS res.2 T)) := by
  have h4 := hC.1
  unfold f_X12_tell
  refine pr_b (v_noEntry n σ hC a i m) (fun v hv => ?_)
  rcases hv with ⟨rfl, ok⟩ | ⟨hv, no⟩
  · have hsz := hC.2.2.2.2.1 a.toInt.toNat (by omega)
    refine v_is0 n σ (pr_ln (fun τ hτ => ?_))
    have e40 : ms_E τ 40 = ms_E σ 40 := by rw [hτ]; rfl
    have hT0 : TDS τ [] := ⟨by rw [hτ, mI_sI, if_pos rfl]; rfl, fun k hk => absurd hk (Nat.not_lt_zero _)⟩
    refine pr_b (v_says n 14 (by decide) i (by omega) (by omega) hT0) (fun t1 q1 => ?_)
    rw [if_pos rfl, List.append_nil, List.nil_append] at q1
    refine pr_b (v_says n 18 (by decide) m (by omega) (by omega) q1.1) (fun t2 q2 => ?_)
    rw [if_neg (show ¬ sayL 14 i = [] from fun z => sayL_ne 14 i [] (by rw [List.nil_append]; exact z))] at q2
    have f2 : fr [697] [59] τ t2 := fr_tr q1.2 q2.2
    have c2 : ms_E t2 40 = ms_E σ 40 := by rw [← e40]; exact funext (fun j => f2.2 40 (by decide) j)
    refine pr_b (v_entryMark n t2 a.toInt.toNat i.toInt.toNat (by omega) (by omega) a i (by omega) (by omega) (by rw [c2]; exact (hC.2.2.2.2.2.2.2.2 (48 * a.toInt.toNat + i.toInt.toNat) (by omega)).1) (by rw [c2]; exact (hC.2.2.2.2.2.2.2.2 (48 * a.toInt.toNat + i.toInt.toNat) (by omega)).2)) (fun v1 hv1 => ?_)
    rw [c2] at hv1
    have hm1 := hMR a.toInt.toNat (by omega) _ (EL_mem (f := ms_E σ 40) (r := a.toInt.toNat) (i := i.toInt.toNat) (by omega))
    rw [← hv1] at hm1
    refine pr_b (v_says n 16 (by decide) v1 hm1.1 (by omega) q2.1) (fun t3 q3 => ?_)
    rw [if_neg (sayL_ne 18 m _)] at q3
    have f3 : fr [697] [59] τ t3 := fr_tr f2 q3.2
    have c3 : ms_E t3 40 = ms_E σ 40 := by rw [← e40]; exact funext (fun j => f3.2 40 (by decide) j)
    refine pr_b (v_headOf n t3 (by rw [c3]; exact hC) a.toInt.toNat (by omega) a (by omega) m.toInt.toNat m (by omega) (by rw [EL_len, c3]; omega)) (fun v2 hv2 => ?_)
    rw [c3] at hv2
    have hm2 := TMK_r hC (hMR a.toInt.toNat (by omega)) 0 m.toInt.toNat
    rw [← hv2] at hm2
    refine pr_b (v_says n 13 (by decide) v2 hm2.1 (by omega) q3.1) (fun t4 q4 => ?_)
    rw [if_neg (sayL_ne 16 v1 _)] at q4
    have f4 : fr [697] [59] τ t4 := fr_tr f3 q4.2
    have c4 : ms_E t4 40 = ms_E σ 40 := by rw [← e40]; exact funext (fun j => f4.2 40 (by decide) j)
    refine pr_b (fun t5 h5 => (⟨v_inclusion n t4 i m ok.1.1 ok.2.2.2 t5 h5, v_incl_fr n t4 i m t5 h5⟩ : WS t5 _ ∧ fr [657] [42, 43] t4 t5)) (fun t5 q5 => ?_)
    obtain ⟨hW, f5⟩ := q5
    have c5 : ms_E t5 40 = ms_E σ 40 := by rw [← c4]; exact funext (fun j => f5.2 40 (by decide) j)
    have hT5 : TDS t5 _ := ⟨by rw [f5.1 697 (by decide)]; exact q4.1.1, fun k hk => by rw [f5.2 59 (by decide)]; exact q4.1.2 k hk⟩
    refine pr_c (v_tm n t5 (by rw [c5]; exact hC) (by rw [c5]; exact hMR) a.toInt.toNat (by rw [c5]; omega) a (by omega) _ hW (fun q hq => ?_) _ hT5) (fun r t6 h6 => pr_s ⟨fun _ => ?_, fun no => absurd ok no⟩)
    · have := wyT_rin (N := m.toInt.toNat) (I := i.toInt.toNat) (by omega) q hq
      rw [c5, EL_len]; omega
    · rw [c5, hv1, hv2] at h6
      exact h6
  · exact v_is1 n σ v hv (pr_s ⟨fun ok => absurd ok no, fun _ => ⟨rfl, fun T hT => ⟨hT.1, hT.2⟩⟩⟩)
def tgL (f : Nat → Int32) (a i m : Int32) : List Int32 := sayL 11 i ++ [32] ++ sayL 16 (TMK (f 1) (EL f a.toInt.toNat) 0 i.toInt.toNat) ++ [32] ++ sayL 20 m ++ [32] ++ sayL 13 (TMK (f 1) (EL f a.toInt.toNat) 0 m.toInt.toNat) ++ [32, 98, 121] ++ mksL (grL f a i m) ++ [59]
theorem v_tellGrowth (n : Nat) (σ : ms_T) (hC : rC (ms_E σ 40)) (hMR : MR (ms_E σ 40)) (a i m : Int32) : pr (f_X12_tellGrowth n σ a i m) (fun res => (grOK (ms_E σ 40) a i m → res.1.toInt = ((tgL (ms_E σ 40) a i m).length : Int) ∧ TDS res.2 (tgL (ms_E σ 40) a i m)) ∧ (¬ grOK (ms_E σ 40) a i m → res.1 = -1 ∧ ∀ T, TDS σ T → TDS res.2 T)) := by
  have h4 := hC.1
  have bad : ∀ v : Int32, ¬ v = 0 → ¬ grOK (ms_E σ 40) a i m → pr (f_X12_tellGrowth_J20 n σ a i m v) (fun res => (grOK (ms_E σ 40) a i m → res.1.toInt = ((tgL (ms_E σ 40) a i m).length : Int) ∧ TDS res.2 (tgL (ms_E σ 40) a i m)) ∧ (¬ grOK (ms_E σ 40) a i m → res.1 = -1 ∧ ∀ T, TDS σ T → TDS res.2 T)) := fun v hv no => by
    unfold f_X12_tellGrowth_J20
    exact v_is1 n σ v hv (pr_s ⟨fun ok => absurd ok no, fun _ => ⟨rfl, fun T hT => ⟨hT.1, hT.2⟩⟩⟩)
  unfold f_X12_tellGrowth f_X12_tellGrowth_J10
  refine pr_lt (fun e => bad 1 (by decide) (fun q => by rw [lt0] at e; have := q.1.1; omega)) (fun e => pr_le (fun e2 => ?_) (fun e2 => bad 1 (by decide) (fun q => by have := q.1.2; omega)))
  rw [lt0] at e
  refine pr_b (v_noSize n σ hC a m) (fun v hv => ?_)
  rcases hv with ⟨rfl, ok0⟩ | ⟨hv, no⟩
  · have ok : grOK (ms_E σ 40) a i m := ⟨⟨e, e2⟩, ok0.2.1, ok0.2.2⟩
    have hsz := hC.2.2.2.2.1 a.toInt.toNat (by omega)
    unfold f_X12_tellGrowth_J20
    refine v_is0 n σ (pr_ln (fun τ hτ => ?_))
    have e40 : ms_E τ 40 = ms_E σ 40 := by rw [hτ]; rfl
    have hT0 : TDS τ [] := ⟨by rw [hτ, mI_sI, if_pos rfl]; rfl, fun k hk => absurd hk (Nat.not_lt_zero _)⟩
    refine pr_b (v_says n 11 (by decide) i (by omega) (by omega) hT0) (fun t1 q1 => ?_)
    rw [if_pos rfl, List.append_nil, List.nil_append] at q1
    have c1 : ms_E t1 40 = ms_E σ 40 := by rw [← e40]; exact funext (fun j => q1.2.2 40 (by decide) j)
    refine pr_b (v_headOf n t1 (by rw [c1]; exact hC) a.toInt.toNat (by omega) a (by omega) i.toInt.toNat i (by omega) (by rw [EL_len, c1]; omega)) (fun v1 hv1 => ?_)
    rw [c1] at hv1
    have hm1 := TMK_r hC (hMR a.toInt.toNat (by omega)) 0 i.toInt.toNat
    rw [← hv1] at hm1
    refine pr_b (v_says n 16 (by decide) v1 hm1.1 (by omega) q1.1) (fun t2 q2 => ?_)
    rw [if_neg (show ¬ sayL 11 i = [] from fun z => sayL_ne 11 i [] (by rw [List.nil_append]; exact z))] at q2
    have f2 : fr [697] [59] τ t2 := fr_tr q1.2 q2.2
    refine pr_b (v_says n 20 (by decide) m (by omega) (by omega) q2.1) (fun t3 q3 => ?_)
    rw [if_neg (sayL_ne 16 v1 _)] at q3
    have f3 : fr [697] [59] τ t3 := fr_tr f2 q3.2
    have c3 : ms_E t3 40 = ms_E σ 40 := by rw [← e40]; exact funext (fun j => f3.2 40 (by decide) j)
    refine pr_b (v_headOf n t3 (by rw [c3]; exact hC) a.toInt.toNat (by omega) a (by omega) m.toInt.toNat m (by omega) (by rw [EL_len, c3]; omega)) (fun v2 hv2 => ?_)
    rw [c3] at hv2
    have hm2 := TMK_r hC (hMR a.toInt.toNat (by omega)) 0 m.toInt.toNat
    rw [← hv2] at hm2
    refine pr_b (v_says n 13 (by decide) v2 hm2.1 (by omega) q3.1) (fun t4 q4 => ?_)
    rw [if_neg (sayL_ne 20 m _)] at q4
    have f4 : fr [697] [59] τ t4 := fr_tr f3 q4.2
    have c4 : ms_E t4 40 = ms_E σ 40 := by rw [← e40]; exact funext (fun j => f4.2 40 (by decide) j)
    refine pr_b (fun t5 h5 => (⟨v_growth n t4 i m e e2 t5 h5, v_growth_fr n t4 i m t5 h5⟩ : WS t5 _ ∧ fr [657] [42, 43] t4 t5)) (fun t5 q5 => ?_)
    obtain ⟨hW, f5⟩ := q5
    have c5 : ms_E t5 40 = ms_E σ 40 := by rw [← c4]; exact funext (fun j => f5.2 40 (by decide) j)
    have hT5 : TDS t5 _ := ⟨by rw [f5.1 697 (by decide)]; exact q4.1.1, fun k hk => by rw [f5.2 59 (by decide)]; exact q4.1.2 k hk⟩
    refine pr_c (v_tm n t5 (by rw [c5]; exact hC) (by rw [c5]; exact hMR) a.toInt.toNat (by rw [c5]; omega) a (by omega) _ hW (fun q hq => ?_) _ hT5) (fun r t6 h6 => pr_s ⟨fun _ => ?_, fun no => absurd ok no⟩)
    · have := wyH_in i.toInt.toNat m.toInt.toNat (by omega) q hq
      rw [c5, EL_len]; omega
    · rw [c5, hv1, hv2] at h6
      exact h6
  · exact bad v hv (fun q => no ⟨by omega, q.2.1, q.2.2⟩)
def TDC (α : hp_T) (x : Nat) (T : List Int32) : Prop := (hp_I α 611 x).toInt = (T.length : Int) ∧ T.length ≤ 256 ∧ ∀ k, k < T.length → some (hp_E α 25 (hp_R α 610 x) k) = T[k]?
def tdf (x : Nat) (α β : hp_T) : Prop := hp_R β = hp_R α ∧ hp_K β = hp_K α ∧ hp_Q β = hp_Q α ∧ hp_N β = hp_N α ∧ (∀ φ b, φ ≠ 611 → hp_I β φ b = hp_I α φ b) ∧ ∀ κ b j, κ ≠ 25 → hp_E β κ b j = hp_E α κ b j
theorem tdf_rf {x : Nat} {α : hp_T} : tdf x α α := ⟨rfl, rfl, rfl, rfl, fun _ _ _ => rfl, fun _ _ _ _ => rfl⟩
theorem tdf_tr {x : Nat} {α β γ : hp_T} (h : tdf x α β) (g : tdf x β γ) : tdf x α γ := by
  obtain ⟨h1, h2, h3, h4, h5, h6⟩ := h
  obtain ⟨g1, g2, g3, g4, g5, g6⟩ := g
  exact ⟨g1.trans h1, g2.trans h2, g3.trans h3, g4.trans h4, fun φ b q => (g5 φ b q).trans (h5 φ b q), fun κ b j q => (g6 κ b j q).trans (h6 κ b j q)⟩
theorem b8_id {a : Int32} (h0 : 0 ≤ a.toInt) (h1 : a.toInt ≤ 127) : ((a).toInt8.toInt32).toInt8.toInt32 = a := by
  have e : ∀ y : Int32, 0 ≤ y.toInt → y.toInt ≤ 127 → y.toInt8.toInt32 = y := fun y p q => by
    rw [← Int32.toInt_inj, Int8.toInt_toInt32, Int32.toInt_toInt8]
    exact Int.bmod_eq_of_le (by omega) (by omega)
  rw [e a h0 h1, e a h0 h1]
theorem k_tellByte (n : Nat) {α : hp_T} {x : Nat} {T : List Int32} (h : TDC α x T) (hl : T.length < 256) (c : Int32) (c0 : 0 ≤ c.toInt) (c1 : c.toInt ≤ 127) : ws (f_X11_tellByte n α x c) (fun β => TDC β x (T ++ [c]) ∧ tdf x α β) := by
  obtain ⟨h1, h2, h3⟩ := h
  have t256 : (256 : Int32).toInt = 256 := by decide
  unfold f_X11_tellByte
  refine ws_l (ws_lt (fun e => by rw [lt0] at e; omega) (fun _ => ws_l (ws_l (ws_le (fun e => by omega) (fun _ => ws_l (ws_l (ws_g (by omega) (by omega) (ws_l (ws_l (ws_l (ws_s ⟨⟨?_, ?_, fun k hk => ?_⟩, ?_⟩)))))))))))
  · rw [hI_sI, if_pos ⟨rfl, rfl⟩]
    show (hp_I α 611 x + 1).toInt = _
    rw [iw_add, lt1, List.length_append, List.length_singleton]; omega
  · rw [List.length_append, List.length_singleton]; omega
  · rw [List.length_append, List.length_singleton] at hk
    rw [hE_sI, hE_sE, cl_n h1, hR_sI, hR_sE]
    by_cases ek : k = T.length
    · rw [if_pos ⟨rfl, rfl, ek⟩, ek, List.getElem?_append_right (Nat.le_refl _), Nat.sub_self, b8_id c0 c1]; rfl
    · rw [if_neg (fun q => ek q.2.2), List.getElem?_append_left (by omega)]
      exact h3 k (by omega)
  · exact ⟨rfl, rfl, rfl, rfl, fun φ b q => by rw [hI_sI, if_neg (fun z => q z.1), hI_sE], fun κ b j q => by rw [hE_sI, hE_sE, if_neg (fun z => q z.1)]⟩
theorem cs_r : ∀ i, i < 21 → ∀ c ∈ cs i, 0 ≤ c.toInt ∧ c.toInt ≤ 127 := by decide +kernel
theorem k_text_L (n i : Nat) (hi : i < 21) (x : Nat) (T : List Int32) (α0 : hp_T) (hT6 : T.length + (cs i).length ≤ 256) : ∀ (d k : Nat) (α : hp_T) (kI : Int32), kI.toInt = (k : Int) → k ≤ (cs i).length → TDC α x (T ++ (cs i).take k) → tdf x α0 α → (cs i).length + 1 - k ≤ d → ws (f_X11_tellText_L2 n x i d α kI) (fun β => TDC β x (T ++ cs i) ∧ tdf x α0 β) := by
  intro d
  induction d with
  | zero => intro k α kI _ _ _ _ hd; omega
  | succ d ih =>
    intro k α kI hk hkl hT hf hd
    have hl := st_len i hi
    have hcl : (cs i).length = (hp_len i).toInt.toNat := by unfold cs; rw [List.length_map, List.length_range]
    rw [f_X11_tellText_L2.eq_2]
    refine ws_le (fun e => ws_s ?_) (fun e => ws_q (by omega) (by omega) ?_)
    · rw [List.take_of_length_le (by omega)] at hT
      exact ⟨hT, hf⟩
    · have hk2 : k < (cs i).length := by omega
      have hch : hp_ch i kI.toNatClampNeg = (cs i)[k] := by
        rw [cl_n hk]
        exact (cs_gt i k hk2).symm
      rw [hch]
      have hr := cs_r i hi _ (List.getElem_mem hk2)
      refine ws_b (k_tellByte n hT (by rw [List.length_append, List.length_take]; omega) _ hr.1 hr.2) (fun β hβ => ws_l ?_)
      refine ih (k + 1) β _ (by rw [iw_add, lt1]; omega) (by omega) ?_ (tdf_tr hf hβ.2) (by omega)
      rw [List.take_succ_eq_append_getElem hk2, ← List.append_assoc]
      exact hβ.1
theorem k_text (n : Nat) (hn : 70000 ≤ n) (i : Nat) (hi : i < 21) {x : Nat} {T : List Int32} {α : hp_T} (hT : TDC α x T) (hT6 : T.length + (cs i).length ≤ 256) : ws (f_X11_tellText n α x i) (fun β => TDC β x (T ++ cs i) ∧ tdf x α β) := by
  unfold f_X11_tellText
  exact k_text_L n i hi x T α hT6 n 0 α 0 rfl (Nat.zero_le _) (by rw [List.take_zero, List.append_nil]; exact hT) tdf_rf (by omega)
theorem k_emit (n : Nat) (v : Int32) (h0 : 0 ≤ v.toInt) (x : Nat) : ∀ (k d : Nat) (α : hp_T) (T : List Int32), k ≤ 4 → TDC α x T → T.length + (k + 1) ≤ 256 → k + 2 ≤ d → ws (f_X11_tellNumber_L29 n x d α v (te k)) (fun β => TDC β x (T ++ emL v k) ∧ tdf x α β) := by
  intro k
  induction k with
  | zero =>
    intro d α T hk hT hl hd
    obtain ⟨d, rfl⟩ : ∃ y, d = y + 2 := ⟨d - 2, by omega⟩
    have hr := dg1_r h0 (k := 0) (by omega)
    rw [f_X11_tellNumber_L29.eq_2]
    refine ws_le (fun e => absurd e (by decide)) (fun _ => ws_n (by decide) (ws_b (k_tellByte n hT (by omega) _ (by show 0 ≤ (dg1 v 0).toInt; omega) (by show (dg1 v 0).toInt ≤ 127; omega)) (fun β hβ => ws_l ?_)))
    rw [te_0, f_X11_tellNumber_L29.eq_2]
    exact ws_le (fun _ => ws_s hβ) (fun e => absurd e (by decide))
  | succ k ih =>
    intro d α T hk hT hl hd
    obtain ⟨d, rfl⟩ : ∃ y, d = y + 1 := ⟨d - 1, by omega⟩
    have hr := dg1_r h0 (k := k + 1) (by omega)
    have hp := te_p (k + 1) (by omega)
    rw [f_X11_tellNumber_L29.eq_2]
    refine ws_le (fun e => by rw [lt0] at e; omega) (fun _ => ws_n hp.2 (ws_b (k_tellByte n hT (by omega) _ (by show 0 ≤ (dg1 v (k + 1)).toInt; omega) (by show (dg1 v (k + 1)).toInt ≤ 127; omega)) (fun β hβ => ws_l ?_)))
    rw [(te_m k (by omega)).2]
    refine ws_m (ih d β (T ++ [dg1 v (k + 1)]) (by omega) hβ.1 (by rw [List.length_append, List.length_singleton]; omega) (by omega)) (fun γ hγ => ⟨?_, tdf_tr hβ.2 hγ.2⟩)
    rw [emL]
    have := hγ.1
    rw [List.append_assoc] at this
    exact this
theorem k_number_L (n : Nat) (hn : 70000 ≤ n) (v : Int32) (h0 : 0 ≤ v.toInt) (h1 : v.toInt ≤ 70000) (x : Nat) (α : hp_T) (T : List Int32) (hT : TDC α x T) (hl : T.length + 5 ≤ 256) : ∀ (d k : Nat) (kI : Int32), kI.toInt = (k : Int) → k ≤ dE v → 6 - k ≤ d → ws (f_X11_tellNumber_L4 n x d α v (te k) kI) (fun β => TDC β x (T ++ dgs v) ∧ tdf x α β) := by
  intro d
  induction d with
  | zero => intro k kI _ hk hd; have := dE_4 v; omega
  | succ d ih =>
    intro k kI hkI hk hd
    have h4 := dE_4 v
    have t8 := t_8
    have t10 := t_10
    have hp := te_p k (by omega)
    have q := dE_k h0 h1 (k := k) (by omega)
    have hd1 := ii_div h0 hp.1
    have hd2 := ii_div (x := v) (y := 10) h0 (by decide)
    have hte := te_t k (by omega)
    have e9 : (v / 10).toInt < (te k).toInt ↔ (v / te k).toInt ≤ 9 := by
      rw [hd1, hd2, t10]
      have : k = 0 ∨ k = 1 ∨ k = 2 ∨ k = 3 ∨ k = 4 := by omega
      have q0 : (te 0).toInt = 1 := by decide
      have q1 : (te 1).toInt = 10 := by decide
      have q2 : (te 2).toInt = 100 := by decide
      have q3 : (te 3).toInt = 1000 := by decide
      have q4 : (te 4).toInt = 10000 := by decide
      rcases this with rfl | rfl | rfl | rfl | rfl
      · rw [q0]; omega
      · rw [q1]; omega
      · rw [q2]; omega
      · rw [q3]; omega
      · rw [q4]; omega
    rw [f_X11_tellNumber_L4.eq_2]
    refine ws_le (fun e => by omega) (fun _ => ws_lt (fun e => ?_) (fun e => ws_l (ws_l ?_)))
    · have : dE v = k := by have := q.mp (e9.mp e); omega
      unfold dgs
      rw [this]
      exact k_emit n v h0 x k n α T (by omega) hT (by omega) (by omega)
    · have : ¬ dE v ≤ k := fun z => by have := e9.mpr (q.mpr z); omega
      rw [(te_m k (by omega)).1]
      exact ih (k + 1) _ (by rw [iw_add, lt1]; omega) (by omega) (by omega)
theorem k_number (n : Nat) (hn : 70000 ≤ n) (v : Int32) (h0 : 0 ≤ v.toInt) (h1 : v.toInt ≤ 70000) {x : Nat} {α : hp_T} {T : List Int32} (hT : TDC α x T) (hl : T.length + 5 ≤ 256) : ws (f_X11_tellNumber n α x v) (fun β => TDC β x (T ++ dgs v) ∧ tdf x α β) := by
  unfold f_X11_tellNumber
  exact k_number_L n hn v h0 h1 x α T hT hl n 0 0 rfl (Nat.zero_le _) (by omega)
theorem dgs_len (v : Int32) : (dgs v).length ≤ 5 := by
  unfold dgs
  rw [emL_len]
  have := dE_4 v
  omega
theorem RWL_tdf {α β : hp_T} {x a : Nat} {l : List Int32} (h : RWL α a l) (f : tdf x α β) : RWL β a l := ⟨h.1, by rw [f.2.2.2.2.1 301 a (by decide)]; exact h.2.1, fun k hk => by rw [f.1, f.2.2.2.2.2 20 _ _ (by decide)]; exact h.2.2 k hk⟩
theorem LM_tdf {α β : hp_T} {x lg : Nat} {L : List Int32} (h : LM α lg L) (g : tdf x α β) : LM β lg L := by
  refine ⟨h.1, by rw [g.2.2.2.2.1 152 lg (by decide)]; exact h.2.1, fun j hj => ?_⟩
  rw [g.1, g.2.2.2.2.2 29 _ _ (by decide)]
  exact h.2.2 j hj
theorem TDC_jf {α β : hp_T} {x w : Nat} {T : List Int32} (h : TDC α x T) (g : jf w α β) : TDC β x T := by
  obtain ⟨g1, g2, g3, g4, g5, g6⟩ := g
  exact ⟨by rw [g5]; exact h.1, h.2.1, fun k hk => by rw [g1, g6 25 _ _ (fun z => absurd z.1 (by decide))]; exact h.2.2 k hk⟩
theorem k_tp_L (n : Nat) (hn : 70000 ≤ n) (x row : Nat) (ml : List Int32) (hr : ∀ v ∈ ml, 0 ≤ v.toInt ∧ v.toInt ≤ 65521) (hm7 : ml.length ≤ 7) : ∀ (d k : Nat) (α : hp_T) (T : List Int32) (kI : Int32), hp_R α 614 x = row → RWL α row ml → kI.toInt = (k : Int) → k ≤ ml.length → TDC α x T → T.length + 6 * (ml.length - k) + 1 ≤ 256 → ml.length + 1 - k ≤ d → ws (f_X11_tellProof_L9 n x d α kI) (fun β => TDC β x (T ++ mksL (ml.drop k) ++ [59])) := by
  intro d
  induction d with
  | zero => intro k α T kI _ _ _ _ _ _ hd; omega
  | succ d ih =>
    intro k α T kI hrow hR hk hkl hT hb hd
    have e0 : cs 0 = [32] := by decide
    have e6 : cs 6 = [59] := by decide
    have hl := hR.2.1
    rw [f_X11_tellProof_L9.eq_2]
    refine ws_l (ws_l ?_)
    rw [hrow]
    refine ws_le (fun e => ?_) (fun e => ?_)
    · rw [List.drop_eq_nil_of_le (by omega)]
      refine ws_b (k_text n hn 6 (by decide) hT (by rw [e6]; show T.length + 1 ≤ 256; omega)) (fun β hβ => ws_s ?_)
      rw [e6] at hβ
      have e0' : T ++ mksL [] ++ [59] = T ++ [59] := by rw [mksL, List.append_nil]
      rw [e0']
      exact hβ.1
    · have hk2 : k < ml.length := by omega
      have hx := hr _ (List.getElem_mem hk2)
      have hdl := dgs_len ml[k]
      refine ws_b (k_text n hn 0 (by decide) hT (by rw [e0]; show T.length + 1 ≤ 256; omega)) (fun β hβ => ws_l ?_)
      rw [e0] at hβ
      have hRβ := RWL_tdf hR hβ.2
      have h614 : hp_R β 614 x = row := by rw [hβ.2.1]; exact hrow
      rw [h614]
      refine ws_b (k_rat n hRβ k hk2 kI hk) (fun v hv => ?_)
      have hv2 : v = ml[k] := by rw [hv, List.getD_eq_getElem?_getD, List.getElem?_eq_getElem hk2]; rfl
      rw [hv2]
      refine ws_b (k_number n hn ml[k] hx.1 (by omega) hβ.1 (by rw [List.length_append, List.length_singleton]; omega)) (fun γ hγ => ws_l ?_)
      refine ws_m (ih (k + 1) γ (T ++ [32] ++ dgs ml[k]) _ (by rw [hγ.2.1]; exact h614) (RWL_tdf hRβ hγ.2) (by rw [iw_add, lt1]; omega) (by omega) hγ.1 (by rw [List.length_append, List.length_append, List.length_singleton]; omega) (by omega)) (fun δ hδ => ?_)
      rw [List.drop_eq_getElem_cons hk2, mksL]
      simpa [List.append_assoc] using hδ
theorem mkl_r {f : Nat → Int32} (hC : rC f) {L : List Int32} (h : ∀ x ∈ L, 0 ≤ x.toInt ∧ x.toInt ≤ 65521) (l : List (Nat × Nat × Bool)) : ∀ v ∈ mkl (f 1) L l, 0 ≤ v.toInt ∧ v.toInt ≤ 65521 := fun v hv => by
  unfold mkl at hv
  obtain ⟨q, -, rfl⟩ := List.mem_map.mp hv
  exact TMK_r hC h _ _
theorem wyT_dep : ∀ (e d i f m : Nat), i < m → m ≤ 2 ^ e → (wyT d i f m).length ≤ e := by
  intro e
  induction e with
  | zero =>
    intro d i f m h1 h2
    rw [Nat.pow_zero] at h2
    cases d with
    | zero => rw [wyT]; exact Nat.zero_le _
    | succ d => rw [wyT, if_pos (show m ≤ 1 by omega)]; exact Nat.zero_le _
  | succ e ih =>
    intro d i f m h1 h2
    cases d with
    | zero => rw [wyT]; exact Nat.zero_le _
    | succ d =>
      rw [wyT]
      by_cases h3 : m ≤ 1
      · rw [if_pos h3]; exact Nat.zero_le _
      · rw [if_neg h3]
        have hp := p0_dn (show 2 ≤ m by omega) h2
        have hp2 := p0_lt (show 2 ≤ m by omega)
        have hp3 := p0_le (m := m)
        by_cases h5 : i < p0 m
        · rw [if_pos h5]; exact Nat.succ_le_succ (ih d i (f) (p0 m) h5 hp)
        · rw [if_neg h5]; exact Nat.succ_le_succ (ih d (i - p0 m) (f + p0 m) (m - p0 m) (by omega) (by omega))
theorem cs_15 : cs 15 = cs 14 ++ [32] := by decide +kernel
theorem cs_4 : cs 4 = [32] ++ cs 18 ++ [32] := by decide +kernel
theorem cs_3 : cs 3 = [32] ++ cs 16 ++ [32] := by decide +kernel
theorem cs_2 : cs 2 = [32] ++ cs 13 ++ [32] := by decide +kernel
theorem cs_1 : cs 1 = [32, 98, 121] := by decide +kernel
theorem cs_12 : cs 12 = cs 11 ++ [32] := by decide +kernel
theorem cs_5 : cs 5 = [32] ++ cs 20 ++ [32] := by decide +kernel
theorem cs_l : ∀ i, i < 21 → (cs i).length ≤ 6 := by decide +kernel
def TLS (γ : hp_T) (x w lg row : Nat) (m : Int32) (L ml : List Int32) : Prop := hp_R γ 601 x = w ∧ hp_R γ 614 x = row ∧ hp_I γ 550 w = m ∧ LM γ lg L ∧ RWL γ row ml
theorem TLS_t {γ δ : hp_T} {x w lg row : Nat} {m : Int32} {L ml : List Int32} (h : TLS γ x w lg row m L ml) (g : tdf x γ δ) : TLS δ x w lg row m L ml := by
  obtain ⟨h1, h2, h3, h4, h5⟩ := h
  exact ⟨by rw [g.1]; exact h1, by rw [g.1]; exact h2, by rw [g.2.2.2.2.1 550 w (by decide)]; exact h3, LM_tdf h4 g, RWL_tdf h5 g⟩
theorem TLS_j {γ δ : hp_T} {x w lg row : Nat} {m : Int32} {L ml : List Int32} (h : TLS γ x w lg row m L ml) (g : jf w γ δ) : TLS δ x w lg row m L ml := by
  obtain ⟨h1, h2, h3, h4, h5⟩ := h
  exact ⟨by rw [g.1]; exact h1, by rw [g.1]; exact h2, by rw [g.2.2.2.2.1]; exact h3, LM_jf h4 g, RWL_jf h5 g⟩
theorem k_proofT (n : Nat) (hn : 70000 ≤ n) {γ : hp_T} {x w lg row : Nat} {m : Int32} {L ml : List Int32} (h : TLS γ x w lg row m L ml) (hr : ∀ v ∈ ml, 0 ≤ v.toInt ∧ v.toInt ≤ 65521) (hm7 : ml.length ≤ 7) {T : List Int32} (hT : TDC γ x T) (hb : T.length ≤ 200) : ws (f_X11_tellProof n γ x) (fun β => TDC β x (T ++ [32, 98, 121] ++ mksL ml ++ [59])) := by
  unfold f_X11_tellProof
  have hl := cs_l 1 (by decide)
  refine ws_b (k_text n hn 1 (by decide) hT (by omega)) (fun β hβ => ?_)
  rw [cs_1] at hβ
  have h2 := TLS_t h hβ.2
  refine ws_m (k_tp_L n hn x row ml hr hm7 n 0 β _ 0 h2.2.1 h2.2.2.2.2 rfl (Nat.zero_le _) hβ.1 (by rw [List.length_append]; show T.length + 3 + _ + 1 ≤ 256; omega) (by omega)) (fun γ hγ => ?_)
  rw [List.drop_zero] at hγ
  exact hγ
theorem k_tell (n : Nat) (hn : 70000 ≤ n) (α : hp_T) (x : Nat) (f : Nat → Int32) (hC : rC f) (h : RWX α x f) (pl : List Int32) (hP : RWL α (hp_R α 614 x) pl) (a i m : Int32) : ws (f_X11_tell n α x a i m) (fun res => (inOK f a i m → res.1.toInt = ((tlL f a i m).length : Int) ∧ TDC res.2 x (tlL f a i m)) ∧ (¬ inOK f a i m → res.1 = -1 ∧ ∀ T, TDC α x T → TDC res.2 x T)) := by
  obtain ⟨w, u, h1, h2, -, h4, -⟩ := h
  have hm0 := hC.2.1
  have h44 := hC.1
  have bad : ∀ v : Int32, ¬ inOK f a i m → ws (hq_c (f_X11_refuse n α x v) fun r β => some (r, β)) (fun res => (inOK f a i m → res.1.toInt = ((tlL f a i m).length : Int) ∧ TDC res.2 x (tlL f a i m)) ∧ (¬ inOK f a i m → res.1 = -1 ∧ ∀ T, TDC α x T → TDC res.2 x T)) := fun v hno => ws_hc (k_refuse n α x v) (fun z γ hz => ws_s ⟨fun ok => absurd ok hno, fun _ => ⟨hz.1, fun T hT => by
    rw [show γ = hp_sI α 600 x v from hz.2]
    exact ⟨by rw [hI_sI, if_neg (fun q => absurd q.1 (by decide))]; exact hT.1, hT.2.1, fun k hk => hT.2.2 k hk⟩⟩⟩)
  unfold f_X11_tell f_X11_tell_J29 f_X11_wrongInclusion f_X11_wrongInclusions_J29
  refine ws_l ?_
  rw [h1]
  refine ws_b (k_logAt n h4 hC a) (fun o ho => ?_)
  by_cases hr : 0 ≤ a.toInt ∧ a.toInt < (f 0).toInt
  · rw [if_pos hr] at ho
    subst ho
    have q152 := (h4.2.2.1 a.toInt.toNat (by omega)).1
    have hsz := hC.2.2.2.2.1 a.toInt.toNat (by omega)
    refine ws_hS ?_
    refine ws_b (S := fun v => (v = 0 ∧ inOK f a i m) ∨ (¬ v = 0 ∧ ¬ inOK f a i m)) (ws_hS (ws_lt (fun e => ws_s (Or.inr ⟨by decide, fun q => by rw [lt0] at e; have := q.1.1; omega⟩)) (fun e => ws_le (fun e2 => ws_l ?_) (fun e2 => ws_s (Or.inr ⟨by decide, fun q => by have := q.1.2; omega⟩))))) (fun v hv => ?_)
    · rw [lt0] at e e2
      rw [q152]
      exact ws_lt (fun e3 => ws_s (Or.inr ⟨by decide, fun q => by have := q.2.2.1; omega⟩)) (fun e3 => ws_lt (fun e4 => ws_s (Or.inl ⟨rfl, ⟨e, e2⟩, hr, e3, e4⟩)) (fun e4 => ws_s (Or.inr ⟨by decide, fun q => by have := q.2.2.2; omega⟩)))
    · rcases hv with ⟨rfl, ok⟩ | ⟨hv, no⟩
      · refine ws_i (fun _ => ws_l ?_) (fun q => absurd rfl q)
        have ok1 := ok.1
        have ok3 := ok.2.2
        have hMR := MR_WR h4 hC
        refine ws_b (k_toThing n hn α _ i m ok1.1 ok3.2) (fun β hβ => ws_l (ws_l (ws_l ?_)))
        obtain ⟨hWC, hwf⟩ := hβ
        have hWβ := WR_wf h4 hC hwf
        rw [hwf.1, h1]
        have hwl := wyT_dep 6 31 i.toInt.toNat 0 m.toInt.toNat (by omega) (by have : (2 : Nat) ^ 6 = 64 := (by decide); omega)
        have hPβ : RWL β (hp_R α 614 x) pl := RWL_wf hP hwf
        refine ws_b (k_marksAlong n hn w (hp_R α 614 x) _ β (f 1) (by omega) hWβ.2.1.1 (lpA w a.toInt.toNat) (EL f a.toInt.toNat) (WR_LM hWβ hC (by omega)) _ hWC (by rw [List.length_reverse]; omega) (fun q hq => ?_) pl hPβ) (fun γ hγ => ws_l ?_)
        · have := wyT_rin (N := m.toInt.toNat) (I := i.toInt.toNat) (by omega) q hq
          rw [EL_len]; omega
        · obtain ⟨hR, hq⟩ := hγ
          have hml : ∀ v ∈ inL f a i m, 0 ≤ v.toInt ∧ v.toInt ≤ 65521 := mkl_r hC (hMR a.toInt.toNat (by omega)) _
          have hm7 : (inL f a i m).length ≤ 7 := by unfold inL; rw [mkl_len, List.length_reverse]; omega
          obtain ⟨δ, hδ⟩ : ∃ δ, δ = hp_sI γ 611 x 0 := ⟨_, rfl⟩
          rw [← hδ]
          have hT0 : TDC δ x [] := ⟨by rw [hδ, hI_sI, if_pos ⟨rfl, rfl⟩]; rfl, by decide, fun k hk => absurd hk (Nat.not_lt_zero _)⟩
          have f0 : tdf x γ δ := by
            rw [hδ]
            exact ⟨rfl, rfl, rfl, rfl, fun φ b q => by rw [hI_sI, if_neg (fun z => q z.1)], fun _ _ _ _ => rfl⟩
          have S0 : TLS δ x w (lpA w a.toInt.toNat) (hp_R α 614 x) (f 1) (EL f a.toInt.toNat) (inL f a i m) := TLS_t ⟨by rw [hq.1, hwf.1]; exact h1, by rw [hq.1, hwf.1], by rw [hq.2.2.2.2.1 550 w (fun z => absurd z.2 (by decide))]; exact hWβ.2.1.1, LM_qf (WR_LM hWβ hC (by omega)) hq, hR⟩ f0
          have l15 := cs_l 15 (by decide)
          have l4 := cs_l 4 (by decide)
          have l3 := cs_l 3 (by decide)
          have l2 := cs_l 2 (by decide)
          have di := dgs_len i
          have dm := dgs_len m
          refine ws_b (k_text n hn 15 (by decide) hT0 (by rw [List.length_nil]; omega)) (fun b1 g1 => ?_)
          have S1 := TLS_t S0 g1.2
          refine ws_b (k_number n hn i ok1.1 (by omega) g1.1 (by simp only [List.length_append, List.length_nil]; omega)) (fun b2 g2 => ?_)
          have S2 := TLS_t S1 g2.2
          refine ws_b (k_text n hn 4 (by decide) g2.1 (by simp only [List.length_append, List.length_nil]; omega)) (fun b3 g3 => ?_)
          have S3 := TLS_t S2 g3.2
          refine ws_b (k_number n hn m (by omega) (by omega) g3.1 (by simp only [List.length_append, List.length_nil]; omega)) (fun b4 g4 => ?_)
          have S4 := TLS_t S3 g4.2
          refine ws_b (k_text n hn 3 (by decide) g4.1 (by simp only [List.length_append, List.length_nil]; omega)) (fun b5 g5 => ?_)
          have S5 := TLS_t S4 g5.2
          have hiL : i.toInt.toNat < (EL f a.toInt.toNat).length := by rw [EL_len]; omega
          refine ws_b (k_markAt n S5.2.2.2.1 i.toInt.toNat i (by omega) hiL) (fun v1 hv1 => ?_)
          have hv1' : v1 = EM f a.toInt.toNat i.toInt.toNat := by
            rw [hv1]
            exact EL_gt (by omega) hiL
          have r1 := hMR a.toInt.toNat (by omega) _ (EL_mem (f := f) (r := a.toInt.toNat) (i := i.toInt.toNat) (by omega))
          rw [← hv1'] at r1
          have d1 := dgs_len v1
          refine ws_b (k_number n hn v1 r1.1 (by omega) g5.1 (by simp only [List.length_append, List.length_nil]; omega)) (fun b6 g6 => ?_)
          have S6 := TLS_t S5 g6.2
          refine ws_b (k_text n hn 2 (by decide) g6.1 (by simp only [List.length_append, List.length_nil]; omega)) (fun b7 g7 => ws_l ?_)
          have S7 := TLS_t S6 g7.2
          rw [S7.1]
          refine ws_hc (k_headOf n hn w b7 (f 1) (by omega) S7.2.2.1 (lpA w a.toInt.toNat) (EL f a.toInt.toNat) S7.2.2.2.1 m.toInt.toNat (by rw [EL_len]; omega) m (by omega)) (fun v2 b8 hv2 => ?_)
          obtain ⟨hv2', j8⟩ := hv2
          replace hv2' : v2 = TMK (f 1) (EL f a.toInt.toNat) 0 m.toInt.toNat := hv2'
          have r2 := TMK_r hC (hMR a.toInt.toNat (by omega)) 0 m.toInt.toNat
          rw [← hv2'] at r2
          have S8 := TLS_j S7 j8
          have d2 := dgs_len v2
          refine ws_b (k_number n hn v2 r2.1 (by omega) (TDC_jf g7.1 j8) (by simp only [List.length_append, List.length_nil]; omega)) (fun b9 g9 => ?_)
          have S9 := TLS_t S8 g9.2
          refine ws_b (k_proofT n hn S9 hml hm7 g9.1 (by simp only [List.length_append, List.length_nil]; omega)) (fun b10 g10 => ws_l ?_)
          have eT : ([] : List Int32) ++ cs 15 ++ dgs i ++ cs 4 ++ dgs m ++ cs 3 ++ dgs v1 ++ cs 2 ++ dgs v2 ++ [32, 98, 121] ++ mksL (inL f a i m) ++ [59] = tlL f a i m := by
            unfold tlL sayL
            rw [← hv1', ← hv2', cs_15, cs_4, cs_3, cs_2]
            simp only [List.append_assoc, List.nil_append]
          rw [eT] at g10
          refine ws_hc (k_answer n b10 x _) (fun z ε hz => ws_s ⟨fun _ => ⟨?_, ?_⟩, fun no => absurd ok no⟩)
          · rw [show z = hp_I b10 611 x from hz.1]; exact g10.1
          · rw [show ε = hp_sI b10 600 x 0 from hz.2]
            exact ⟨by rw [hI_sI, if_neg (fun q => absurd q.1 (by decide))]; exact g10.1, g10.2.1, fun k hk => g10.2.2 k hk⟩
      · exact ws_i (fun q => absurd q hv) (fun _ => bad v no)
  · rw [if_neg hr] at ho
    subst ho
    refine ws_hN ?_
    refine ws_b (S := fun v => ¬ v = 0) (ws_hN (ws_lt (fun e => ws_s (by decide)) (fun _ => ws_le (fun e => ws_s (by decide)) (fun e => ws_s (by decide))))) (fun v hv => ?_)
    exact ws_i (fun q => absurd q hv) (fun _ => bad v (fun q => hr q.2.1))
theorem k_tellGrowth (n : Nat) (hn : 70000 ≤ n) (α : hp_T) (x : Nat) (f : Nat → Int32) (hC : rC f) (h : RWX α x f) (pl : List Int32) (hP : RWL α (hp_R α 614 x) pl) (a i m : Int32) : ws (f_X11_tellGrowth n α x a i m) (fun res => (grOK f a i m → res.1.toInt = ((tgL f a i m).length : Int) ∧ TDC res.2 x (tgL f a i m)) ∧ (¬ grOK f a i m → res.1 = -1 ∧ ∀ T, TDC α x T → TDC res.2 x T)) := by
  obtain ⟨w, u, h1, h2, -, h4, -⟩ := h
  have hm0 := hC.2.1
  have h44 := hC.1
  have bad : ∀ v : Int32, ¬ grOK f a i m → ws (hq_c (f_X11_refuse n α x v) fun r β => some (r, β)) (fun res => (grOK f a i m → res.1.toInt = ((tgL f a i m).length : Int) ∧ TDC res.2 x (tgL f a i m)) ∧ (¬ grOK f a i m → res.1 = -1 ∧ ∀ T, TDC α x T → TDC res.2 x T)) := fun v hno => ws_hc (k_refuse n α x v) (fun z γ hz => ws_s ⟨fun ok => absurd ok hno, fun _ => ⟨hz.1, fun T hT => by
    rw [show γ = hp_sI α 600 x v from hz.2]
    exact ⟨by rw [hI_sI, if_neg (fun q => absurd q.1 (by decide))]; exact hT.1, hT.2.1, fun k hk => hT.2.2 k hk⟩⟩⟩)
  unfold f_X11_tellGrowth f_X11_wrongGrowth
  refine ws_l ?_
  rw [h1]
  refine ws_b (k_logAt n h4 hC a) (fun o ho => ?_)
  by_cases hr : 0 ≤ a.toInt ∧ a.toInt < (f 0).toInt
  · rw [if_pos hr] at ho
    subst ho
    have q152 := (h4.2.2.1 a.toInt.toNat (by omega)).1
    have hsz := hC.2.2.2.2.1 a.toInt.toNat (by omega)
    refine ws_hS ?_
    refine ws_b (S := fun v => (v = 0 ∧ grOK f a i m) ∨ (¬ v = 0 ∧ ¬ grOK f a i m)) (ws_hS (ws_lt (fun e => ws_s (Or.inr ⟨by decide, fun q => by rw [lt0] at e; have := q.1.1; omega⟩)) (fun e => ws_le (fun e2 => ws_l ?_) (fun e2 => ws_s (Or.inr ⟨by decide, fun q => by have := q.1.2; omega⟩))))) (fun v hv => ?_)
    · rw [lt0] at e
      rw [q152]
      exact ws_le (fun e3 => ws_s (Or.inl ⟨rfl, ⟨e, e2⟩, hr, e3⟩)) (fun e3 => ws_s (Or.inr ⟨by decide, fun q => by have := q.2.2; omega⟩))
    · rcases hv with ⟨rfl, ok⟩ | ⟨hv, no⟩
      · refine ws_i (fun _ => ws_l ?_) (fun q => absurd rfl q)
        have ok1 := ok.1
        have ok3 := ok.2.2
        have hMR := MR_WR h4 hC
        refine ws_b (k_toGrowth n hn α _ i m ok1.1 ok1.2) (fun β hβ => ws_l (ws_l (ws_l ?_)))
        obtain ⟨hWC, hwf⟩ := hβ
        have hWβ := WR_wf h4 hC hwf
        rw [hwf.1, h1]
        have hwl := wyH_7 (i := i.toInt.toNat) (N := m.toInt.toNat) (by omega) (by omega)
        have hPβ : RWL β (hp_R α 614 x) pl := RWL_wf hP hwf
        refine ws_b (k_marksAlong n hn w (hp_R α 614 x) _ β (f 1) (by omega) hWβ.2.1.1 (lpA w a.toInt.toNat) (EL f a.toInt.toNat) (WR_LM hWβ hC (by omega)) _ hWC (by rw [List.length_reverse]; omega) (fun q hq => ?_) pl hPβ) (fun γ hγ => ws_l ?_)
        · have := wyH_in i.toInt.toNat m.toInt.toNat (by omega) q hq
          rw [EL_len]; omega
        · obtain ⟨hR, hq⟩ := hγ
          have hml : ∀ v ∈ grL f a i m, 0 ≤ v.toInt ∧ v.toInt ≤ 65521 := mkl_r hC (hMR a.toInt.toNat (by omega)) _
          have hm7 : (grL f a i m).length ≤ 7 := by unfold grL; rw [mkl_len, List.length_reverse]; omega
          obtain ⟨δ, hδ⟩ : ∃ δ, δ = hp_sI γ 611 x 0 := ⟨_, rfl⟩
          rw [← hδ]
          have hT0 : TDC δ x [] := ⟨by rw [hδ, hI_sI, if_pos ⟨rfl, rfl⟩]; rfl, by decide, fun k hk => absurd hk (Nat.not_lt_zero _)⟩
          have f0 : tdf x γ δ := by
            rw [hδ]
            exact ⟨rfl, rfl, rfl, rfl, fun φ b q => by rw [hI_sI, if_neg (fun z => q z.1)], fun _ _ _ _ => rfl⟩
          have S0 : TLS δ x w (lpA w a.toInt.toNat) (hp_R α 614 x) (f 1) (EL f a.toInt.toNat) (grL f a i m) := TLS_t ⟨by rw [hq.1, hwf.1]; exact h1, by rw [hq.1, hwf.1], by rw [hq.2.2.2.2.1 550 w (fun z => absurd z.2 (by decide))]; exact hWβ.2.1.1, LM_qf (WR_LM hWβ hC (by omega)) hq, hR⟩ f0
          have l12 := cs_l 12 (by decide)
          have l5 := cs_l 5 (by decide)
          have l3 := cs_l 3 (by decide)
          have l2 := cs_l 2 (by decide)
          have di := dgs_len i
          have dm := dgs_len m
          refine ws_b (k_text n hn 12 (by decide) hT0 (by rw [List.length_nil]; omega)) (fun b1 g1 => ?_)
          have S1 := TLS_t S0 g1.2
          refine ws_b (k_number n hn i ok1.1 (by omega) g1.1 (by simp only [List.length_append, List.length_nil]; omega)) (fun b2 g2 => ?_)
          have S2 := TLS_t S1 g2.2
          refine ws_b (k_text n hn 3 (by decide) g2.1 (by simp only [List.length_append, List.length_nil]; omega)) (fun b3 g3 => ws_l ?_)
          have S3 := TLS_t S2 g3.2
          rw [S3.1]
          refine ws_hc (k_headOf n hn w b3 (f 1) (by omega) S3.2.2.1 (lpA w a.toInt.toNat) (EL f a.toInt.toNat) S3.2.2.2.1 i.toInt.toNat (by rw [EL_len]; omega) i (by omega)) (fun v1 b4 hv1 => ?_)
          obtain ⟨hv1', j4⟩ := hv1
          replace hv1' : v1 = TMK (f 1) (EL f a.toInt.toNat) 0 i.toInt.toNat := hv1'
          have r1 := TMK_r hC (hMR a.toInt.toNat (by omega)) 0 i.toInt.toNat
          rw [← hv1'] at r1
          have S4 := TLS_j S3 j4
          have d1 := dgs_len v1
          refine ws_b (k_number n hn v1 r1.1 (by omega) (TDC_jf g3.1 j4) (by simp only [List.length_append, List.length_nil]; omega)) (fun b5 g5 => ?_)
          have S5 := TLS_t S4 g5.2
          refine ws_b (k_text n hn 5 (by decide) g5.1 (by simp only [List.length_append, List.length_nil]; omega)) (fun b6 g6 => ?_)
          have S6 := TLS_t S5 g6.2
          refine ws_b (k_number n hn m (by omega) (by omega) g6.1 (by simp only [List.length_append, List.length_nil]; omega)) (fun b6' g6' => ?_)
          have S6' := TLS_t S6 g6'.2
          refine ws_b (k_text n hn 2 (by decide) g6'.1 (by simp only [List.length_append, List.length_nil]; omega)) (fun b7 g7 => ws_l ?_)
          have S7 := TLS_t S6' g7.2
          rw [S7.1]
          refine ws_hc (k_headOf n hn w b7 (f 1) (by omega) S7.2.2.1 (lpA w a.toInt.toNat) (EL f a.toInt.toNat) S7.2.2.2.1 m.toInt.toNat (by rw [EL_len]; omega) m (by omega)) (fun v2 b8 hv2 => ?_)
          obtain ⟨hv2', j8⟩ := hv2
          replace hv2' : v2 = TMK (f 1) (EL f a.toInt.toNat) 0 m.toInt.toNat := hv2'
          have r2 := TMK_r hC (hMR a.toInt.toNat (by omega)) 0 m.toInt.toNat
          rw [← hv2'] at r2
          have S8 := TLS_j S7 j8
          have d2 := dgs_len v2
          refine ws_b (k_number n hn v2 r2.1 (by omega) (TDC_jf g7.1 j8) (by simp only [List.length_append, List.length_nil]; omega)) (fun b9 g9 => ?_)
          have S9 := TLS_t S8 g9.2
          refine ws_b (k_proofT n hn S9 hml hm7 g9.1 (by simp only [List.length_append, List.length_nil]; omega)) (fun b10 g10 => ws_l ?_)
          have eT : ([] : List Int32) ++ cs 12 ++ dgs i ++ cs 3 ++ dgs v1 ++ cs 5 ++ dgs m ++ cs 2 ++ dgs v2 ++ [32, 98, 121] ++ mksL (grL f a i m) ++ [59] = tgL f a i m := by
            unfold tgL sayL
            rw [← hv1', ← hv2', cs_12, cs_3, cs_5, cs_2]
            simp only [List.append_assoc, List.nil_append]
          rw [eT] at g10
          refine ws_hc (k_answer n b10 x _) (fun z ε hz => ws_s ⟨fun _ => ⟨?_, ?_⟩, fun no => absurd ok no⟩)
          · rw [show z = hp_I b10 611 x from hz.1]; exact g10.1
          · rw [show ε = hp_sI b10 600 x 0 from hz.2]
            exact ⟨by rw [hI_sI, if_neg (fun q => absurd q.1 (by decide))]; exact g10.1, g10.2.1, fun k hk => g10.2.2 k hk⟩
      · exact ws_i (fun q => absurd q hv) (fun _ => bad v no)
  · rw [if_neg hr] at ho
    subst ho
    refine ws_hN ?_
    refine ws_b (S := fun v => ¬ v = 0) (ws_hN (ws_lt (fun e => ws_s (by decide)) (fun _ => ws_le (fun e => ws_s (by decide)) (fun e => ws_s (by decide))))) (fun v hv => ?_)
    exact ws_i (fun q => absurd q hv) (fun _ => bad v (fun q => hr q.2.1))
theorem MR_X {α : hp_T} {x : Nat} {f : Nat → Int32} (h : RWX α x f) (hC : rC f) : MR f := by
  obtain ⟨w, u, -, -, -, h4, -⟩ := h
  exact MR_WR h4 hC
theorem tl_eq {O : Prop} {n : Nat} {v u : Int32} {A B : Prop} {C D : Prop} (h : (O → v.toInt = (n : Int) ∧ A) ∧ (¬ O → v = -1 ∧ C)) (g : (O → u.toInt = (n : Int) ∧ B) ∧ (¬ O → u = -1 ∧ D)) : v = u := by
  by_cases o : O
  · exact Int32.toInt_inj.mp ((h.1 o).1.trans (g.1 o).1.symm)
  · exact (h.2 o).1.trans (g.2 o).1.symm
end JN9_32
section JN9_33
set_option maxRecDepth 100000
abbrev trOK (f : Nat → Int32) (a b : Int32) : Prop := 0 ≤ a.toInt ∧ (0 ≤ b.toInt ∧ b.toInt < (f 1).toInt)
abbrev trIs (f : Nat → Int32) (a b : Int32) (k : Nat) : Prop := f (76 + 4 * k) = a ∧ f (77 + 4 * k) = b
def trN (f : Nat → Int32) (a b : Int32) : Nat → Int32
  | 0 => 0
  | k + 1 => if trIs f a b k then trN f a b k + 1 else trN f a b k
def trA (f : Nat → Int32) (a b : Int32) : Int32 := if trOK f a b then trN f a b 4 else -1
theorem v_trusted_L (n : Nat) (σ : ms_T) (a b : Int32) : ∀ (d k : Nat) (vI kI : Int32), kI.toInt = (k : Int) → k ≤ 4 → vI = trN (ms_E σ 40) a b k → pr (f_X12_trusted_L31 n d σ a b vI kI) (fun res => res.1 = trN (ms_E σ 40) a b 4) := by
  intro d
  induction d with
  | zero => intro k vI kI _ _ _; rw [f_X12_trusted_L31.eq_1]; exact pr_0
  | succ d ih =>
    intro k vI kI hk hl hv
    have t4 := t_4
    have e1 : k < 4 → (kI + 1).toInt = ((k + 1 : Nat) : Int) := fun _ => by rw [iw_add, lt1]; omega
    rw [f_X12_trusted_L31.eq_2]
    refine pr_le (fun e => pr_s ?_) (fun e => ?_)
    · show vI = _
      rw [hv, show k = 4 by omega]
    · have hk4 : k < 4 := by omega
      have h0 : ∀ w, w = trN (ms_E σ 40) a b (k + 1) → pr (f_X12_trusted_L31 n d σ a b w (kI + 1)) (fun res => res.1 = trN (ms_E σ 40) a b 4) := fun w hw => ih (k + 1) w _ (e1 hk4) (by omega) hw
      unfold f_X12_trusted_J64 f_X12_trusted_J65
      have z : vI + 0 = vI := Int32.toInt_inj.mp (by rw [iw_add, lt0]; have := ib_lo vI; have := ib_hi vI; omega)
      refine pr_b (v_trust n σ k hk4 kI hk 0 (by omega) 0 rfl) (fun v hv1 => pr_i (fun c1 => pr_b (v_trust n σ k hk4 kI hk 1 (by omega) 1 rfl) (fun v2 hv2 => pr_i (fun c2 => pr_l (pr_l (h0 _ ?_))) (fun c2 => pr_l (pr_l (h0 _ ?_))))) (fun c1 => pr_l (pr_l (h0 _ ?_))))
      · have e77 : ms_E σ 40 (77 + 4 * k) = b := by rw [show 77 + 4 * k = 76 + 4 * k + 1 by omega]; exact hv2.symm.trans c2
        rw [trN, if_pos ⟨hv1.symm.trans c1, e77⟩, hv]
      · rw [trN, if_neg ?_, z, hv]
        intro q
        refine c2 ?_
        rw [hv2, ← q.2, show 77 + 4 * k = 76 + 4 * k + 1 by omega]
      · rw [trN, if_neg (fun q => c1 (hv1.trans q.1)), z, hv]
theorem v_trusted (n : Nat) (σ : ms_T) (hC : rC (ms_E σ 40)) (a b : Int32) : pr (f_X12_trusted n σ a b) (fun res => res.1 = trA (ms_E σ 40) a b) := by
  unfold f_X12_trusted f_X12_trusted_J13 f_X12_trusted_J18 trA
  refine pr_lt (fun e => v_is1 n σ 1 (by decide) (pr_s ?_)) (fun e => pr_bo (pr_w (s_isMark hC b)) (fun h0 => v_is1 n σ 1 (by decide) (pr_s ?_)) (fun h1 => v_is0 n σ ?_))
  · rw [lt0] at e
    rw [if_neg (fun q => by have := q.1; omega)]
  · rw [if_neg (fun q => h0 q.2)]
  · rw [lt0] at e
    rw [if_pos ⟨e, h1⟩]
    exact v_trusted_L n (ms_sI (ms_sI σ 653 0) 652 0) a b n 0 0 0 rfl (by omega) rfl
theorem k_trusted_L (n : Nat) (α : hp_T) (x w : Nat) (f : Nat → Int32) (h1 : hp_R α 601 x = w) (h4 : WR α w f) (a b : Int32) : ∀ (d k : Nat) (vI kI : Int32), kI.toInt = (k : Int) → k ≤ 4 → 5 - k ≤ d → vI = trN f a b k → ws (f_X11_trusted_L23 n x d α a b vI kI) (fun res => res.1 = trN f a b 4) := by
  intro d
  induction d with
  | zero => intro k vI kI _ _ hd; omega
  | succ d ih =>
    intro k vI kI hk hl hd hv
    have t4 := t_4
    rw [f_X11_trusted_L23.eq_2]
    refine ws_le (fun e => ws_hc (k_answer n α x vI) (fun z γ hz => ws_s (hz.1.trans ?_))) (fun e => ws_l ?_)
    · rw [hv, show k = 4 by omega]
    · have hk4 : k < 4 := by omega
      have e1 : (kI + 1).toInt = ((k + 1 : Nat) : Int) := by rw [iw_add, lt1]; omega
      have h0 : ∀ v, v = trN f a b (k + 1) → ws (f_X11_trusted_L23 n x d α a b v (kI + 1)) (fun res => res.1 = trN f a b 4) := fun v hv => ih (k + 1) v _ e1 (by omega) (by omega) hv
      rw [h1]
      refine ws_b (k_watcherAt n h4.1 k hk4 kI hk) (fun o ho => ?_)
      subst ho
      obtain ⟨q1, q2, q3, q4⟩ := h4.2.2.2.2.1 k hk4
      unfold f_X11_trusted_J66
      refine ws_hS (ws_l ?_)
      rw [q1]
      refine ws_i (fun c1 => ws_l ?_) (fun c1 => ws_l (h0 _ (by rw [trN, if_neg (fun q => c1 q.1), hv])))
      rw [q2]
      exact ws_i (fun c2 => ws_l (ws_l (h0 _ (by rw [trN, if_pos ⟨c1, c2⟩, hv])))) (fun c2 => ws_l (h0 _ (by rw [trN, if_neg (fun q => c2 q.2), hv])))
theorem k_trusted (n : Nat) (hn : 70000 ≤ n) (α : hp_T) (x : Nat) (f : Nat → Int32) (hC : rC f) (h : RWX α x f) (a b : Int32) : ws (f_X11_trusted n α x a b) (fun res => res.1 = trA f a b) := by
  obtain ⟨w, u, h1, h2, h3, h4, -⟩ := h
  have bad : ¬ trOK f a b → ws (hq_c (f_X11_refuse n α x 1) fun r β => some (r, β)) (fun res => res.1 = trA f a b) := fun hno => by
    unfold trA
    rw [if_neg hno]
    exact ws_hc (k_refuse n α x 1) (fun z γ hz => ws_s hz.1)
  unfold f_X11_trusted f_X11_trusted_J12
  refine ws_lt (fun e => bad (fun q => by rw [lt0] at e; have := q.1; omega)) (fun e => ws_bo (k_isMark n h1 h4.2.1.1 b) (fun e2 => bad (fun q => e2 q.2)) (fun e2 => ?_))
  rw [lt0] at e
  unfold trA
  rw [if_pos ⟨e, e2⟩]
  exact k_trusted_L n α x w f h1 h4 a b n 0 0 0 rfl (by omega) (by omega) rfl
end JN9_33
section JN9_34
set_option maxRecDepth 100000
abbrev whOK (f : Nat → Int32) (a b : Int32) : Prop := 0 ≤ a.toInt ∧ (0 ≤ b.toInt ∧ b.toInt < (f 1).toInt)
def whN (f : Nat → Int32) (a b : Int32) : Nat → Int32
  | 0 => 0
  | k + 1 => if hsP f k a b then whN f a b k ||| ((1 : Int32) <<< (Int32.ofNat k &&& 31)) else whN f a b k
def whA (f : Nat → Int32) (a b : Int32) : Int32 := if whOK f a b then whN f a b (f 0).toInt.toNat else -1
theorem or_0 (v : Int32) : v ||| 0 = v := by
  rw [← Int32.toBitVec_inj]
  show v.toBitVec ||| 0#32 = _
  exact BitVec.or_zero
theorem v_who_L (n : Nat) (σ : ms_T) (hC : rC (ms_E σ 40)) (a b : Int32) (h0 : 0 ≤ a.toInt) : ∀ (d k : Nat) (vI kI : Int32), kI.toInt = (k : Int) → k ≤ (ms_E σ 40 0).toInt.toNat → vI = whN (ms_E σ 40) a b k → pr (f_X12_who_L31 n d σ a b vI kI) (fun res => res.1 = whN (ms_E σ 40) a b (ms_E σ 40 0).toInt.toNat) := by
  intro d
  induction d with
  | zero => intro k vI kI _ _ _; rw [f_X12_who_L31.eq_1]; exact pr_0
  | succ d ih =>
    intro k vI kI hk hl hv
    have h4 := hC.1
    have c0 : ((0 : Int32)).toNatClampNeg = 0 := by decide
    rw [f_X12_who_L31.eq_2, c0]
    refine pr_g (fun _ _ => pr_le (fun e => pr_s ?_) (fun e => ?_))
    · show vI = _
      rw [hv, show k = (ms_E σ 40 0).toInt.toNat by omega]
    · have e1 : (kI + 1).toInt = ((k + 1 : Nat) : Int) := by rw [iw_add, lt1]; omega
      have hkI : kI = Int32.ofNat k := i_ofN hk
      have nx : ∀ w, w = whN (ms_E σ 40) a b (k + 1) → pr (f_X12_who_L31 n d σ a b w (kI + 1)) (fun res => res.1 = whN (ms_E σ 40) a b (ms_E σ 40 0).toInt.toNat) := fun w hw => ih (k + 1) w _ e1 (by omega) hw
      unfold f_X12_who_J62
      refine pr_bo (v_isHead n σ hC k (by omega) kI hk a b h0) (fun z => pr_l (pr_l (nx _ ?_))) (fun z => pr_l (pr_l (nx _ ?_)))
      · rw [whN, if_neg z, or_0, hv]
      · rw [whN, if_pos z, hv, hkI]
theorem v_who (n : Nat) (σ : ms_T) (hC : rC (ms_E σ 40)) (a b : Int32) : pr (f_X12_who n σ a b) (fun res => res.1 = whA (ms_E σ 40) a b) := by
  unfold f_X12_who f_X12_who_J13 f_X12_who_J18 whA
  refine pr_lt (fun e => v_is1 n σ 1 (by decide) (pr_s ?_)) (fun e => pr_bo (pr_w (s_isMark hC b)) (fun h0 => v_is1 n σ 1 (by decide) (pr_s ?_)) (fun h1 => v_is0 n σ ?_))
  · rw [lt0] at e
    rw [if_neg (fun q => by have := q.1; omega)]
  · rw [if_neg (fun q => h0 q.2)]
  · rw [lt0] at e
    rw [if_pos ⟨e, h1⟩]
    exact v_who_L n (ms_sI (ms_sI σ 653 0) 652 0) hC a b e n 0 0 0 rfl (by omega) rfl
theorem k_who_L (n : Nat) (hn : 70000 ≤ n) (x w : Nat) (f : Nat → Int32) (hC : rC f) (a b : Int32) (h0 : 0 ≤ a.toInt) : ∀ (d k : Nat) (α : hp_T) (vI kI : Int32), hp_R α 601 x = w → WR α w f → kI.toInt = (k : Int) → k ≤ (f 0).toInt.toNat → 5 - k ≤ d → vI = whN f a b k → ws (f_X11_who_L23 n x d α a b vI kI) (fun res => res.1 = whN f a b (f 0).toInt.toNat) := by
  intro d
  induction d with
  | zero =>
    intro k α vI kI _ _ _ hl hd
    have h4 := hC.1
    omega
  | succ d ih =>
    intro k α vI kI h1 h hk hl hd hv
    have h4 := hC.1
    rw [f_X11_who_L23.eq_2]
    refine ws_l (ws_l ?_)
    rw [h1, h.2.1.2.1]
    refine ws_le (fun e => ws_hc (k_answer n α x vI) (fun z γ hz => ws_s (hz.1.trans ?_))) (fun e => ws_l (ws_l ?_))
    · rw [hv, show k = (f 0).toInt.toNat by omega]
    · have e1 : (kI + 1).toInt = ((k + 1 : Nat) : Int) := by rw [iw_add, lt1]; omega
      have hkI : kI = Int32.ofNat k := i_ofN hk
      refine ws_b (k_logAt n h hC kI) (fun o ho => ?_)
      rw [if_pos ⟨by omega, by omega⟩, hk, Int.toNat_natCast] at ho
      subst ho
      unfold f_X11_who_J63
      refine ws_hS ?_
      refine ws_hc (k_hasHead n hn α w f hC h k (by omega) a b h0) (fun v β hv2 => ?_)
      obtain ⟨hb, hj⟩ := hv2
      have hβ := WR_jf h hC hj
      have h1β : hp_R β 601 x = w := by rw [hj.1]; exact h1
      rcases hb with ⟨e2, z⟩ | ⟨e2, z⟩
      · replace e2 : v = 1 := e2
        subst e2
        refine ws_i (fun q => absurd q (by decide)) (fun _ => ws_l (ws_l (ih (k + 1) β _ _ h1β hβ e1 (by omega) (by omega) ?_)))
        rw [whN, if_pos z, hv, hkI]
      · replace e2 : v = 0 := e2
        subst e2
        refine ws_i (fun _ => ws_l (ih (k + 1) β _ _ h1β hβ e1 (by omega) (by omega) ?_)) (fun q => absurd rfl q)
        rw [whN, if_neg z, hv]
theorem k_who (n : Nat) (hn : 70000 ≤ n) (α : hp_T) (x : Nat) (f : Nat → Int32) (hC : rC f) (h : RWX α x f) (a b : Int32) : ws (f_X11_who n α x a b) (fun res => res.1 = whA f a b) := by
  obtain ⟨w, u, h1, h2, h3, h4, -⟩ := h
  have bad : ¬ whOK f a b → ws (hq_c (f_X11_refuse n α x 1) fun r β => some (r, β)) (fun res => res.1 = whA f a b) := fun hno => by
    unfold whA
    rw [if_neg hno]
    exact ws_hc (k_refuse n α x 1) (fun z γ hz => ws_s hz.1)
  unfold f_X11_who f_X11_who_J12
  refine ws_lt (fun e => bad (fun q => by rw [lt0] at e; have := q.1; omega)) (fun e => ws_bo (k_isMark n h1 h4.2.1.1 b) (fun e2 => bad (fun q => e2 q.2)) (fun e2 => ?_))
  rw [lt0] at e
  unfold whA
  rw [if_pos ⟨e, e2⟩]
  exact k_who_L n hn x w f hC a b e n 0 α 0 0 h1 h4 rfl (by omega) (by omega) rfl
end JN9_34
section JN9_35
set_option maxRecDepth 100000
def wfl (W : List (Nat × Nat × Bool)) (j : Nat) : Bool := (W.getD j (0, 0, false)).2.2
theorem wfl_l (W : List (Nat × Nat × Bool)) (q : Nat × Nat × Bool) {j : Nat} (h : j < W.length) : wfl (W ++ [q]) j = wfl W j := by
  unfold wfl
  rw [List.getD_eq_getElem?_getD, List.getD_eq_getElem?_getD, List.getElem?_append_left h]
theorem wfl_r (W : List (Nat × Nat × Bool)) (q : Nat × Nat × Bool) : wfl (W ++ [q]) W.length = q.2.2 := by
  unfold wfl
  rw [List.getD_eq_getElem?_getD, List.getElem?_append_right (Nat.le_refl _), Nat.sub_self]
  rfl
theorem wfl_g (W : List (Nat × Nat × Bool)) {j : Nat} (h : j < W.length) : wfl W j = W[j].2.2 := by
  unfold wfl
  rw [List.getD_eq_getElem?_getD, List.getElem?_eq_getElem h]
  rfl
def cLL (m : Int32) (xs : Nat → Int32) (W : List (Nat × Nat × Bool)) (mark : Int32) (j : Nat) : Int32 := if wfl W j then xs j else fwd m xs (W.take j) 0 mark
def cRR (m : Int32) (xs : Nat → Int32) (W : List (Nat × Nat × Bool)) (mark : Int32) (j : Nat) : Int32 := if wfl W j then fwd m xs (W.take j) 0 mark else xs j
theorem fwd_ts (m : Int32) (xs : Nat → Int32) (W : List (Nat × Nat × Bool)) (s : Int32) {k : Nat} (hk : k < W.length) : fwd m xs (W.take (k + 1)) 0 s = if W[k].2.2 then bt m (xs k) (fwd m xs (W.take k) 0 s) else bt m (fwd m xs (W.take k) 0 s) (xs k) := by
  rw [List.take_succ_eq_append_getElem hk, fwd_app, List.length_take, Nat.min_eq_left (by omega), fwd, fwd, Nat.zero_add]
theorem WC_jfc {α β : hp_T} {w wy : Nat} {l : List (Nat × Nat × Bool)} (h : WC α wy l) (f : jf w α β) : WC β wy l := by
  obtain ⟨f1, -, -, -, f5, f6⟩ := f
  refine ⟨by rw [f5]; exact h.1, fun k q hq => ?_⟩
  obtain ⟨b1, b2, b3⟩ := h.2 k q hq
  rw [f1, f6 21 _ k (fun z => absurd z.1 (by decide)), f6 22 _ k (fun z => absurd z.1 (by decide)), f6 23 _ k (fun z => absurd z.1 (by decide))]
  exact ⟨b1, b2, b3⟩
end JN9_35
section JN9_36
set_option maxRecDepth 100000
theorem v_fromPad_L (n : Nat) (f : Nat → Int32) (hC : rC f) (σ0 : ms_T) : ∀ (d k : Nat) (σ : ms_T) (kI : Int32), ms_E σ 40 = f → kI.toInt = (k : Int) → k ≤ (f 2).toInt.toNat → (∀ j, j < k → ms_E σ 44 j = f (8 + j)) → fr [] [44] σ0 σ → pr (f_X12_fromPad_L2 n d σ kI) (fun res => res.1 = f 2 ∧ (∀ j, j < (f 2).toInt.toNat → ms_E res.2 44 j = f (8 + j)) ∧ fr [] [44] σ0 res.2) := by
  intro d
  induction d with
  | zero => intro k σ kI _ _ _ _ _; rw [f_X12_fromPad_L2.eq_1]; exact pr_0
  | succ d ih =>
    intro k σ kI hσ hk hkl h44 hf
    have c2 : ((2 : Int32)).toNatClampNeg = 2 := by decide
    have h64 := hC.2.2.1
    rw [f_X12_fromPad_L2.eq_2, c2, hσ]
    refine pr_g (fun _ _ => pr_le (fun e => pr_g (fun _ _ => pr_s ⟨rfl, fun j hj => h44 j (by omega), hf⟩)) (fun e => pr_g (fun _ _ => pr_g (fun _ _ => pr_l (pr_l ?_)))))
    have ec : ((8 : Int32) + kI).toNatClampNeg = 8 + k := cl_n (by rw [iw_add, t_8]; omega)
    have e1 : (kI + 1).toInt = ((k + 1 : Nat) : Int) := by rw [iw_add, lt1]; omega
    rw [ec, cl_n hk]
    refine ih (k + 1) _ _ ?_ e1 (by omega) (fun j hj => ?_) (fr_tr hf (fr_sE (by decide)))
    · funext j
      rw [mE_sE, if_neg (fun q => absurd q.1 (by decide)), hσ]
    · rw [mE_sE]
      by_cases ej : j = k
      · rw [if_pos ⟨rfl, ej⟩, ej]
      · rw [if_neg (fun q => ej q.2)]; exact h44 j (by omega)
theorem v_fromPad (n : Nat) (σ : ms_T) (hC : rC (ms_E σ 40)) : pr (f_X12_fromPad n σ) (fun res => res.1 = ms_E σ 40 2 ∧ (∀ j, j < (ms_E σ 40 2).toInt.toNat → ms_E res.2 44 j = ms_E σ 40 (8 + j)) ∧ fr [] [44] σ res.2) := by
  unfold f_X12_fromPad
  exact v_fromPad_L n (ms_E σ 40) hC σ n 0 σ 0 rfl rfl (Nat.zero_le _) (fun j hj => by omega) fr_rf
theorem WIN_c (m : Int32) {xs ys : Nat → Int32} (c : Nat) (mark : Int32) (i N : Nat) (head : Int32) (h : ∀ j, j < c → xs j = ys j) : WIN m xs c mark i N head = WIN m ys c mark i N head := by
  unfold WIN
  by_cases h1 : c < (wyT 31 i 0 N).length
  · rw [if_pos h1, if_pos h1]
  · rw [if_neg h1, if_neg h1]
    by_cases h2 : (wyT 31 i 0 N).length < c
    · rw [if_pos h2, if_pos h2]
    · rw [if_neg h2, if_neg h2, fwd_c m (wyT 31 i 0 N).reverse 0 mark (fun j _ hj => h j (by rw [List.length_reverse] at hj; omega))]
abbrev mkP (f : Nat → Int32) (a : Int32) : Prop := 0 ≤ a.toInt ∧ a.toInt < (f 1).toInt
abbrev ckOK (f : Nat → Int32) (mark i m head : Int32) : Prop := (0 ≤ i.toInt ∧ i.toInt < m.toInt) ∧ mkP f mark ∧ mkP f head
def ckA (f : Nat → Int32) (mark i m head : Int32) : Int32 := if ckOK f mark i m head then WIN (f 1) (fun j => f (8 + j)) (f 2).toInt.toNat mark i.toInt.toNat m.toInt.toNat head else -1
theorem v_checks (n : Nat) (σ : ms_T) (hC : rC (ms_E σ 40)) (mark i m head : Int32) : pr (f_X12_checks n σ mark i m head) (fun res => res.1 = ckA (ms_E σ 40) mark i m head) := by
  have h64 := hC.2.2.1
  have bad : ¬ ckOK (ms_E σ 40) mark i m head → pr (f_X12_checks_J32 n σ mark i m head 1) (fun res => res.1 = ckA (ms_E σ 40) mark i m head) := fun hno => by
    unfold f_X12_checks_J32 ckA
    rw [if_neg hno]
    exact v_is1 n σ 1 (by decide) (pr_s rfl)
  unfold f_X12_checks f_X12_checks_J31
  refine pr_bo (v_isThing n σ i m) (fun z => bad (fun q => z q.1)) (fun z1 => pr_bo (pr_w (s_isMark hC mark)) (fun z => bad (fun q => z q.2.1)) (fun z2 => pr_bo (pr_w (s_isMark hC head)) (fun z => bad (fun q => z q.2.2)) (fun z3 => ?_)))
  unfold f_X12_checks_J32 ckA
  rw [if_pos ⟨z1, z2, z3⟩]
  refine v_is0 n σ ?_
  obtain ⟨τ0, hτ0⟩ : ∃ τ, τ = ms_sI (ms_sI σ 653 0) 652 0 := ⟨_, rfl⟩
  have e0 : ms_E τ0 40 = ms_E σ 40 := by rw [hτ0]; rfl
  rw [← hτ0]
  refine pr_c (v_fromPad n τ0 (by rw [e0]; exact hC)) (fun c τ hτ => ?_)
  obtain ⟨h1, h2, h3⟩ := hτ
  replace h1 : c = ms_E τ0 40 2 := h1
  rw [e0] at h1 h2
  have e1 : ms_E τ 40 = ms_E σ 40 := by rw [show ms_E τ 40 = ms_E τ0 40 from funext (fun j => h3.2 40 (by decide) j), e0]
  refine pr_c (v_whyIn n τ (ms_E σ 40 2).toInt.toNat c (by rw [h1]; omega) mark head i.toInt.toNat m.toInt.toNat i m (by omega) (by omega) (by omega)) (fun r υ hr => pr_s ?_)
  show r = _
  rw [show r = _ from hr.1, e1]
  exact WIN_c _ _ _ _ _ _ h2
theorem k_checks (n : Nat) (hn : 70000 ≤ n) (α : hp_T) (x : Nat) (f : Nat → Int32) (hC : rC f) (h : RWX α x f) (h6 : hp_R α 603 x = x + 919) (hP : RWL α (x + 919) (pdl f)) (mark i m head : Int32) : ws (f_X11_checks n α x mark i m head) (fun res => res.1 = ckA f mark i m head) := by
  obtain ⟨w, u, h1, h2, -, h4, -⟩ := h
  have hm0 := hC.2.1
  have h64 := hC.2.2.1
  have bad : ¬ ckOK f mark i m head → ws (hq_c (f_X11_refuse n α x 1) fun r β => some (r, β)) (fun res => res.1 = ckA f mark i m head) := fun hno => by
    unfold ckA
    rw [if_neg hno]
    exact ws_hc (k_refuse n α x 1) (fun z γ hz => ws_s hz.1)
  unfold f_X11_checks f_X11_checks_J25
  refine ws_bo (k_isThing n i m) (fun z => bad (fun q => z q.1)) (fun z1 => ws_bo (k_isMark n h1 h4.2.1.1 mark) (fun z => bad (fun q => z q.2.1)) (fun z2 => ws_bo (k_isMark n h1 h4.2.1.1 head) (fun z => bad (fun q => z q.2.2)) (fun z3 => ws_l ?_)))
  refine ws_b (k_toThing n hn α _ i m z1.1 z1.2) (fun β hβ => ws_l (ws_l (ws_l (ws_l ?_))))
  obtain ⟨hWC, hwf⟩ := hβ
  have hWβ := WR_wf h4 hC hwf
  rw [hwf.1, h1, h6, hWβ.2.1.1]
  refine ws_b (k_whyIn n hn β _ (x + 919) i.toInt.toNat m.toInt.toNat hWC (pdl f) (RWL_wf hP hwf) (f 1) (by omega) mark head) (fun r hr => ws_hc (k_answer n β x r) (fun z γ hz => ws_s ?_))
  unfold ckA
  rw [if_pos ⟨z1, z2, z3⟩, show z = r from hz.1, hr, pdl_len]
  exact WIN_c _ _ _ _ _ _ (fun j hj => pdl_gD f hj)
abbrev gwOK (f : Nat → Int32) (i old m new : Int32) : Prop := (0 ≤ i.toInt ∧ i.toInt ≤ m.toInt) ∧ mkP f old ∧ mkP f new
def gwA (f : Nat → Int32) (i old m new : Int32) : Int32 := if gwOK f i old m new then WHY (f 1) (fun j => f (8 + j)) (f 2).toInt.toNat i.toInt.toNat old m.toInt.toNat new else -1
theorem v_growthP (n : Nat) (σ : ms_T) (hC : rC (ms_E σ 40)) (i old m new : Int32) : pr (f_X12_growth_ n σ i old m new) (fun res => res.1 = gwA (ms_E σ 40) i old m new) := by
  have h64 := hC.2.2.1
  have bad : ¬ gwOK (ms_E σ 40) i old m new → pr (f_X12_growth__J32 n σ i old m new 1) (fun res => res.1 = gwA (ms_E σ 40) i old m new) := fun hno => by
    unfold f_X12_growth__J32 gwA
    rw [if_neg hno]
    exact v_is1 n σ 1 (by decide) (pr_s rfl)
  unfold f_X12_growth_ f_X12_growth__J31
  refine pr_lt (fun e => bad (fun q => by rw [lt0] at e; have := q.1.1; omega)) (fun e => pr_lt (fun e2 => bad (fun q => by have := q.1.2; omega)) (fun e2 => pr_bo (pr_w (s_isMark hC old)) (fun z => bad (fun q => z q.2.1)) (fun z2 => pr_bo (pr_w (s_isMark hC new)) (fun z => bad (fun q => z q.2.2)) (fun z3 => ?_))))
  rw [lt0] at e
  unfold f_X12_growth__J32 gwA
  rw [if_pos ⟨⟨e, e2⟩, z2, z3⟩]
  refine v_is0 n σ ?_
  obtain ⟨τ0, hτ0⟩ : ∃ τ, τ = ms_sI (ms_sI σ 653 0) 652 0 := ⟨_, rfl⟩
  have e0 : ms_E τ0 40 = ms_E σ 40 := by rw [hτ0]; rfl
  rw [← hτ0]
  refine pr_c (v_fromPad n τ0 (by rw [e0]; exact hC)) (fun c τ hτ => ?_)
  obtain ⟨h1, h2, h3⟩ := hτ
  replace h1 : c = ms_E τ0 40 2 := h1
  rw [e0] at h1 h2
  have e1 : ms_E τ 40 = ms_E σ 40 := by rw [show ms_E τ 40 = ms_E τ0 40 from funext (fun j => h3.2 40 (by decide) j), e0]
  refine pr_c (v_whyGrown n τ (ms_E σ 40 2).toInt.toNat c (by rw [h1]; omega) i.toInt.toNat m.toInt.toNat i m old new (by omega) (by omega) (by omega)) (fun r υ hr => pr_s ?_)
  show r = _
  rw [show r = _ from hr.1, e1]
  exact WHY_c _ _ _ _ _ _ h2
theorem k_growthP (n : Nat) (hn : 70000 ≤ n) (α : hp_T) (x : Nat) (f : Nat → Int32) (hC : rC f) (h : RWX α x f) (h6 : hp_R α 603 x = x + 919) (hP : RWL α (x + 919) (pdl f)) (i old m new : Int32) : ws (f_X11_growth n α x i old m new) (fun res => res.1 = gwA f i old m new) := by
  obtain ⟨w, u, h1, h2, -, h4, -⟩ := h
  have hm0 := hC.2.1
  have h64 := hC.2.2.1
  have bad : ¬ gwOK f i old m new → ws (hq_c (f_X11_refuse n α x 1) fun r β => some (r, β)) (fun res => res.1 = gwA f i old m new) := fun hno => by
    unfold gwA
    rw [if_neg hno]
    exact ws_hc (k_refuse n α x 1) (fun z γ hz => ws_s hz.1)
  unfold f_X11_growth f_X11_growth_J26
  refine ws_lt (fun e => bad (fun q => by rw [lt0] at e; have := q.1.1; omega)) (fun e => ws_lt (fun e2 => bad (fun q => by have := q.1.2; omega)) (fun e2 => ws_bo (k_isMark n h1 h4.2.1.1 old) (fun z => bad (fun q => z q.2.1)) (fun z2 => ws_bo (k_isMark n h1 h4.2.1.1 new) (fun z => bad (fun q => z q.2.2)) (fun z3 => ws_l (ws_l (ws_l (ws_l ?_)))))))
  rw [lt0] at e
  rw [h1, h6, h4.2.1.1]
  refine ws_hc (k_whyGrowth n hn α _ (x + 919) (pdl f) hP (f 1) (by omega) i.toInt.toNat m.toInt.toNat i m old new (by omega) (by omega) (by omega)) (fun r β hr => ws_hc (k_answer n β x r) (fun z γ hz => ws_s ?_))
  unfold gwA
  rw [if_pos ⟨⟨e, e2⟩, z2, z3⟩, show z = r from hz.1, show r = _ from hr.1, pdl_len]
  exact WHY_c _ _ _ _ _ _ (fun j hj => pdl_gD f hj)
def stL (m : Int32) (xs : Nat → Int32) (l : List (Nat × Nat × Bool)) (mark : Int32) (j : Nat) : Int32 := fwd m xs (l.take j) 0 mark
theorem v_stepsIn (n : Nat) (mark : Int32) : ∀ (d e : Nat) (σ : ms_T) (f i m : Nat) (iI mI : Int32), ms_I σ 689 = 0 → e ≤ 50 → iI.toInt = (i : Int) → mI.toInt = (m : Int) → i < m → m ≤ 2 ^ e → pr (f_X12_stepsIn n d σ mark iI mI) (fun res => res.1 = fwd (ms_E σ 40 1) (ms_E σ 44) (wyT e i f m).reverse 0 mark ∧ (ms_I res.2 689).toInt = ((wyT e i f m).length : Int) ∧ (∀ j, j < (wyT e i f m).length → ms_E res.2 53 j = stL (ms_E σ 40 1) (ms_E σ 44) (wyT e i f m).reverse mark (j + 1)) ∧ fr [689] [51, 52, 53] σ res.2) := by
  intro d
  induction d with
  | zero => intro e σ f i m iI mI _ _ _ _ _ _; rw [f_X12_stepsIn.eq_1]; exact pr_0
  | succ d ih =>
    intro e σ f i m iI mI h0 he hi hm him hme
    rw [f_X12_stepsIn.eq_2]
    refine pr_e (fun h1 => ?_) (fun h1 => ?_)
    · have : m = 1 := by rw [h1, lt1] at hm; omega
      subst this
      have e1 : wyT e i f 1 = [] := by cases e <;> simp [wyT]
      rw [e1]
      exact pr_s ⟨rfl, by rw [h0]; rfl, fun j hj => absurd hj (Nat.not_lt_zero _), fr_rf⟩
    · rw [lt1, hm] at h1
      have hm2 : 2 ≤ m := by omega
      have hmb := ib_hi mI
      cases e with
      | zero => simp at hme; omega
      | succ e =>
      have hp1 := p0_lt hm2
      have hp2 := p0_le (m := m)
      have hp3 := p0_pos m
      have hp4 := p0_dn hm2 hme
      have e1 : wyT (e + 1) i f m = if i < p0 m then (f + p0 m, m - p0 m, false) :: wyT e i f (p0 m) else (f, p0 m, true) :: wyT e (i - p0 m) (f + p0 m) (m - p0 m) := by rw [wyT, if_neg (by omega)]
      rw [e1]
      -- what is done behind the inner one
      have fin : ∀ (W : List (Nat × Nat × Bool)) (q : Nat × Nat × Bool) (v L Rr : Int32) (τ υ : ms_T), W.length ≤ 49 → v = fwd (ms_E σ 40 1) (ms_E σ 44) W.reverse 0 mark → (ms_I τ 689).toInt = (W.length : Int) → (∀ j, j < W.length → ms_E τ 53 j = stL (ms_E σ 40 1) (ms_E σ 44) W.reverse mark (j + 1)) → fr [689] [51, 52, 53] σ τ → L = (if q.2.2 then ms_E σ 44 W.length else v) → Rr = (if q.2.2 then v else ms_E σ 44 W.length) → υ = ms_sE τ 51 W.length L → pr (f_X12_stepsIn_J102 n (f_X12_stepsIn n d) υ Rr (ms_I υ 689)) (fun res => res.1 = fwd (ms_E σ 40 1) (ms_E σ 44) (q :: W).reverse 0 mark ∧ (ms_I res.2 689).toInt = ((q :: W).length : Int) ∧ (∀ j, j < (q :: W).length → ms_E res.2 53 j = stL (ms_E σ 40 1) (ms_E σ 44) (q :: W).reverse mark (j + 1)) ∧ fr [689] [51, 52, 53] σ res.2) := by
        intro W q v L Rr τ υ hW49 hv h689 h53 hf hL hRr hυ
        have u689 : ms_I υ 689 = ms_I τ 689 := by rw [hυ]; rfl
        have hc : (ms_I υ 689).toNatClampNeg = W.length := cl_n (by rw [u689]; exact h689)
        unfold f_X12_stepsIn_J102
        refine pr_g (fun _ _ => pr_ln (fun τ1 h1 => pr_g (fun _ _ => pr_g (fun _ _ => ?_))))
        have t689 : ms_I τ1 689 = ms_I τ 689 := by rw [h1]; exact u689
        have hc1 : (ms_I τ1 689).toNatClampNeg = W.length := cl_n (by rw [t689]; exact h689)
        rw [hc] at h1
        rw [hc1]
        have g51 : ms_E τ1 51 W.length = L := by rw [h1, mE_sE, if_neg (fun z => absurd z.1 (by decide)), hυ, mE_sE, if_pos ⟨rfl, rfl⟩]
        have g52 : ms_E τ1 52 W.length = Rr := by rw [h1, mE_sE, if_pos ⟨rfl, rfl⟩]
        have g40 : ms_E τ1 40 1 = ms_E σ 40 1 := by rw [h1, mE_sE, if_neg (fun z => absurd z.1 (by decide)), hυ, mE_sE, if_neg (fun z => absurd z.1 (by decide))]; exact hf.2 40 (by decide) 1
        rw [g51, g52]
        refine pr_b (v_both n τ1 _ _) (fun w hw => pr_g (fun _ _ => pr_ln (fun τ2 h2 => pr_ln (fun τ3 h3 => pr_g (fun _ _ => pr_s ?_)))))
        have t2 : ms_I τ2 689 = ms_I τ 689 := by rw [h2]; exact t689
        have i3 : (ms_I τ3 689).toInt = (W.length : Int) + 1 := by rw [h3, mI_sI, if_pos rfl, iw_add, lt1, t2]; omega
        have hc3 : (ms_I τ3 689 - 1).toNatClampNeg = W.length := cl_n (by rw [iw_sub, lt1, i3]; omega)
        have g53 : ∀ j, ms_E τ3 53 j = if j = W.length then w else ms_E τ 53 j := by
          intro j
          rw [h3, mE_sI, h2, mE_sE]
          by_cases ej : j = W.length
          · rw [if_pos ⟨rfl, ej⟩, if_pos ej]
          · rw [if_neg (fun z => ej z.2), if_neg ej, h1, mE_sE, if_neg (fun z => absurd z.1 (by decide)), hυ, mE_sE, if_neg (fun z => absurd z.1 (by decide))]
        have hw2 : w = fwd (ms_E σ 40 1) (ms_E σ 44) (q :: W).reverse 0 mark := by
          rw [hw, g40, hL, hRr, List.reverse_cons, fwd_app, List.length_reverse, ← hv, fwd, fwd, Nat.zero_add]
          cases q.2.2 <;> rfl
        refine ⟨?_, by rw [i3, List.length_cons]; omega, fun j hj => ?_, ?_⟩
        · rw [hc3, g53, if_pos rfl]; exact hw2
        · rw [List.length_cons] at hj
          rw [g53]
          unfold stL
          by_cases ej : j = W.length
          · rw [if_pos ej, List.take_of_length_le (by rw [List.length_reverse, List.length_cons]; omega)]
            exact hw2
          · rw [if_neg ej, List.reverse_cons, List.take_append_of_le_length (by rw [List.length_reverse]; omega)]
            exact h53 j (by omega)
        · rw [h3]
          refine fr_tr ?_ (fr_sI (by decide))
          rw [h2]
          refine fr_tr ?_ (fr_sE (by decide))
          rw [h1]
          refine fr_tr ?_ (fr_sE (by decide))
          rw [hυ]
          exact fr_tr hf (fr_sE (by decide))
      refine pr_b (v_part0 n mI (by omega)) (fun r hr => ?_)
      rw [hm, Int.toNat_natCast] at hr
      unfold f_X12_stepsIn_J43 f_X12_stepsIn_J73
      refine pr_le (fun h2 => ?_) (fun h2 => ?_)
      · rw [if_neg (show ¬ i < p0 m by omega)]
        refine pr_c (ih e σ (f + p0 m) (i - p0 m) (m - p0 m) _ _ h0 (by omega) (by rw [ii_sub (by omega) (by omega)]; omega) (by rw [ii_sub (by omega) (by omega)]; omega) (by omega) (by omega)) (fun v τ hτ => ?_)
        obtain ⟨t1, t2, t3, t4⟩ := hτ
        replace t1 : v = _ := t1
        have hwl := wyT_len e (i - p0 m) (f + p0 m) (m - p0 m)
        have e44 : ms_E τ 44 = ms_E σ 44 := funext (t4.2 44 (by decide))
        have hc : (ms_I τ 689).toNatClampNeg = (wyT e (i - p0 m) (f + p0 m) (m - p0 m)).length := cl_n t2
        refine pr_le (fun _ => pr_g (fun _ _ => pr_g (fun _ _ => pr_ln (fun υ hυ => pr_le (fun _ => ?_) (fun q => by omega))))) (fun q => by omega)
        rw [hc, e44] at hυ
        exact fin _ (f, p0 m, true) v _ v τ υ (by omega) t1 t2 t3 t4 rfl rfl hυ
      · rw [if_pos (show i < p0 m by omega)]
        refine pr_c (ih e σ f i (p0 m) _ _ h0 (by omega) hi hr (by omega) hp4) (fun v τ hτ => ?_)
        obtain ⟨t1, t2, t3, t4⟩ := hτ
        replace t1 : v = _ := t1
        have hwl := wyT_len e i f (p0 m)
        have e44 : ms_E τ 44 = ms_E σ 44 := funext (t4.2 44 (by decide))
        have hc : (ms_I τ 689).toNatClampNeg = (wyT e i f (p0 m)).length := cl_n t2
        refine pr_le (fun q => by omega) (fun _ => pr_g (fun _ _ => pr_ln (fun υ hυ => pr_le (fun q => by omega) (fun _ => pr_g (fun _ _ => ?_)))))
        rw [hc] at hυ
        have u1 : ms_I υ 689 = ms_I τ 689 := by rw [hυ]; rfl
        have u2 : ms_E υ 44 (ms_I υ 689).toNatClampNeg = ms_E σ 44 (wyT e i f (p0 m)).length := by rw [u1, hc, hυ, mE_sE, if_neg (fun z => absurd z.1 (by decide)), e44]
        rw [u2]
        exact fin _ (f + p0 m, m - p0 m, false) v v _ τ υ (by omega) t1 t2 t3 t4 rfl rfl hυ
abbrev tcOK (f : Nat → Int32) (mark i m k : Int32) : Prop := ((0 ≤ i.toInt ∧ i.toInt < m.toInt) ∧ 0 ≤ k.toInt ∧ mkP f mark) ∧ k.toInt ≤ ((wyT 31 i.toInt.toNat 0 m.toInt.toNat).length : Int) ∧ k.toInt ≤ (f 2).toInt
def tcA (f : Nat → Int32) (mark i m k : Int32) : Int32 := if tcOK f mark i m k then fwd (f 1) (fun j => f (8 + j)) ((wyT 31 i.toInt.toNat 0 m.toInt.toNat).reverse.take k.toInt.toNat) 0 mark else -1
theorem v_trace_L (n : Nat) (f : Nat → Int32) (mark : Int32) (i m k : Nat) (iI mI kI : Int32) (hi : iI.toInt = (i : Int)) (hm : mI.toInt = (m : Int)) (hk : kI.toInt = (k : Int)) (him : i < m) (hkw : k ≤ (wyT 31 i 0 m).length) (c : Nat) (hkc : k ≤ c) : ∀ (d v : Nat) (σ : ms_T) (vI : Int32), ms_E σ 40 = f → (ms_I σ 657).toInt = ((wyT 31 i 0 m).length : Int) → (∀ j, j < c → ms_E σ 44 j = f (8 + j)) → vI.toInt = (v : Int) → c ≤ v → pr (f_X12_trace_L72 n d σ mark iI mI kI vI) (fun res => res.1 = fwd (f 1) (fun j => f (8 + j)) ((wyT 31 i 0 m).reverse.take k) 0 mark) := by
  intro d
  induction d with
  | zero => intro v σ vI _ _ _ _ _; rw [f_X12_trace_L72.eq_1]; exact pr_0
  | succ d ih =>
    intro v σ vI hσ h7 h44 hv hcv
    have hmb := ib_hi mI
    have h31 : (2 : Nat) ^ 31 = 2147483648 := by decide
    have hwl := wyT_len 31 i 0 m
    rw [f_X12_trace_L72.eq_2]
    refine pr_le (fun e => pr_ln (fun τ hτ => ?_)) (fun e => pr_g (fun _ _ => pr_l (pr_l ?_)))
    · have t0 : ms_I τ 689 = 0 := by rw [hτ, mI_sI, if_pos rfl]
      have tE : ms_E τ = ms_E σ := by rw [hτ]; rfl
      refine pr_c (v_stepsIn n mark 40 31 τ 0 i m iI mI t0 (by decide) hi hm him (by omega)) (fun r υ hr => ?_)
      obtain ⟨-, -, h3, -⟩ := hr
      rw [tE, hσ] at h3
      refine pr_i (fun z => pr_s ?_) (fun z => pr_g (fun _ _ => pr_s ?_))
      · have k0 : k = 0 := by rw [z, lt0] at hk; omega
        rw [k0]; rfl
      · have kp : 1 ≤ k := by
          rcases Nat.eq_zero_or_pos k with q | q
          · exact absurd (Int32.toInt_inj.mp (by rw [hk, q]; rfl)) z
          · exact q
        have hc : (kI - 1).toNatClampNeg = k - 1 := cl_n (by rw [iw_sub, lt1, hk]; omega)
        rw [hc]
        show ms_E υ 53 (k - 1) = _
        rw [h3 (k - 1) (by omega)]
        unfold stL
        rw [show k - 1 + 1 = k by omega]
        exact fwd_c _ _ _ _ (fun j _ hj => h44 j (by rw [List.length_take] at hj; omega))
    · have e1 : (vI + 1).toInt = ((v + 1 : Nat) : Int) := by rw [iw_add, lt1]; omega
      refine ih (v + 1) _ _ ?_ h7 (fun j hj => ?_) e1 (by omega)
      · funext j
        rw [mE_sE, if_neg (fun q => absurd q.1 (by decide)), hσ]
      · rw [mE_sE, cl_n hv, if_neg (fun q => by have := q.2; omega)]
        exact h44 j hj
theorem v_trace (n : Nat) (σ : ms_T) (hC : rC (ms_E σ 40)) (mark i m k : Int32) : pr (f_X12_trace n σ mark i m k) (fun res => res.1 = tcA (ms_E σ 40) mark i m k) := by
  have h64 := hC.2.2.1
  have bad : ¬ tcOK (ms_E σ 40) mark i m k → pr (f_X12_trace_J28 n σ mark i m k 1) (fun res => res.1 = tcA (ms_E σ 40) mark i m k) := fun hno => by
    unfold f_X12_trace_J28 tcA
    rw [if_neg hno]
    exact v_is1 n σ 1 (by decide) (pr_s rfl)
  unfold f_X12_trace f_X12_trace_J27
  refine pr_bo (v_isThing n σ i m) (fun z => bad (fun q => z q.1.1)) (fun z1 => pr_lt (fun e => bad (fun q => by rw [lt0] at e; have := q.1.2.1; omega)) (fun e => pr_bo (pr_w (s_isMark hC mark)) (fun z => bad (fun q => z q.1.2.2)) (fun z2 => ?_)))
  rw [lt0] at e
  unfold f_X12_trace_J28 f_X12_trace_J60
  refine v_is0 n σ ?_
  obtain ⟨τ0, hτ0⟩ : ∃ τ, τ = ms_sI (ms_sI σ 653 0) 652 0 := ⟨_, rfl⟩
  have e0 : ms_E τ0 40 = ms_E σ 40 := by rw [hτ0]; rfl
  rw [← hτ0]
  refine pr_b (fun τ hτ => (⟨v_inclusion n τ0 i m z1.1 z1.2 τ hτ, v_incl_fr n τ0 i m τ hτ⟩ : WS τ _ ∧ fr [657] [42, 43] τ0 τ)) (fun τ hτ => ?_)
  obtain ⟨hW, hf⟩ := hτ
  have hW1 := hW.1
  rw [List.length_reverse] at hW1
  have e1 : ms_E τ 40 = ms_E σ 40 := by rw [show ms_E τ 40 = ms_E τ0 40 from funext (fun j => hf.2 40 (by decide) j), e0]
  have no5 : ∀ (υ : ms_T), ¬ tcOK (ms_E σ 40) mark i m k → pr (ms_c (f_X12_refuse n υ (5 : Int32)) fun r ξ => some (r, ξ)) (fun res => res.1 = tcA (ms_E σ 40) mark i m k) := fun υ hno => by
    unfold tcA
    rw [if_neg hno]
    exact pr_c (v_refuse n υ 5) (fun r ξ hr => pr_s hr)
  refine pr_lt (fun c1 => no5 τ (fun q => by have := q.2.1; omega)) (fun c1 => ?_)
  refine pr_c (v_fromPad n τ (by rw [e1]; exact hC)) (fun c υ hυ => ?_)
  obtain ⟨p1, p2, p3⟩ := hυ
  replace p1 : c = ms_E τ 40 2 := p1
  rw [e1] at p1 p2
  refine pr_le (fun c2 => ?_) (fun c2 => no5 υ (fun q => by rw [p1] at c2; have := q.2.2; omega))
  have e2 : ms_E υ 40 = ms_E σ 40 := by rw [show ms_E υ 40 = ms_E τ 40 from funext (fun j => p3.2 40 (by decide) j), e1]
  refine pr_c (v_fromPad n υ (by rw [e2]; exact hC)) (fun c' ξ hξ => ?_)
  obtain ⟨q1, q2, q3⟩ := hξ
  replace q1 : c' = ms_E υ 40 2 := q1
  rw [e2] at q1 q2
  have e3 : ms_E ξ 40 = ms_E σ 40 := by rw [show ms_E ξ 40 = ms_E υ 40 from funext (fun j => q3.2 40 (by decide) j), e2]
  have i7 : ms_I ξ 657 = ms_I τ 657 := (q3.1 657 (by decide)).trans (p3.1 657 (by decide))
  rw [p1] at c2
  have ok : tcOK (ms_E σ 40) mark i m k := ⟨⟨z1, e, z2⟩, by omega, c2⟩
  unfold tcA
  rw [if_pos ok]
  exact v_trace_L n (ms_E σ 40) mark i.toInt.toNat m.toInt.toNat k.toInt.toNat i m k (by omega) (by omega) (by omega) (by omega) (by omega) (ms_E σ 40 2).toInt.toNat (by omega) n (ms_E σ 40 2).toInt.toNat ξ c' e3 (by rw [i7]; exact hW1) q2 (by rw [q1]; omega) (Nat.le_refl _)
theorem k_trace (n : Nat) (hn : 70000 ≤ n) (α : hp_T) (x : Nat) (f : Nat → Int32) (hC : rC f) (h : RWX α x f) (h6 : hp_R α 603 x = x + 919) (hP : RWL α (x + 919) (pdl f)) (mark i m k : Int32) : ws (f_X11_trace n α x mark i m k) (fun res => res.1 = tcA f mark i m k) := by
  obtain ⟨w, u, h1, h2, -, h4, -⟩ := h
  have hm0 := hC.2.1
  have h64 := hC.2.2.1
  have bad : ∀ (β : hp_T) (v : Int32), ¬ tcOK f mark i m k → ws (hq_c (f_X11_refuse n β x v) fun r γ => some (r, γ)) (fun res => res.1 = tcA f mark i m k) := fun β v hno => by
    unfold tcA
    rw [if_neg hno]
    exact ws_hc (k_refuse n β x v) (fun z γ hz => ws_s hz.1)
  unfold f_X11_trace f_X11_trace_J21 f_X11_trace_J60
  refine ws_bo (k_isThing n i m) (fun z => bad α 1 (fun q => z q.1.1)) (fun z1 => ws_lt (fun e => bad α 1 (fun q => by rw [lt0] at e; have := q.1.2.1; omega)) (fun e => ws_bo (k_isMark n h1 h4.2.1.1 mark) (fun z => bad α 1 (fun q => z q.1.2.2)) (fun z2 => ws_l ?_)))
  rw [lt0] at e
  refine ws_b (k_toThing n hn α _ i m z1.1 z1.2) (fun β hβ => ws_l (ws_l ?_))
  obtain ⟨hWC, hwf⟩ := hβ
  have hWβ := WR_wf h4 hC hwf
  have hP2 := RWL_wf hP hwf
  have hl2 := hP2.2.1
  rw [pdl_len] at hl2
  have hW1 := hWC.1
  rw [List.length_reverse] at hW1
  have hwl := wyT_len 31 i.toInt.toNat 0 m.toInt.toNat
  rw [hwf.1]
  refine ws_lt (fun c1 => bad β 5 (fun q => by have := q.2.1; omega)) (fun c1 => ws_l (ws_l ?_))
  rw [h6]
  refine ws_le (fun c2 => ws_l (ws_l (ws_l (ws_l ?_)))) (fun c2 => bad β 5 (fun q => by have := q.2.2; omega))
  rw [h1, hWβ.2.1.1]
  have ok : tcOK f mark i m k := ⟨⟨z1, e, z2⟩, by omega, by omega⟩
  refine ws_b (k_folded n hn β _ (x + 919) _ hWC (by rw [List.length_reverse]; omega) (pdl f) hP2 (f 1) (by omega) k.toInt.toNat k (by omega) (by rw [List.length_reverse]; omega) (by rw [pdl_len]; omega) mark) (fun r hr => ws_hc (k_answer n β x r) (fun z γ hz => ws_s ?_))
  unfold tcA
  rw [if_pos ok, show z = r from hz.1, hr]
  exact fwd_c _ _ _ _ (fun j _ hj => pdl_gD f (by rw [List.length_take] at hj; omega))
end JN9_36
section JN9_37
set_option maxRecDepth 100000
theorem v_stepsIn3 (n : Nat) (mark : Int32) : ∀ (d e : Nat) (σ : ms_T) (f i m : Nat) (iI mI : Int32), ms_I σ 689 = 0 → e ≤ 50 → iI.toInt = (i : Int) → mI.toInt = (m : Int) → i < m → m ≤ 2 ^ e → pr (f_X12_stepsIn n d σ mark iI mI) (fun res => res.1 = fwd (ms_E σ 40 1) (ms_E σ 44) (wyT e i f m).reverse 0 mark ∧ (ms_I res.2 689).toInt = ((wyT e i f m).length : Int) ∧ (∀ j, j < (wyT e i f m).length → ms_E res.2 53 j = stL (ms_E σ 40 1) (ms_E σ 44) (wyT e i f m).reverse mark (j + 1)) ∧ (∀ j, j < (wyT e i f m).length → ms_E res.2 51 j = cLL (ms_E σ 40 1) (ms_E σ 44) (wyT e i f m).reverse mark j ∧ ms_E res.2 52 j = cRR (ms_E σ 40 1) (ms_E σ 44) (wyT e i f m).reverse mark j) ∧ fr [689] [51, 52, 53] σ res.2) := by
  intro d
  induction d with
  | zero => intro e σ f i m iI mI _ _ _ _ _ _; rw [f_X12_stepsIn.eq_1]; exact pr_0
  | succ d ih =>
    intro e σ f i m iI mI h0 he hi hm him hme
    rw [f_X12_stepsIn.eq_2]
    refine pr_e (fun h1 => ?_) (fun h1 => ?_)
    · have : m = 1 := by rw [h1, lt1] at hm; omega
      subst this
      have e1 : wyT e i f 1 = [] := by cases e <;> simp [wyT]
      rw [e1]
      exact pr_s ⟨rfl, by rw [h0]; rfl, fun j hj => absurd hj (Nat.not_lt_zero _), fun j hj => absurd hj (Nat.not_lt_zero _), fr_rf⟩
    · rw [lt1, hm] at h1
      have hm2 : 2 ≤ m := by omega
      have hmb := ib_hi mI
      cases e with
      | zero => simp at hme; omega
      | succ e =>
      have hp1 := p0_lt hm2
      have hp2 := p0_le (m := m)
      have hp3 := p0_pos m
      have hp4 := p0_dn hm2 hme
      have e1 : wyT (e + 1) i f m = if i < p0 m then (f + p0 m, m - p0 m, false) :: wyT e i f (p0 m) else (f, p0 m, true) :: wyT e (i - p0 m) (f + p0 m) (m - p0 m) := by rw [wyT, if_neg (by omega)]
      rw [e1]
      -- what is done behind the inner one
      have fin : ∀ (W : List (Nat × Nat × Bool)) (q : Nat × Nat × Bool) (v L Rr : Int32) (τ υ : ms_T), W.length ≤ 49 → v = fwd (ms_E σ 40 1) (ms_E σ 44) W.reverse 0 mark → (ms_I τ 689).toInt = (W.length : Int) → (∀ j, j < W.length → ms_E τ 53 j = stL (ms_E σ 40 1) (ms_E σ 44) W.reverse mark (j + 1)) → (∀ j, j < W.length → ms_E τ 51 j = cLL (ms_E σ 40 1) (ms_E σ 44) W.reverse mark j ∧ ms_E τ 52 j = cRR (ms_E σ 40 1) (ms_E σ 44) W.reverse mark j) → fr [689] [51, 52, 53] σ τ → L = (if q.2.2 then ms_E σ 44 W.length else v) → Rr = (if q.2.2 then v else ms_E σ 44 W.length) → υ = ms_sE τ 51 W.length L → pr (f_X12_stepsIn_J102 n (f_X12_stepsIn n d) υ Rr (ms_I υ 689)) (fun res => res.1 = fwd (ms_E σ 40 1) (ms_E σ 44) (q :: W).reverse 0 mark ∧ (ms_I res.2 689).toInt = ((q :: W).length : Int) ∧ (∀ j, j < (q :: W).length → ms_E res.2 53 j = stL (ms_E σ 40 1) (ms_E σ 44) (q :: W).reverse mark (j + 1)) ∧ (∀ j, j < (q :: W).length → ms_E res.2 51 j = cLL (ms_E σ 40 1) (ms_E σ 44) (q :: W).reverse mark j ∧ ms_E res.2 52 j = cRR (ms_E σ 40 1) (ms_E σ 44) (q :: W).reverse mark j) ∧ fr [689] [51, 52, 53] σ res.2) := by
        intro W q v L Rr τ υ hW49 hv h689 h53 h512 hf hL hRr hυ
        have u689 : ms_I υ 689 = ms_I τ 689 := by rw [hυ]; rfl
        have hc : (ms_I υ 689).toNatClampNeg = W.length := cl_n (by rw [u689]; exact h689)
        unfold f_X12_stepsIn_J102
        refine pr_g (fun _ _ => pr_ln (fun τ1 h1 => pr_g (fun _ _ => pr_g (fun _ _ => ?_))))
        have t689 : ms_I τ1 689 = ms_I τ 689 := by rw [h1]; exact u689
        have hc1 : (ms_I τ1 689).toNatClampNeg = W.length := cl_n (by rw [t689]; exact h689)
        rw [hc] at h1
        rw [hc1]
        have g51 : ms_E τ1 51 W.length = L := by rw [h1, mE_sE, if_neg (fun z => absurd z.1 (by decide)), hυ, mE_sE, if_pos ⟨rfl, rfl⟩]
        have g52 : ms_E τ1 52 W.length = Rr := by rw [h1, mE_sE, if_pos ⟨rfl, rfl⟩]
        have g40 : ms_E τ1 40 1 = ms_E σ 40 1 := by rw [h1, mE_sE, if_neg (fun z => absurd z.1 (by decide)), hυ, mE_sE, if_neg (fun z => absurd z.1 (by decide))]; exact hf.2 40 (by decide) 1
        rw [g51, g52]
        refine pr_b (v_both n τ1 _ _) (fun w hw => pr_g (fun _ _ => pr_ln (fun τ2 h2 => pr_ln (fun τ3 h3 => pr_g (fun _ _ => pr_s ?_)))))
        have t2 : ms_I τ2 689 = ms_I τ 689 := by rw [h2]; exact t689
        have i3 : (ms_I τ3 689).toInt = (W.length : Int) + 1 := by rw [h3, mI_sI, if_pos rfl, iw_add, lt1, t2]; omega
        have hc3 : (ms_I τ3 689 - 1).toNatClampNeg = W.length := cl_n (by rw [iw_sub, lt1, i3]; omega)
        have g53 : ∀ j, ms_E τ3 53 j = if j = W.length then w else ms_E τ 53 j := by
          intro j
          rw [h3, mE_sI, h2, mE_sE]
          by_cases ej : j = W.length
          · rw [if_pos ⟨rfl, ej⟩, if_pos ej]
          · rw [if_neg (fun z => ej z.2), if_neg ej, h1, mE_sE, if_neg (fun z => absurd z.1 (by decide)), hυ, mE_sE, if_neg (fun z => absurd z.1 (by decide))]
        have g51a : ∀ j, ms_E τ3 51 j = if j = W.length then L else ms_E τ 51 j := by
          intro j
          rw [h3, mE_sI, h2, mE_sE, if_neg (fun z => absurd z.1 (by decide)), h1, mE_sE, if_neg (fun z => absurd z.1 (by decide)), hυ, mE_sE]
          by_cases ej : j = W.length
          · rw [if_pos ⟨rfl, ej⟩, if_pos ej]
          · rw [if_neg (fun z => ej z.2), if_neg ej]
        have g52a : ∀ j, ms_E τ3 52 j = if j = W.length then Rr else ms_E τ 52 j := by
          intro j
          rw [h3, mE_sI, h2, mE_sE, if_neg (fun z => absurd z.1 (by decide)), h1, mE_sE]
          by_cases ej : j = W.length
          · rw [if_pos ⟨rfl, ej⟩, if_pos ej]
          · rw [if_neg (fun z => ej z.2), if_neg ej, hυ, mE_sE, if_neg (fun z => absurd z.1 (by decide))]
        have hw2 : w = fwd (ms_E σ 40 1) (ms_E σ 44) (q :: W).reverse 0 mark := by
          rw [hw, g40, hL, hRr, List.reverse_cons, fwd_app, List.length_reverse, ← hv, fwd, fwd, Nat.zero_add]
          cases q.2.2 <;> rfl
        refine ⟨?_, by rw [i3, List.length_cons]; omega, fun j hj => ?_, fun j hj => ?_, ?_⟩
        · rw [hc3, g53, if_pos rfl]; exact hw2
        · rw [List.length_cons] at hj
          rw [g53]
          unfold stL
          by_cases ej : j = W.length
          · rw [if_pos ej, List.take_of_length_le (by rw [List.length_reverse, List.length_cons]; omega)]
            exact hw2
          · rw [if_neg ej, List.reverse_cons, List.take_append_of_le_length (by rw [List.length_reverse]; omega)]
            exact h53 j (by omega)
        · rw [List.length_cons] at hj
          rw [g51a, g52a]
          unfold cLL cRR
          by_cases ej : j = W.length
          · rw [if_pos ej, if_pos ej, ej, hL, hRr, List.reverse_cons]
            have ew : wfl (W.reverse ++ [q]) W.length = q.2.2 := by
              have := wfl_r W.reverse q
              rw [List.length_reverse] at this
              exact this
            have et : (W.reverse ++ [q]).take W.length = W.reverse := by
              rw [List.take_append_of_le_length (by rw [List.length_reverse]; omega), List.take_of_length_le (by rw [List.length_reverse]; omega)]
            rw [ew, et, ← hv]
            exact ⟨rfl, rfl⟩
          · rw [if_neg ej, if_neg ej, List.reverse_cons, wfl_l _ _ (by rw [List.length_reverse]; omega), List.take_append_of_le_length (by rw [List.length_reverse]; omega)]
            exact h512 j (by omega)
        · rw [h3]
          refine fr_tr ?_ (fr_sI (by decide))
          rw [h2]
          refine fr_tr ?_ (fr_sE (by decide))
          rw [h1]
          refine fr_tr ?_ (fr_sE (by decide))
          rw [hυ]
          exact fr_tr hf (fr_sE (by decide))
      refine pr_b (v_part0 n mI (by omega)) (fun r hr => ?_)
      rw [hm, Int.toNat_natCast] at hr
      unfold f_X12_stepsIn_J43 f_X12_stepsIn_J73
      refine pr_le (fun h2 => ?_) (fun h2 => ?_)
      · rw [if_neg (show ¬ i < p0 m by omega)]
        refine pr_c (ih e σ (f + p0 m) (i - p0 m) (m - p0 m) _ _ h0 (by omega) (by rw [ii_sub (by omega) (by omega)]; omega) (by rw [ii_sub (by omega) (by omega)]; omega) (by omega) (by omega)) (fun v τ hτ => ?_)
        obtain ⟨t1, t2, t3, t5, t4⟩ := hτ
        replace t1 : v = _ := t1
        have hwl := wyT_len e (i - p0 m) (f + p0 m) (m - p0 m)
        have e44 : ms_E τ 44 = ms_E σ 44 := funext (t4.2 44 (by decide))
        have hc : (ms_I τ 689).toNatClampNeg = (wyT e (i - p0 m) (f + p0 m) (m - p0 m)).length := cl_n t2
        refine pr_le (fun _ => pr_g (fun _ _ => pr_g (fun _ _ => pr_ln (fun υ hυ => pr_le (fun _ => ?_) (fun q => by omega))))) (fun q => by omega)
        rw [hc, e44] at hυ
        exact fin _ (f, p0 m, true) v _ v τ υ (by omega) t1 t2 t3 t5 t4 rfl rfl hυ
      · rw [if_pos (show i < p0 m by omega)]
        refine pr_c (ih e σ f i (p0 m) _ _ h0 (by omega) hi hr (by omega) hp4) (fun v τ hτ => ?_)
        obtain ⟨t1, t2, t3, t5, t4⟩ := hτ
        replace t1 : v = _ := t1
        have hwl := wyT_len e i f (p0 m)
        have e44 : ms_E τ 44 = ms_E σ 44 := funext (t4.2 44 (by decide))
        have hc : (ms_I τ 689).toNatClampNeg = (wyT e i f (p0 m)).length := cl_n t2
        refine pr_le (fun q => by omega) (fun _ => pr_g (fun _ _ => pr_ln (fun υ hυ => pr_le (fun q => by omega) (fun _ => pr_g (fun _ _ => ?_)))))
        rw [hc] at hυ
        have u1 : ms_I υ 689 = ms_I τ 689 := by rw [hυ]; rfl
        have u2 : ms_E υ 44 (ms_I υ 689).toNatClampNeg = ms_E σ 44 (wyT e i f (p0 m)).length := by rw [u1, hc, hυ, mE_sE, if_neg (fun z => absurd z.1 (by decide)), e44]
        rw [u2]
        exact fin _ (f + p0 m, m - p0 m, false) v v _ τ υ (by omega) t1 t2 t3 t5 t4 rfl rfl hυ
end JN9_37
section JN9_38
set_option maxRecDepth 100000
theorem and4 (x0 x1 x2 x3 m : Nat) (h0 : x0 < 256) (h1 : x1 < 256) (h2 : x2 < 256) (hm : m < 256) : (x0 + 256 * (x1 + 256 * (x2 + 256 * x3))) &&& (m + 256 * (m + 256 * (m + 256 * m))) = (x0 &&& m) + 256 * ((x1 &&& m) + 256 * ((x2 &&& m) + 256 * (x3 &&& m))) := by
  rw [and_split _ _ _ _ h0 hm, and_split _ _ _ _ h1 hm, and_split _ _ _ _ h2 hm]
theorem bc_eq4 (b0 b1 b2 b3 : Nat) (h0 : b0 < 256) (h1 : b1 < 256) (h2 : b2 < 256) (h3 : b3 < 256) : bc (b0 + 256 * (b1 + 256 * (b2 + 256 * b3))) = bgg b0 + bgg b1 + bgg b2 + bgg b3 := by
  have e85 : 1431655765 = 85 + 256 * (85 + 256 * (85 + 256 * 85)) := by decide
  have e51 : 858993459 = 51 + 256 * (51 + 256 * (51 + 256 * 51)) := by decide
  have e15 : 252645135 = 15 + 256 * (15 + 256 * (15 + 256 * 15)) := by decide
  unfold bc
  simp only
  have s1 : (b0 + 256 * (b1 + 256 * (b2 + 256 * b3))) - (((b0 + 256 * (b1 + 256 * (b2 + 256 * b3))) / 2) &&& 1431655765) = bg1 b0 + 256 * (bg1 b1 + 256 * (bg1 b2 + 256 * bg1 b3)) := by
    have d : (b0 + 256 * (b1 + 256 * (b2 + 256 * b3))) / 2 = (b0 / 2 + 128 * (b1 % 2)) + 256 * ((b1 / 2 + 128 * (b2 % 2)) + 256 * ((b2 / 2 + 128 * (b3 % 2)) + 256 * (b3 / 2 + 128 * 0))) := by omega
    rw [d, e85, and4 _ _ _ _ _ (by omega) (by omega) (by omega) (by omega), bk1 b0 h0 _ (by omega), bk1 b1 h1 _ (by omega), bk1 b2 h2 _ (by omega), bk1 b3 h3 0 (by omega)]
    have a0 := (bk1' b0 h0).1
    have a1 := (bk1' b1 h1).1
    have a2 := (bk1' b2 h2).1
    have a3 := (bk1' b3 h3).1
    unfold bg1
    omega
  rw [s1]
  have y0 := (bk1' b0 h0).2
  have y1 := (bk1' b1 h1).2
  have y2 := (bk1' b2 h2).2
  have y3 := (bk1' b3 h3).2
  have s2 : ((bg1 b0 + 256 * (bg1 b1 + 256 * (bg1 b2 + 256 * bg1 b3))) &&& 858993459) + (((bg1 b0 + 256 * (bg1 b1 + 256 * (bg1 b2 + 256 * bg1 b3))) / 4) &&& 858993459) = bg2 (bg1 b0) + 256 * (bg2 (bg1 b1) + 256 * (bg2 (bg1 b2) + 256 * bg2 (bg1 b3))) := by
    have d : (bg1 b0 + 256 * (bg1 b1 + 256 * (bg1 b2 + 256 * bg1 b3))) / 4 = (bg1 b0 / 4 + 64 * (bg1 b1 % 4)) + 256 * ((bg1 b1 / 4 + 64 * (bg1 b2 % 4)) + 256 * ((bg1 b2 / 4 + 64 * (bg1 b3 % 4)) + 256 * (bg1 b3 / 4 + 64 * 0))) := by omega
    rw [d, e51, and4 _ _ _ _ _ y0 y1 y2 (by omega), and4 _ _ _ _ _ (by omega) (by omega) (by omega) (by omega), bk2 _ y0 _ (by omega), bk2 _ y1 _ (by omega), bk2 _ y2 _ (by omega), bk2 _ y3 0 (by omega)]
    unfold bg2
    omega
  rw [s2]
  have z0 := bk2' b0 h0
  have z1 := bk2' b1 h1
  have z2 := bk2' b2 h2
  have z3 := bk2' b3 h3
  have s3 : ((bg2 (bg1 b0) + 256 * (bg2 (bg1 b1) + 256 * (bg2 (bg1 b2) + 256 * bg2 (bg1 b3)))) + (bg2 (bg1 b0) + 256 * (bg2 (bg1 b1) + 256 * (bg2 (bg1 b2) + 256 * bg2 (bg1 b3)))) / 16) &&& 252645135 = bgg b0 + 256 * (bgg b1 + 256 * (bgg b2 + 256 * bgg b3)) := by
    have n1 := bk2n b1 h1
    have n2 := bk2n b2 h2
    have n3 := bk2n b3 h3
    have d : (bg2 (bg1 b0) + 256 * (bg2 (bg1 b1) + 256 * (bg2 (bg1 b2) + 256 * bg2 (bg1 b3)))) + (bg2 (bg1 b0) + 256 * (bg2 (bg1 b1) + 256 * (bg2 (bg1 b2) + 256 * bg2 (bg1 b3)))) / 16 = (bg2 (bg1 b0) + bg2 (bg1 b0) / 16 + 16 * (bg2 (bg1 b1) % 16)) + 256 * ((bg2 (bg1 b1) + bg2 (bg1 b1) / 16 + 16 * (bg2 (bg1 b2) % 16)) + 256 * ((bg2 (bg1 b2) + bg2 (bg1 b2) / 16 + 16 * (bg2 (bg1 b3) % 16)) + 256 * (bg2 (bg1 b3) + bg2 (bg1 b3) / 16 + 16 * 0))) := by omega
    rw [d, e15, and4 _ _ _ _ _ (by omega) (by omega) (by omega) (by omega), bk3 _ (by omega) _ (by omega), bk3 _ (by omega) _ (by omega), bk3 _ (by omega) _ (by omega), bk3 _ (by omega) 0 (by omega)]
    rfl
  rw [s3]
  have p0 := bk3' b0 h0
  have p1 := bk3' b1 h1
  have p2 := bk3' b2 h2
  have p3 := bk3' b3 h3
  have s4 : (bgg b0 + 256 * (bgg b1 + 256 * (bgg b2 + 256 * bgg b3))) + (bgg b0 + 256 * (bgg b1 + 256 * (bgg b2 + 256 * bgg b3))) / 256 = (bgg b0 + bgg b1) + 256 * ((bgg b1 + bgg b2) + 256 * ((bgg b2 + bgg b3) + 256 * bgg b3)) := by omega
  rw [s4]
  have s5 : ((bgg b0 + bgg b1) + 256 * ((bgg b1 + bgg b2) + 256 * ((bgg b2 + bgg b3) + 256 * bgg b3))) + ((bgg b0 + bgg b1) + 256 * ((bgg b1 + bgg b2) + 256 * ((bgg b2 + bgg b3) + 256 * bgg b3))) / 65536 = (bgg b0 + bgg b1 + bgg b2 + bgg b3) + 256 * ((bgg b1 + bgg b2 + bgg b3) + 256 * ((bgg b2 + bgg b3) + 256 * bgg b3)) := by omega
  rw [s5]
  have h := and_split (bgg b0 + bgg b1 + bgg b2 + bgg b3) ((bgg b1 + bgg b2 + bgg b3) + 256 * ((bgg b2 + bgg b3) + 256 * bgg b3)) 63 0 (by omega) (by omega)
  rw [Nat.and_zero, Nat.mul_zero, Nat.add_zero, Nat.add_zero] at h
  rw [h]
  exact bk63 _ (by omega)
def pcr (S f : Nat) : Nat → Nat
  | 0 => 0
  | m + 1 => pcr S f m + (if S.testBit (f + m) = true then 1 else 0)
theorem pcr_add (S f p : Nat) : ∀ q, pcr S f (p + q) = pcr S f p + pcr S (f + p) q := by
  intro q
  induction q with
  | zero => rfl
  | succ q ih => rw [← Nat.add_assoc, pcr, pcr, ih, Nat.add_assoc f p q, Nat.add_assoc]
theorem pcr_z (S f : Nat) : ∀ m, (∀ j, f ≤ j → j < f + m → S.testBit j = false) → pcr S f m = 0 := by
  intro m
  induction m with
  | zero => intro _; rfl
  | succ m ih =>
    intro h
    rw [pcr, ih (fun j p q => h j p (by omega)), h (f + m) (by omega) (by omega)]
    rfl
theorem pcr_c {S T f g : Nat} : ∀ m, (∀ j, j < m → S.testBit (f + j) = T.testBit (g + j)) → pcr S f m = pcr T g m := by
  intro m
  induction m with
  | zero => intro _; rfl
  | succ m ih =>
    intro h
    rw [pcr, pcr, ih (fun j q => h j (by omega)), h m (by omega)]
theorem pcr_8 : ∀ b < 256, pcr b 0 8 = bgg b := by decide +kernel
theorem tb_lo (b w i : Nat) (hb : b < 256) (hi : i < 8) : (b + 256 * w).testBit i = b.testBit i := by
  rw [show b + 256 * w = 2 ^ 8 * w + b by omega, Nat.testBit_two_pow_mul_add _ (by omega), if_pos hi]
theorem tb_hi (b w i : Nat) (hb : b < 256) : (b + 256 * w).testBit (8 + i) = w.testBit i := by
  rw [show b + 256 * w = 2 ^ 8 * w + b by omega, Nat.testBit_two_pow_mul_add _ (by omega), if_neg (by omega), show 8 + i - 8 = i by omega]
theorem pcr_byte (b w k : Nat) (hb : b < 256) : pcr (b + 256 * w) 0 (8 + k) = bgg b + pcr w 0 k := by
  rw [pcr_add, ← pcr_8 b hb, pcr_c (S := b + 256 * w) (T := b) (f := 0) (g := 0) 8 (fun j hj => by rw [Nat.zero_add, tb_lo b w j hb hj]), pcr_c (S := b + 256 * w) (T := w) (f := 0 + 8) (g := 0) k (fun j _ => by rw [Nat.zero_add, Nat.zero_add, tb_hi b w j hb])]
theorem bc_pcr (A : Nat) (hA : A < 2 ^ 30) : bc A = pcr A 0 32 := by
  have p30 : (2 : Nat) ^ 30 = 1073741824 := by decide
  have e : A = A % 256 + 256 * (A / 256 % 256 + 256 * (A / 65536 % 256 + 256 * (A / 16777216))) := by omega
  rw [e, bc_eq4 _ _ _ _ (by omega) (by omega) (by omega) (by omega), show 32 = 8 + (8 + (8 + 8)) from rfl, pcr_byte _ _ _ (by omega), pcr_byte _ _ _ (by omega), pcr_byte _ _ _ (by omega), pcr_8 _ (by omega)]
  omega
theorem s_bitCount4 (n : Nat) (a : Int32) (h0 : 0 ≤ a.toInt) (h1 : a.toInt.toNat < 2 ^ 30) : ws (f_J6_bitCount_0f7a4 n a) (fun r => r.toInt = (bc a.toInt.toNat : Int)) := by
  obtain ⟨eA, -⟩ := bN a h0
  have eN : a.toInt.toNat = a.toBitVec.toNat := by omega
  rw [eN]
  have p30 : (2 : Nat) ^ 30 = 1073741824 := by decide
  have hA : a.toBitVec.toNat < 1073741824 := by omega
  unfold f_J6_bitCount_0f7a4
  refine ws_ln (fun x1 e1 => ws_ln (fun x2 e2 => ws_ln (fun x3 e3 => ws_ln (fun x4 e4 => ws_ln (fun x5 e5 => ws_s ?_)))))
  have m1 : (1431655765 : Int32).toBitVec.toNat = 1431655765 := by decide
  have m2 : (858993459 : Int32).toBitVec.toNat = 858993459 := by decide
  have m3 : (252645135 : Int32).toBitVec.toNat = 252645135 := by decide
  have m4 : (63 : Int32).toBitVec.toNat = 63 := by decide
  have l1 : a.toBitVec.toNat / 2 &&& 1431655765 ≤ a.toBitVec.toNat := Nat.le_trans Nat.and_le_left (Nat.div_le_self _ _)
  have q1 : x1.toBitVec.toNat = a.toBitVec.toNat - (a.toBitVec.toNat / 2 &&& 1431655765) := by
    have e : (((a).toUInt32 >>> (((1 : Int32)).toUInt32 &&& Int32.toUInt32 31)).toInt32 &&& (1431655765 : Int32)).toBitVec.toNat = a.toBitVec.toNat / 2 &&& 1431655765 := by rw [n_and, n_sh1, m1]
    rw [e1, n_sub _ _ (by rw [e]; exact l1), e]
  have b1 : x1.toBitVec.toNat < 1073741824 := by omega
  have q2 : x2.toBitVec.toNat = (x1.toBitVec.toNat &&& 858993459) + (x1.toBitVec.toNat / 4 &&& 858993459) ∧ x2.toBitVec.toNat ≤ 1717986918 := by
    have a1 : x1.toBitVec.toNat &&& 858993459 ≤ 858993459 := Nat.and_le_right
    have a2 : x1.toBitVec.toNat / 4 &&& 858993459 ≤ 858993459 := Nat.and_le_right
    rw [e2, n_add, n_and, n_and, n_sh2, m2, Nat.mod_eq_of_lt (by omega)]
    exact ⟨rfl, by omega⟩
  have q3 : x3.toBitVec.toNat = (x2.toBitVec.toNat + x2.toBitVec.toNat / 16 &&& 252645135) ∧ x3.toBitVec.toNat ≤ 252645135 := by
    have a1 : x2.toBitVec.toNat + x2.toBitVec.toNat / 16 &&& 252645135 ≤ 252645135 := Nat.and_le_right
    rw [e3, n_and, n_add, n_sh4, m3, Nat.mod_eq_of_lt (by omega)]
    exact ⟨rfl, by omega⟩
  have q4 : x4.toBitVec.toNat = x3.toBitVec.toNat + x3.toBitVec.toNat / 256 ∧ x4.toBitVec.toNat ≤ 260000000 := by
    rw [e4, n_add, n_sh8, Nat.mod_eq_of_lt (by omega)]
    exact ⟨rfl, by omega⟩
  have q5 : x5.toBitVec.toNat = x4.toBitVec.toNat + x4.toBitVec.toNat / 65536 := by
    rw [e5, n_add, n_sh16, Nat.mod_eq_of_lt (by omega)]
  rw [(bN _ (and63 x5).1).1, n_and, m4, q5, q4.1, q3.1, q2.1, q1]
  rfl
end JN9_38
section JN9_39
set_option maxRecDepth 100000
theorem hasB_F {S f m : Nat} (h : ¬ hasB S f m = true) : ∀ j, f ≤ j → j < f + m → S.testBit j = false := fun j p q => by
  cases hb : S.testBit j with
  | false => rfl
  | true => exact absurd ((hasB_iff S f m).mpr ⟨j, p, q, hb⟩) h
theorem buM_pcr (S : Nat) : ∀ (e f m : Nat), 1 ≤ m → m ≤ 2 ^ e → buM S e f m = pcr S f m := by
  intro e
  induction e with
  | zero =>
    intro f m h1 h2
    have : m = 1 := by simp at h2; omega
    subst this
    by_cases h : hasB S f 1 = true
    · rw [buM_1 h]
      obtain ⟨j, p, q, hb⟩ := (hasB_iff S f 1).mp h
      have : j = f + 0 := by omega
      rw [pcr, pcr, if_pos (by rw [← this]; exact hb)]
    · rw [buM_F h, pcr_z S f 1 (hasB_F h)]
  | succ e ih =>
    intro f m h1 h2
    by_cases h : hasB S f m = true
    · by_cases hm : m = 1
      · subst hm
        rw [buM_1 h]
        obtain ⟨j, p, q, hb⟩ := (hasB_iff S f 1).mp h
        have : j = f + 0 := by omega
        rw [pcr, pcr, if_pos (by rw [← this]; exact hb)]
      · have hp1 := p0_lt (m := m) (by omega)
        have hp2 := p0_le (m := m)
        have hp3 := p0_pos m
        have hp4 := p0_dn (m := m) (by omega) h2
        rw [buM, if_pos h, if_neg hm, ih f (p0 m) hp3 hp4, ih (f + p0 m) (m - p0 m) (by omega) (by omega), ← pcr_add, show p0 m + (m - p0 m) = m by omega]
    · rw [buM_F h, pcr_z S f m (hasB_F h)]
theorem tb_top {S k j : Nat} (h : S < 2 ^ k) (hj : k ≤ j) : S.testBit j = false := Nat.testBit_lt_two_pow (Nat.lt_of_lt_of_le h (Nat.pow_le_pow_right (by decide) hj))
theorem pcr_stop {S k a : Nat} (h : S < 2 ^ k) (ha : k ≤ a) : pcr S 0 a = pcr S 0 k := by
  obtain ⟨q, rfl⟩ : ∃ q, a = k + q := ⟨a - k, by omega⟩
  rw [pcr_add, pcr_z S (0 + k) q (fun j p _ => tb_top h (by omega)), Nat.add_zero]
def foB (m : Int32) (S : Nat) (xs : Nat → Int32) : Nat → Nat → Nat → Nat → Nat → Int32
  | 0, f, n, u, v => if hasB S f n = true then xs u else xs v
  | e + 1, f, n, u, v => if hasB S f n = true then (if n = 1 then xs u else bt m (foB m S xs e f (p0 n) u v) (foB m S xs e (f + p0 n) (n - p0 n) (u + buM S e f (p0 n)) (v + (buT S e f (p0 n)).length))) else xs v
theorem foB_F (m : Int32) {S : Nat} (xs : Nat → Int32) {f n : Nat} (h : ¬ hasB S f n = true) (e u v : Nat) : foB m S xs e f n u v = xs v := by
  cases e with
  | zero => rw [foB, if_neg h]
  | succ e => rw [foB, if_neg h]
theorem foB_1 (m : Int32) {S : Nat} (xs : Nat → Int32) {f : Nat} (h : hasB S f 1 = true) (e u v : Nat) : foB m S xs e f 1 u v = xs u := by
  cases e with
  | zero => rw [foB, if_pos h]
  | succ e => rw [foB, if_pos h, if_pos rfl]
theorem foB_c (m : Int32) (S : Nat) {xs ys : Nat → Int32} (c : Nat) (h : ∀ j, j < c → xs j = ys j) : ∀ (e f n u v : Nat), 1 ≤ n → n ≤ 2 ^ e → u + buM S e f n ≤ c → v + (buT S e f n).length ≤ c → foB m S xs e f n u v = foB m S ys e f n u v := by
  intro e
  induction e with
  | zero =>
    intro f n u v h1 h2 hu hv
    have : n = 1 := by simp at h2; omega
    subst this
    by_cases hb : hasB S f 1 = true
    · rw [buM_1 hb] at hu
      rw [foB_1 m xs hb, foB_1 m ys hb]
      exact h u (by omega)
    · rw [buT_F hb, List.length_singleton] at hv
      rw [foB_F m xs hb, foB_F m ys hb]
      exact h v (by omega)
  | succ e ih =>
    intro f n u v h1 h2 hu hv
    by_cases hb : hasB S f n = true
    · by_cases hn : n = 1
      · subst hn
        rw [buM_1 hb] at hu
        rw [foB_1 m xs hb, foB_1 m ys hb]
        exact h u (by omega)
      · have hp1 := p0_lt (m := n) (by omega)
        have hp2 := p0_le (m := n)
        have hp3 := p0_pos n
        have hp4 := p0_dn (m := n) (by omega) h2
        rw [buM, if_pos hb, if_neg hn] at hu
        rw [buT, if_pos hb, if_neg hn, List.length_append] at hv
        rw [foB, foB, if_pos hb, if_pos hb, if_neg hn, if_neg hn, ih f (p0 n) u v hp3 hp4 (by omega) (by omega), ih (f + p0 n) (n - p0 n) _ _ (by omega) (by omega) (by omega) (by omega)]
    · rw [buT_F hb, List.length_singleton] at hv
      rw [foB_F m xs hb, foB_F m ys hb]
      exact h v (by omega)
theorem v_foldsBundle (n : Nat) {s : Int32} (hs : 0 ≤ s.toInt) (hS : s.toInt.toNat < 2 ^ 30) : ∀ (d e : Nat) (σ : ms_T) (f m u v : Nat) (fI mI : Int32), (ms_I σ 661).toInt = (u : Int) → (ms_I σ 658).toInt = (v : Int) → fI.toInt = (f : Int) → mI.toInt = (m : Int) → 1 ≤ m → m ≤ 2 ^ e → f + m ≤ 2147483647 → u + buM s.toInt.toNat e f m ≤ 1000 → v + (buT s.toInt.toNat e f m).length ≤ 1000 → pr (f_X12_foldsBundle n d σ s fI mI) (fun res => res.1 = foB (ms_E σ 40 1) s.toInt.toNat (ms_E σ 44) e f m u v ∧ (ms_I res.2 661).toInt = ((u + buM s.toInt.toNat e f m : Nat) : Int) ∧ (ms_I res.2 658).toInt = ((v + (buT s.toInt.toNat e f m).length : Nat) : Int) ∧ fr [658, 661] [] σ res.2) := by
  intro d
  induction d with
  | zero => intro e σ f m u v fI mI _ _ _ _ _ _ _ _ _; rw [f_X12_foldsBundle.eq_1]; exact pr_0
  | succ d ih =>
    intro e σ f m u v fI mI h661 h658 hf hm hm1 hme hfm hu hv
    rw [f_X12_foldsBundle.eq_2]
    refine pr_b (v_hasAny n hs hS hf hm) (fun r hr => ?_)
    by_cases hb : hasB s.toInt.toNat f m = true
    · rw [if_pos hb] at hr
      subst hr
      refine pr_i (fun z => absurd z (by decide)) (fun _ => pr_e (fun c => ?_) (fun c => ?_))
      · have : m = 1 := by rw [c, lt1] at hm; omega
        subst this
        rw [buM_1 hb] at hu ⊢
        rw [buT_1 hb, List.length_nil]
        rw [foB_1 _ _ hb]
        refine pr_ln (fun τ hτ => pr_g (fun _ _ => pr_s ?_))
        have t1 : ms_I τ 661 = ms_I σ 661 + 1 := by rw [hτ, mI_sI, if_pos rfl]
        have hc : (ms_I τ 661 - 1).toNatClampNeg = u := cl_n (by rw [t1, iw_sub, iw_add, lt1]; omega)
        refine ⟨?_, ?_, ?_, by rw [hτ]; exact fr_sI (by decide)⟩
        · rw [hc, hτ]; rfl
        · rw [t1, iw_add, lt1]; omega
        · rw [hτ, mI_sI, if_neg (by decide)]; omega
      · rw [lt1, hm] at c
        have hm2 : 2 ≤ m := by omega
        cases e with
        | zero => simp at hme; omega
        | succ e =>
        have hp1 := p0_lt hm2
        have hp2 := p0_le (m := m)
        have hp3 := p0_pos m
        have hp4 := p0_dn hm2 hme
        rw [buM, if_pos hb, if_neg (by omega)] at hu ⊢
        rw [buT, if_pos hb, if_neg (by omega), List.length_append] at hv ⊢
        rw [foB, if_pos hb, if_neg (by omega)]
        refine pr_b (v_part0 n mI (by omega)) (fun r hr => ?_)
        rw [hm, Int.toNat_natCast] at hr
        refine pr_c (ih e σ f (p0 m) u v fI r h661 h658 hf hr hp3 hp4 (by omega) (by omega) (by omega)) (fun r5 τ hτ => ?_)
        obtain ⟨t1, t2, t3, t4⟩ := hτ
        replace t1 : r5 = _ := t1
        refine pr_c (ih e τ (f + p0 m) (m - p0 m) _ _ (fI + r) (mI - r) t2 t3 (by rw [ii_add (by omega) (by omega)]; omega) (by rw [ii_sub (by omega) (by omega)]; omega) (by omega) (by omega) (by omega) (by omega) (by omega)) (fun r6 υ hυ => ?_)
        obtain ⟨u1, u2, u3, u4⟩ := hυ
        replace u1 : r6 = _ := u1
        have e40 : ms_E τ 40 = ms_E σ 40 := funext (t4.2 40 (by decide))
        have e44 : ms_E τ 44 = ms_E σ 44 := funext (t4.2 44 (by decide))
        have e40' : ms_E υ 40 = ms_E σ 40 := (funext (u4.2 40 (by decide))).trans e40
        refine pr_b (v_both n υ r5 r6) (fun w hw => pr_s ⟨?_, ?_, ?_, fr_tr t4 u4⟩)
        · show w = _
          rw [hw, t1, u1, e40, e40', e44]
        · rw [u2]; omega
        · rw [u3]; omega
    · rw [if_neg hb] at hr
      subst hr
      rw [buT_F hb, List.length_singleton] at hv ⊢
      rw [buM_F hb, foB_F _ _ hb]
      refine pr_i (fun _ => pr_ln (fun τ hτ => pr_g (fun _ _ => pr_s ?_))) (fun z => absurd rfl z)
      have t1 : ms_I τ 658 = ms_I σ 658 + 1 := by rw [hτ, mI_sI, if_pos rfl]
      have hc : (ms_I τ 658 - 1).toNatClampNeg = v := cl_n (by rw [t1, iw_sub, iw_add, lt1]; omega)
      refine ⟨?_, ?_, ?_, by rw [hτ]; exact fr_sI (by decide)⟩
      · rw [hc, hτ]; rfl
      · rw [hτ, mI_sI, if_neg (by decide)]; omega
      · rw [t1, iw_add, lt1]; omega
def bef (a : Nat) (α β : hp_T) : Prop := hp_R β = hp_R α ∧ hp_K β = hp_K α ∧ hp_E β = hp_E α ∧ ∀ φ b, ¬ (b = a ∧ (φ = 53 ∨ φ = 54)) → hp_I β φ b = hp_I α φ b
theorem bef_tr {a : Nat} {α β γ : hp_T} (h : bef a α β) (g : bef a β γ) : bef a α γ := ⟨g.1.trans h.1, g.2.1.trans h.2.1, g.2.2.1.trans h.2.2.1, fun φ b q => (g.2.2.2 φ b q).trans (h.2.2.2 φ b q)⟩
theorem bef_s {a φ : Nat} {α : hp_T} {v : Int32} (h : φ = 53 ∨ φ = 54) : bef a α (hp_sI α φ a v) := ⟨rfl, rfl, rfl, fun ψ b q => by rw [hI_sI, if_neg (fun z => q ⟨z.2, by rw [z.1]; exact h⟩)]⟩
theorem RWL_bef {α β : hp_T} {a row : Nat} {l : List Int32} (h : RWL α row l) (f : bef a α β) : RWL β row l := ⟨h.1, by rw [f.2.2.2 301 row (fun q => by omega)]; exact h.2.1, fun k hk => by rw [f.2.2.1, f.1]; exact h.2.2 k hk⟩
theorem k_foldedTree (n a row : Nat) {s m : Int32} (hm0 : 0 < m.toInt) (hs : 0 ≤ s.toInt) (hS : s.toInt.toNat < 2 ^ 30) (PL : List Int32) : ∀ (e d : Nat) (α : hp_T) (f N u v dp : Nat) (fI NI dI : Int32), e + 1 ≤ d → RWL α row PL → hp_I α 50 a = m → hp_R α 51 a = row → hp_I α 52 a = s → (hp_I α 53 a).toInt = (u : Int) → (hp_I α 54 a).toInt = (v : Int) → fI.toInt = (f : Int) → NI.toInt = (N : Int) → dI.toInt = (dp : Int) → e + dp ≤ 31 → 1 ≤ N → N ≤ 2 ^ e → f + N ≤ 2147483647 → u + buM s.toInt.toNat e f N ≤ PL.length → v + (buT s.toInt.toNat e f N).length ≤ PL.length → ws (f_X0_foldedTree n d α a fI NI dI) (fun res => res.1 = foB m s.toInt.toNat (fun j => PL.getD j 0) e f N u v ∧ (hp_I res.2 53 a).toInt = ((u + buM s.toInt.toNat e f N : Nat) : Int) ∧ (hp_I res.2 54 a).toInt = ((v + (buT s.toInt.toNat e f N).length : Nat) : Int) ∧ bef a α res.2) := by
  have t40 : (40 : Int32).toInt = 40 := by decide
  have t2 := t_2
  intro e
  -- one tree, or one of the set
  have leafT : ∀ (e d : Nat) (α : hp_T) (f N u v dp : Nat) (fI NI dI : Int32), e + 1 ≤ d → RWL α row PL → hp_R α 51 a = row → hp_I α 52 a = s → (hp_I α 53 a).toInt = (u : Int) → (hp_I α 54 a).toInt = (v : Int) → fI.toInt = (f : Int) → NI.toInt = (N : Int) → dI.toInt = (dp : Int) → e + dp ≤ 31 → ¬ hasB s.toInt.toNat f N = true → v + (buT s.toInt.toNat e f N).length ≤ PL.length → ws (f_X0_foldedTree n d α a fI NI dI) (fun res => res.1 = foB m s.toInt.toNat (fun j => PL.getD j 0) e f N u v ∧ (hp_I res.2 53 a).toInt = ((u + buM s.toInt.toNat e f N : Nat) : Int) ∧ (hp_I res.2 54 a).toInt = ((v + (buT s.toInt.toNat e f N).length : Nat) : Int) ∧ bef a α res.2) := by
    intro e d α f N u v dp fI NI dI hd hP h51 h52 h53 h54 hf hN hdp hed hb hv
    rw [buT_F hb, List.length_singleton] at hv ⊢
    rw [buM_F hb, foB_F _ _ hb]
    have h64 := hP.1
    obtain ⟨d, rfl⟩ : ∃ k, d = k + 1 := ⟨d - 1, by omega⟩
    rw [f_X0_foldedTree.eq_2]
    refine ws_lt (fun c => by rw [t40] at c; omega) (fun _ => ws_l ?_)
    rw [h52]
    refine ws_b (k_has n hs hS hf hN) (fun r hr => ?_)
    rw [if_neg hb] at hr
    subst hr
    refine ws_i (fun _ => ?_) (fun z => absurd rfl z)
    unfold f_X0_foldedTree_J18
    refine ws_l (ws_ln (fun β hβ => ws_l (ws_l ?_)))
    have b54 : hp_I β 54 a = hp_I α 54 a + 1 := by rw [hβ, hI_sI, if_pos ⟨rfl, rfl⟩]
    have bR : hp_R β 51 a = row := by rw [hβ]; exact h51
    have hbef : bef a α β := by rw [hβ]; exact bef_s (Or.inr rfl)
    rw [bR]
    refine ws_b (k_rat n (RWL_bef hP hbef) v (by omega) _ (by rw [b54, iw_sub, iw_add, lt1]; omega)) (fun q hq => ws_s ⟨hq, ?_, ?_, hbef⟩)
    · show (hp_I β 53 a).toInt = _
      rw [hβ, hI_sI, if_neg (fun z => absurd z.1 (by decide))]; omega
    · show (hp_I β 54 a).toInt = _
      rw [b54, iw_add, lt1]; omega
  have leafM : ∀ (e d : Nat) (α : hp_T) (f u v dp : Nat) (fI NI dI : Int32), e + 1 ≤ d → RWL α row PL → hp_R α 51 a = row → hp_I α 52 a = s → (hp_I α 53 a).toInt = (u : Int) → (hp_I α 54 a).toInt = (v : Int) → fI.toInt = (f : Int) → NI.toInt = ((1 : Nat) : Int) → dI.toInt = (dp : Int) → e + dp ≤ 31 → hasB s.toInt.toNat f 1 = true → u + buM s.toInt.toNat e f 1 ≤ PL.length → ws (f_X0_foldedTree n d α a fI NI dI) (fun res => res.1 = foB m s.toInt.toNat (fun j => PL.getD j 0) e f 1 u v ∧ (hp_I res.2 53 a).toInt = ((u + buM s.toInt.toNat e f 1 : Nat) : Int) ∧ (hp_I res.2 54 a).toInt = ((v + (buT s.toInt.toNat e f 1).length : Nat) : Int) ∧ bef a α res.2) := by
    intro e d α f u v dp fI NI dI hd hP h51 h52 h53 h54 hf hN hdp hed hb hu
    rw [buM_1 hb] at hu ⊢
    rw [buT_1 hb, List.length_nil, foB_1 _ _ hb]
    have h64 := hP.1
    obtain ⟨d, rfl⟩ : ∃ k, d = k + 1 := ⟨d - 1, by omega⟩
    rw [f_X0_foldedTree.eq_2]
    refine ws_lt (fun c => by rw [t40] at c; omega) (fun _ => ws_l ?_)
    rw [h52]
    refine ws_b (k_has n hs hS hf hN) (fun r hr => ?_)
    rw [if_pos hb] at hr
    subst hr
    refine ws_i (fun z => absurd z (by decide)) (fun _ => ws_le (fun c => by rw [t2] at c; omega) (fun _ => ws_l (ws_ln (fun β hβ => ws_l (ws_l ?_)))))
    have b53 : hp_I β 53 a = hp_I α 53 a + 1 := by rw [hβ, hI_sI, if_pos ⟨rfl, rfl⟩]
    have bR : hp_R β 51 a = row := by rw [hβ]; exact h51
    have hbef : bef a α β := by rw [hβ]; exact bef_s (Or.inl rfl)
    rw [bR]
    refine ws_b (k_rat n (RWL_bef hP hbef) u (by omega) _ (by rw [b53, iw_sub, iw_add, lt1]; omega)) (fun q hq => ws_s ⟨hq, ?_, ?_, hbef⟩)
    · show (hp_I β 53 a).toInt = _
      rw [b53, iw_add, lt1]; omega
    · show (hp_I β 54 a).toInt = _
      rw [hβ, hI_sI, if_neg (fun z => absurd z.1 (by decide))]; omega
  induction e with
  | zero =>
    intro d α f N u v dp fI NI dI hd hP h50 h51 h52 h53 h54 hf hN hdp hed hN1 hNe hfN hu hv
    have : N = 1 := by simp at hNe; omega
    subst this
    by_cases hb : hasB s.toInt.toNat f 1 = true
    · exact leafM 0 d α f u v dp fI NI dI hd hP h51 h52 h53 h54 hf hN hdp hed hb hu
    · exact leafT 0 d α f 1 u v dp fI NI dI hd hP h51 h52 h53 h54 hf hN hdp hed hb hv
  | succ e ih =>
    intro d α f N u v dp fI NI dI hd hP h50 h51 h52 h53 h54 hf hN hdp hed hN1 hNe hfN hu hv
    by_cases hb : hasB s.toInt.toNat f N = true
    · by_cases hN2 : N = 1
      · subst hN2
        exact leafM (e + 1) d α f u v dp fI NI dI hd hP h51 h52 h53 h54 hf hN hdp hed hb hu
      · have hp1 := p0_lt (m := N) (by omega)
        have hp2 := p0_le (m := N)
        have hp3 := p0_pos N
        have hp4 := p0_dn (m := N) (by omega) hNe
        rw [buM, if_pos hb, if_neg hN2] at hu ⊢
        rw [buT, if_pos hb, if_neg hN2, List.length_append] at hv ⊢
        rw [foB, if_pos hb, if_neg hN2]
        obtain ⟨d, rfl⟩ : ∃ k, d = k + 1 := ⟨d - 1, by omega⟩
        rw [f_X0_foldedTree.eq_2]
        refine ws_lt (fun c => by rw [t40] at c; omega) (fun _ => ws_l ?_)
        rw [h52]
        refine ws_b (k_has n hs hS hf hN) (fun r hr => ?_)
        rw [if_pos hb] at hr
        subst hr
        refine ws_i (fun z => absurd z (by decide)) (fun _ => ws_le (fun _ => ?_) (fun c => by rw [t2] at c; omega))
        refine ws_b (k_first n NI (by omega)) (fun r hr => ?_)
        rw [hN, Int.toNat_natCast] at hr
        refine ws_hc (ih d α f (p0 N) u v (dp + 1) fI r (dI + 1) (by omega) hP h50 h51 h52 h53 h54 hf hr (by rw [iw_add, lt1]; omega) (by omega) hp3 hp4 (by omega) (by omega) (by omega)) (fun r5 β hβ => ?_)
        obtain ⟨b1, b2, b3, b4⟩ := hβ
        replace b1 : r5 = _ := b1
        refine ws_hc (ih d β (f + p0 N) (N - p0 N) _ _ (dp + 1) (fI + r) (NI - r) (dI + 1) (by omega) (RWL_bef hP b4) (by rw [b4.2.2.2 50 a (fun q => by omega)]; exact h50) (by rw [b4.1]; exact h51) (by rw [b4.2.2.2 52 a (fun q => by omega)]; exact h52) b2 b3 (by rw [ii_add (by omega) (by omega)]; omega) (by rw [ii_sub (by omega) (by omega)]; omega) (by rw [iw_add, lt1]; omega) (by omega) (by omega) (by omega) (by omega) (by omega) (by omega)) (fun r6 γ hγ => ws_l ?_)
        obtain ⟨g1, g2, g3, g4⟩ := hγ
        replace g1 : r6 = _ := g1
        have e50 : hp_I γ 50 a = m := by rw [g4.2.2.2 50 a (fun q => by omega), b4.2.2.2 50 a (fun q => by omega)]; exact h50
        rw [e50]
        refine ws_b (k_two n m r5 r6 hm0) (fun w hw => ws_s ⟨?_, ?_, ?_, bef_tr b4 g4⟩)
        · show w = _
          rw [hw, b1, g1]
        · show (hp_I γ 53 a).toInt = _
          rw [g2]; omega
        · show (hp_I γ 54 a).toInt = _
          rw [g3]; omega
    · exact leafT (e + 1) d α f N u v dp fI NI dI hd hP h51 h52 h53 h54 hf hN hdp hed hb hv
abbrev bdOK (f : Nat → Int32) (s m head : Int32) : Prop := seOK s m ∧ mkP f head
def bdT (s m : Int32) : Nat := pcr s.toInt.toNat 0 32 + (buT s.toInt.toNat 31 0 m.toInt.toNat).length
def bdA (f : Nat → Int32) (s m head : Int32) : Int32 := if bdOK f s m head then (if (f 2).toInt.toNat < bdT s m then 1 else if bdT s m < (f 2).toInt.toNat then 2 else if foB (f 1) s.toInt.toNat (fun j => f (8 + j)) 31 0 m.toInt.toNat 0 (pcr s.toInt.toNat 0 32) = head then 0 else 3) else -1
theorem pcr_le (S f : Nat) : ∀ m, pcr S f m ≤ m := by
  intro m
  induction m with
  | zero => exact Nat.le_refl _
  | succ m ih => rw [pcr]; split <;> omega
theorem buM_all {s m : Int32} (h : seOK s m) : buM s.toInt.toNat 31 0 m.toInt.toNat = pcr s.toInt.toNat 0 32 := by
  have h31 : (2 : Nat) ^ 31 = 2147483648 := by decide
  obtain ⟨-, -, q3⟩ := seOK_S h
  have hb := ib_hi m
  have h2 := h.2.2
  rw [buM_pcr _ 31 0 _ (by omega) (by omega), pcr_stop h2 (show min m.toInt.toNat 30 ≤ m.toInt.toNat by omega), pcr_stop h2 (show min m.toInt.toNat 30 ≤ 32 by omega)]
theorem v_why3 (n : Nat) (σ : ms_T) (a b c : Int32) : pr (f_X12_why n σ a b c) (fun r => r = if a.toInt < b.toInt then 1 else if b.toInt < a.toInt then 2 else if c = 0 then 3 else 0) := by
  unfold f_X12_why
  refine pr_le (fun e => pr_le (fun e2 => pr_i (fun z => pr_s ?_) (fun z => pr_s ?_)) (fun e2 => pr_s ?_)) (fun e => pr_s ?_)
  · rw [if_neg (by omega), if_neg (by omega), if_pos z]
  · rw [if_neg (by omega), if_neg (by omega), if_neg z]
  · rw [if_neg (by omega), if_pos e2]
  · rw [if_pos e]
theorem v_bundled (n : Nat) (hn : 70000 ≤ n) (σ : ms_T) (hC : rC (ms_E σ 40)) (s m head : Int32) : pr (f_X12_bundled n σ s m head) (fun res => res.1 = bdA (ms_E σ 40) s m head) := by
  have h64 := hC.2.2.1
  have h31 : (2 : Nat) ^ 31 = 2147483648 := by decide
  have hb := ib_hi m
  have bad : ¬ bdOK (ms_E σ 40) s m head → pr (f_X12_bundled_J30 n σ s m head 1) (fun res => res.1 = bdA (ms_E σ 40) s m head) := fun no => by
    unfold f_X12_bundled_J30 bdA
    rw [if_neg no]
    exact v_is1 n σ 1 (by decide) (pr_s rfl)
  unfold f_X12_bundled f_X12_bundled_J25
  refine pr_lt (fun c => bad (fun q => by rw [lt0] at c; have := q.1.2.1; omega)) (fun c => pr_le (fun c1 => bad (fun q => by rw [lt0] at c1; have := q.1.1; omega)) (fun c1 => ?_))
  rw [lt0] at c c1
  refine pr_b (v_isBeyond n (m := m) c1) (fun r hr => ?_)
  rcases hr with ⟨rfl, hno⟩ | ⟨rfl, hyes⟩
  · exact pr_i (fun z => absurd z (by decide)) (fun _ => bad (fun q => hno q.1))
  · refine pr_i (fun _ => ?_) (fun z => absurd rfl z)
    have hse : seOK s m := Classical.not_not.mp hyes
    obtain ⟨q1, q2, q3⟩ := seOK_S hse
    refine pr_bo (pr_w (s_isMark hC head)) (fun z => bad (fun q => z q.2)) (fun z2 => ?_)
    have ok : bdOK (ms_E σ 40) s m head := ⟨hse, z2⟩
    unfold f_X12_bundled_J30 bdA
    rw [if_pos ok]
    refine v_is0 n σ ?_
    obtain ⟨τ0, hτ0⟩ : ∃ τ, τ = ms_sI (ms_sI σ 653 0) 652 0 := ⟨_, rfl⟩
    have e0 : ms_E τ0 40 = ms_E σ 40 := by rw [hτ0]; rfl
    rw [← hτ0]
    refine pr_b (fun τ hτ => (⟨v_bundleOf n τ0 q1 q2 m q3 τ hτ, z_X12_bundleOf kq_rf τ hτ⟩ : WS τ _ ∧ kq τ0 τ)) (fun τ hτ => ?_)
    obtain ⟨hW, hk⟩ := hτ
    have e1 : ms_E τ 40 = ms_E σ 40 := by rw [show ms_E τ 40 = ms_E τ0 40 from funext (fun j => hk.2 40 rfl j), e0]
    have hlen := buT_len n hn σ q1 q2 m q3
    have hP := pcr_le s.toInt.toNat 0 32
    have hbM := buM_all hse
    refine pr_b (pr_w (s_bitCount4 n s q1 q2)) (fun p hp => ?_)
    rw [bc_pcr _ q2] at hp
    refine pr_ln (fun x6 hx6 => ?_)
    have x6I : x6.toInt = (bdT s m : Int) := by
      have := hW.1
      unfold bdT
      rw [hx6, iw_add]; omega
    refine pr_c (v_fromPad n τ (by rw [e1]; exact hC)) (fun c7 υ hυ => ?_)
    obtain ⟨p1, p2, p3⟩ := hυ
    replace p1 : c7 = ms_E τ 40 2 := p1
    rw [e1] at p1 p2
    have e2 : ms_E υ 40 = ms_E σ 40 := by rw [show ms_E υ 40 = ms_E τ 40 from funext (fun j => p3.2 40 (by decide) j), e1]
    refine pr_ln (fun σ8 h8 => pr_ln (fun σ9 h9 => ?_))
    have i661 : ms_I σ9 661 = 0 := by rw [h9, mI_sI, if_pos rfl]
    have i658 : ms_I σ9 658 = p := by rw [h9, mI_sI, if_neg (by decide), h8, mI_sI, if_pos rfl]
    have e9 : ms_E σ9 40 = ms_E σ 40 := by rw [h9, h8]; exact e2
    have e94 : ms_E σ9 44 = ms_E υ 44 := by rw [h9, h8]; rfl
    have c7I : c7.toInt = ((ms_E σ 40 2).toInt.toNat : Int) := by rw [p1]; omega
    unfold f_X12_bundled_J99 f_X12_bundled_J104
    refine pr_e (fun ce => ?_) (fun ce => ?_)
    · have cT : (ms_E σ 40 2).toInt.toNat = bdT s m := by rw [ce] at c7I; omega
      rw [if_neg (by omega), if_neg (by omega)]
      refine pr_c (v_foldsBundle n q1 q2 40 31 σ9 0 m.toInt.toNat 0 (pcr s.toInt.toNat 0 32) 0 m (by rw [i661]; rfl) (by rw [i658]; omega) rfl (by omega) (by omega) (by omega) (by omega) (by rw [hbM]; omega) (by omega)) (fun r14 σ14 h14 => ?_)
      obtain ⟨f1, -⟩ := h14
      replace f1 : r14 = _ := f1
      rw [e9, e94] at f1
      have f2 : r14 = foB (ms_E σ 40 1) s.toInt.toNat (fun j => ms_E σ 40 (8 + j)) 31 0 m.toInt.toNat 0 (pcr s.toInt.toNat 0 32) := by
        rw [f1]
        refine foB_c _ _ (bdT s m) (fun j hj => p2 j (by omega)) 31 0 _ _ _ (by omega) (by omega) (by rw [hbM]; unfold bdT; omega) (by unfold bdT; omega)
      rw [← f2]
      refine pr_i (fun z => ?_) (fun z => ?_)
      · rw [if_pos z]
        exact pr_b (v_why3 n σ14 c7 x6 1) (fun w hw => pr_s (by show w = 0; rw [hw, if_neg (by omega), if_neg (by omega), if_neg (by decide)]))
      · rw [if_neg z]
        exact pr_b (v_why3 n σ14 c7 x6 0) (fun w hw => pr_s (by show w = 3; rw [hw, if_neg (by omega), if_neg (by omega), if_pos rfl]))
    · refine pr_b (v_why3 n σ9 c7 x6 1) (fun w hw => pr_s ?_)
      show w = _
      rw [hw]
      by_cases c1 : c7.toInt < x6.toInt
      · rw [if_pos c1, if_pos (by omega)]
      · rw [if_neg c1, if_pos (by omega), if_neg (by omega), if_pos (by omega)]
theorem k_bundleWhy (n : Nat) (a row : Nat) (α : hp_T) {s m : Int32} (N : Int32) (hse : seOK s N) (hm0 : 0 < m.toInt) (PL : List Int32) (hP : RWL α row PL) (oI head : Int32) (hlen : (buT s.toInt.toNat 31 0 N.toInt.toNat).length ≤ 58) (ho : oI.toInt = ((buT s.toInt.toNat 31 0 N.toInt.toNat).length : Int)) : ws (f_X0_why n α a m row s N oI head) (fun res => res.1 = if PL.length < bdT s N then 1 else if bdT s N < PL.length then 2 else if foB m s.toInt.toNat (fun j => PL.getD j 0) 31 0 N.toInt.toNat 0 (pcr s.toInt.toNat 0 32) = head then 0 else 3) := by
  obtain ⟨q1, q2, q3⟩ := seOK_S hse
  have h31 : (2 : Nat) ^ 31 = 2147483648 := by decide
  have hb := ib_hi N
  have hPc := pcr_le s.toInt.toNat 0 32
  have hbM := buM_all hse
  have h64 := hP.1
  unfold f_X0_why
  refine ws_b (s_bitCount4 n s q1 q2) (fun p hp => ws_l ?_)
  rw [bc_pcr _ q2] at hp
  have eT : (p + oI).toInt = (bdT s N : Int) := by unfold bdT; rw [iw_add]; omega
  refine ws_e (fun c => ?_) (fun c => ?_)
  · have cT : PL.length = bdT s N := by
      have := congrArg Int32.toInt c
      rw [hP.2.1, eT] at this; omega
    rw [if_neg (by omega), if_neg (by omega)]
    refine ws_l (ws_l (ws_l (ws_l (ws_ln (fun α8 h8 => ?_)))))
    have i50 : hp_I α8 50 a = m := by rw [h8, hI_sI, if_neg (fun z => absurd z.1 (by decide)), hI_sI, if_neg (fun z => absurd z.1 (by decide)), hI_sI, if_neg (fun z => absurd z.1 (by decide)), hI_sR, hI_sI, if_pos ⟨rfl, rfl⟩]
    have i51 : hp_R α8 51 a = row := by rw [h8, hR_sI, hR_sI, hR_sI, hR_sR, if_pos ⟨rfl, rfl⟩]
    have i52 : hp_I α8 52 a = s := by rw [h8, hI_sI, if_neg (fun z => absurd z.1 (by decide)), hI_sI, if_neg (fun z => absurd z.1 (by decide)), hI_sI, if_pos ⟨rfl, rfl⟩]
    have i53 : hp_I α8 53 a = 0 := by rw [h8, hI_sI, if_neg (fun z => absurd z.1 (by decide)), hI_sI, if_pos ⟨rfl, rfl⟩]
    have i54 : hp_I α8 54 a = p := by rw [h8, hI_sI, if_pos ⟨rfl, rfl⟩]
    have hP8 : RWL α8 row PL := by
      refine ⟨hP.1, ?_, fun k hk => ?_⟩
      · rw [h8, hI_sI, if_neg (fun z => absurd z.1 (by decide)), hI_sI, if_neg (fun z => absurd z.1 (by decide)), hI_sI, if_neg (fun z => absurd z.1 (by decide)), hI_sR, hI_sI, if_neg (fun z => absurd z.1 (by decide))]
        exact hP.2.1
      · rw [h8, hR_sI, hR_sI, hR_sI, hR_sR, if_neg (fun z => absurd z.1 (by decide)), hR_sI, hE_sI, hE_sI, hE_sI, hE_sR, hE_sI]
        exact hP.2.2 k hk
    refine ws_hc (k_foldedTree n a row hm0 q1 q2 PL 31 41 α8 0 N.toInt.toNat 0 (pcr s.toInt.toNat 0 32) 0 0 N 0 (by decide) hP8 i50 i51 i52 (by rw [i53]; rfl) (by rw [i54]; exact hp) rfl (by omega) rfl (by decide) (by omega) (by omega) (by omega) (by rw [hbM, cT]; unfold bdT; omega) (by rw [cT]; unfold bdT; omega)) (fun r β hr => ?_)
    rw [show r = _ from hr.1]
    exact ws_i (fun z => ws_s (by show (0 : Int32) = _; rw [if_pos z])) (fun z => ws_s (by show (3 : Int32) = _; rw [if_neg z]))
  · have e1 := hP.2.1
    refine ws_l (ws_le (fun d => ws_s ?_) (fun d => ws_s ?_))
    · show (2 : Int32) = _
      rw [if_neg (by omega), if_pos (by omega)]
    · show (1 : Int32) = _
      rw [if_pos (by omega)]
theorem k_bundled (n : Nat) (hn : 70000 ≤ n) (α : hp_T) (x : Nat) (σ : ms_T) (f : Nat → Int32) (hC : rC f) (h : RWX α x f) (h6 : hp_R α 603 x = x + 919) (hP : RWL α (x + 919) (pdl f)) (s m head : Int32) : ws (f_X11_bundled n α x s m head) (fun res => res.1 = bdA f s m head) := by
  obtain ⟨w, u, h1, h2, -, h4, -⟩ := h
  have hm0 := hC.2.1
  have bad : ¬ bdOK f s m head → ws (f_X11_bundled_J23 n x α) (fun res => res.1 = bdA f s m head) := fun no => by
    unfold f_X11_bundled_J23 bdA
    rw [if_neg no]
    exact ws_hc (k_refuse n α x 1) (fun z γ hz => ws_s hz.1)
  unfold f_X11_bundled
  refine ws_bo (k_isSet n s) (fun z => bad (fun q => z q.1.1)) (fun z1 => ws_bo (k_lieBelow n s m z1) (fun z => bad (fun q => z q.1)) (fun hse => ws_bo (k_isMark n h1 h4.2.1.1 head) (fun z => bad (fun q => z q.2)) (fun z2 => ws_l ?_)))
  obtain ⟨q1, q2, q3⟩ := seOK_S hse
  have hlen := buT_len n hn σ q1 q2 m q3
  refine ws_b (k_toBundle n hn α _ q1 q2 m q3 hlen) (fun β hβ => ws_l (ws_l (ws_l (ws_l (ws_l (ws_l ?_))))))
  obtain ⟨hWC, hwf⟩ := hβ
  have hWβ := WR_wf h4 hC hwf
  have hP2 := RWL_wf hP hwf
  rw [hwf.1, h1, h6, hWβ.2.1.1]
  refine ws_hc (k_bundleWhy n _ (x + 919) β m hse (by omega) (pdl f) hP2 _ head hlen hWC.1) (fun r γ hr => ws_hc (k_answer n γ x r) (fun z δ hz => ws_s ?_))
  have hr1 : r = _ := hr
  have ok : bdOK f s m head := ⟨hse, z2⟩
  unfold bdA
  rw [if_pos ok, show z = r from hz.1, hr1, pdl_len]
  by_cases c1 : (f 2).toInt.toNat < bdT s m
  · rw [if_pos c1, if_pos c1]
  · by_cases c2 : bdT s m < (f 2).toInt.toNat
    · rw [if_neg c1, if_neg c1, if_pos c2, if_pos c2]
    · have hb := ib_hi m
      have h31 : (2 : Nat) ^ 31 = 2147483648 := by decide
      have hbM := buM_all hse
      rw [if_neg c1, if_neg c1, if_neg c2, if_neg c2, foB_c (f 1) s.toInt.toNat (xs := fun j => (pdl f).getD j 0) (ys := fun j => f (8 + j)) (bdT s m) (fun j hj => pdl_gD f (by omega)) 31 0 m.toInt.toNat 0 (pcr s.toInt.toNat 0 32) (by omega) (by omega) (by rw [hbM]; unfold bdT; omega) (by unfold bdT; omega)]
end JN9_39
section JN9_40
set_option maxRecDepth 100000
def alB (f : Nat → Int32) : Nat → Int32
  | 0 => 0
  | k + 1 => alB f k ||| (f (78 + 4 * k) <<< (Int32.ofNat k &&& 31))
theorem alB_0 (f : Nat → Int32) (k : Nat) (hk : k < 4) (z : f (78 + 4 * k) = 0) : alB f (k + 1) = alB f k := by
  rw [alB, z]
  have e : ∀ j, j < 4 → ((0 : Int32) <<< (Int32.ofNat j &&& 31)) = 0 := by decide
  rw [e k hk]
  exact Int32.toBitVec_inj.mp (by simp)
theorem kI_of {kI : Int32} {k : Nat} (h : kI.toInt = (k : Int)) (hk : k < 4) : kI = Int32.ofNat k := Int32.toInt_inj.mp (by rw [h, Int32.toInt_ofNat_of_lt (by omega)])
abbrev mnOK (a : Int32) : Prop := 0 ≤ a.toInt ∧ a.toInt ≤ 5
def mnA (f : Nat → Int32) (a : Int32) : Int32 := if mnOK a then (if 5 ≤ a.toInt then alB f 4 else f a.toInt.toNat) else -1
theorem v_many_L (n : Nat) (σ : ms_T) : ∀ (d k : Nat) (vI kI : Int32), kI.toInt = (k : Int) → k ≤ 4 → vI = alB (ms_E σ 40) k → pr (f_X12_many_L39 n d σ vI kI) (fun res => res.1 = alB (ms_E σ 40) 4) := by
  intro d
  induction d with
  | zero => intro k vI kI _ _ _; rw [f_X12_many_L39.eq_1]; exact pr_0
  | succ d ih =>
    intro k vI kI hk hl hv
    have t4 := t_4
    rw [f_X12_many_L39.eq_2]
    refine pr_le (fun e => pr_s ?_) (fun e => ?_)
    · show vI = _
      rw [hv, show k = 4 by omega]
    · have hk4 : k < 4 := by omega
      have e1 : (kI + 1).toInt = ((k + 1 : Nat) : Int) := by rw [iw_add, lt1]; omega
      refine pr_b (v_trust n σ k hk4 kI hk 2 (by omega) 2 rfl) (fun v hv1 => pr_l (pr_l (ih (k + 1) _ _ e1 (by omega) ?_)))
      rw [alB, hv, hv1, kI_of hk hk4, show 76 + 4 * k + 2 = 78 + 4 * k by omega]
theorem v_many (n : Nat) (σ : ms_T) (a : Int32) : pr (f_X12_many n σ a) (fun res => res.1 = mnA (ms_E σ 40) a) := by
  have t5 : (5 : Int32).toInt = 5 := by decide
  unfold f_X12_many f_X12_many_J15 mnA
  refine pr_bo (v_isIn n a 0 5) (fun h0 => v_is1 n σ 1 (by decide) (pr_s ?_)) (fun h1 => v_is0 n σ ?_)
  · rw [lt0, t5] at h0
    rw [if_neg h0]
  · rw [lt0, t5] at h1
    rw [if_pos h1]
    refine pr_le (fun e => ?_) (fun e => pr_g (fun _ _ => pr_s ?_))
    · rw [t5] at e
      rw [if_pos e]
      exact v_many_L n (ms_sI (ms_sI σ 653 0) 652 0) n 0 0 0 rfl (by omega) rfl
    · rw [t5] at e
      rw [if_neg (by omega)]
      rfl
theorem k_alarmedBits_L (n : Nat) (α : hp_T) (w : Nat) (f : Nat → Int32) (hA : AL01 f) (h4 : WR α w f) : ∀ (d k : Nat) (vI kI : Int32), kI.toInt = (k : Int) → k ≤ 4 → 5 - k ≤ d → vI = alB f k → ws (f_X10_alarmedBits_L4 n α w d vI kI) (fun r => r = alB f 4) := by
  intro d
  induction d with
  | zero => intro k vI kI _ _ hd; omega
  | succ d ih =>
    intro k vI kI hk hl hd hv
    have t4 := t_4
    rw [f_X10_alarmedBits_L4.eq_2]
    refine ws_le (fun e => ws_s ?_) (fun e => ?_)
    · rw [hv, show k = 4 by omega]
    · have hk4 : k < 4 := by omega
      have e1 : (kI + 1).toInt = ((k + 1 : Nat) : Int) := by rw [iw_add, lt1]; omega
      refine ws_b (k_watcherAt n h4.1 k hk4 kI hk) (fun o ho => ?_)
      subst ho
      obtain ⟨q1, q2, q3, q4⟩ := h4.2.2.2.2.1 k hk4
      unfold f_X10_alarmedBits_J32
      refine ws_hS (ws_l ?_)
      rw [q3]
      rcases hA.1 k hk4 with z | z
      · refine ws_i (fun _ => ws_l (ih (k + 1) _ _ e1 (by omega) (by omega) ?_)) (fun c => absurd z c)
        rw [alB_0 f k hk4 z]; exact hv
      · refine ws_i (fun c => absurd (z.symm.trans c) (by decide)) (fun _ => ws_l (ws_l (ih (k + 1) _ _ e1 (by omega) (by omega) ?_)))
        rw [alB, z, hv, kI_of hk hk4]
theorem k_many (n : Nat) (hn : 70000 ≤ n) (α : hp_T) (x : Nat) (f : Nat → Int32) (hC : rC f) (hA : AL01 f) (h : RWX α x f) (h6 : hp_R α 603 x = x + 919) (hP : RWL α (x + 919) (pdl f)) (a : Int32) : ws (f_X11_many n α x a) (fun res => res.1 = mnA f a) := by
  obtain ⟨w, u, h1, h2, h3, h4, -⟩ := h
  have h2' := hC.2.2.1
  have t2 := t_2
  have t1 := lt1
  have t0 := lt0
  have t3 : (3 : Int32).toInt = 3 := by decide
  have t4 := t_4
  have t5 : (5 : Int32).toInt = 5 := by decide
  have fin : ∀ v : Int32, v = mnA f a → ws (hq_c (f_X11_answer n α x v) fun r β => some (r, β)) (fun res => res.1 = mnA f a) := fun v hv => ws_hc (k_answer n α x v) (fun z γ hz => ws_s (hz.1.trans hv))
  obtain ⟨w1, w2, w3, w4⟩ := h4.2.1
  have mk : ∀ j : Nat, j < 5 → a.toInt = (j : Int) → mnA f a = f j := fun j hj hv => by
    unfold mnA
    rw [if_pos ⟨by omega, by omega⟩, if_neg (by omega), hv]; rfl
  unfold f_X11_many
  rw [h1, h6]
  refine ws_i (fun e => ws_l (ws_l (fin _ ?_))) (fun c0 => ws_i (fun e => ws_l (ws_l (fin _ ?_))) (fun c1 => ws_i (fun e => ws_l (ws_l (fin _ ?_))) (fun c2 => ws_i (fun e => ws_l (ws_l (fin _ ?_))) (fun c3 => ws_i (fun e => ws_l (ws_l (fin _ ?_))) (fun c4 => ws_i (fun e => ws_l ?_) (fun c5 => ?_))))))
  · rw [w2, mk 0 (by omega) (by rw [e]; rfl)]
  · rw [w1, mk 1 (by omega) (by rw [e]; rfl)]
  · rw [mk 2 (by omega) (by rw [e]; rfl)]
    refine Int32.toInt_inj.mp ?_
    have := hP.2.1
    rw [pdl_len] at this
    omega
  · rw [w3, mk 3 (by omega) (by rw [e]; rfl)]
  · rw [w4, mk 4 (by omega) (by rw [e]; rfl)]
  · unfold f_X10_alarmedBits
    refine ws_b (k_alarmedBits_L n α w f hA h4 n 0 0 0 rfl (by omega) (by omega) rfl) (fun r hr => fin _ ?_)
    rw [hr]
    unfold mnA
    rw [if_pos ⟨by rw [e, t5]; omega, by rw [e, t5]; omega⟩, if_pos (by rw [e, t5]; omega)]
  · have no : ¬ mnOK a := fun q => by
      have n0 : ¬ a.toInt = 0 := fun q => c0 (Int32.toInt_inj.mp (by rw [q]; rfl))
      have n1 : ¬ a.toInt = 1 := fun q => c1 (Int32.toInt_inj.mp (by rw [q]; rfl))
      have n2 : ¬ a.toInt = 2 := fun q => c2 (Int32.toInt_inj.mp (by rw [q]; rfl))
      have n3 : ¬ a.toInt = 3 := fun q => c3 (Int32.toInt_inj.mp (by rw [q]; rfl))
      have n4 : ¬ a.toInt = 4 := fun q => c4 (Int32.toInt_inj.mp (by rw [q]; rfl))
      have n5 : ¬ a.toInt = 5 := fun q => c5 (Int32.toInt_inj.mp (by rw [q]; rfl))
      have := q.1
      have := q.2
      omega
    unfold mnA
    rw [if_neg no]
    exact ws_hc (k_refuse n α x 1) (fun z γ hz => ws_s hz.1)
end JN9_40
section JN9_41
set_option maxRecDepth 100000
def PDX (α : hp_T) (x : Nat) (f : Nat → Int32) : Prop := RWL α (x + 919) (pdl f)
def pkp (x : Nat) (α β : hp_T) : Prop := hp_I β 301 (x + 919) = hp_I α 301 (x + 919) ∧ hp_R β 300 (x + 919) = hp_R α 300 (x + 919) ∧ ∀ j, hp_E β 20 (x + 920) j = hp_E α 20 (x + 920) j
theorem pkp_rf {x : Nat} {α : hp_T} : pkp x α α := ⟨rfl, rfl, fun _ => rfl⟩
theorem pkp_tr {x : Nat} {α β γ : hp_T} (h : pkp x α β) (g : pkp x β γ) : pkp x α γ := ⟨g.1.trans h.1, g.2.1.trans h.2.1, fun j => (g.2.2 j).trans (h.2.2 j)⟩
theorem PDX_k {α β : hp_T} {x : Nat} {f : Nat → Int32} (h : PDX α x f) (h3 : hp_R α 300 (x + 919) = x + 920) (c : pkp x α β) : PDX β x f := by
  obtain ⟨h1, h2, h4⟩ := h
  refine ⟨h1, by rw [c.1]; exact h2, fun k hk => ?_⟩
  rw [c.2.1, h3, c.2.2, ← h3]
  exact h4 k hk
theorem pkp_qf {α β : hp_T} {x w a : Nat} (h : qf w a α β) (h1 : a ≠ x + 919) (h2 : hp_R α 300 a ≠ x + 920) : pkp x α β := by
  obtain ⟨w1, -, -, -, w5, w6⟩ := h
  exact ⟨w5 301 _ (fun q => h1 q.1.symm), by rw [w1], fun j => w6 20 _ j (fun q => absurd q.1 (by decide)) (fun q => h2 q.2.symm)⟩
theorem pkp_wf {α β : hp_T} {x a : Nat} (h : wf a α β) : pkp x α β := by
  obtain ⟨w1, -, -, -, w5, w6⟩ := h
  exact ⟨w5 301 _ (by omega), by rw [w1], fun j => w6 20 _ j (by omega)⟩
theorem pkp_jf {α β : hp_T} {x w : Nat} (h : jf w α β) : pkp x α β := by
  obtain ⟨w1, -, -, -, w5, w6⟩ := h
  exact ⟨by rw [w5], by rw [w1], fun j => w6 20 _ j (fun q => absurd q.1 (by decide))⟩
theorem pkp_st {α : hp_T} {x : Nat} {v : Int32} : pkp x α (hp_sI α 600 x v) := ⟨by rw [hI_sI, if_neg (fun z => absurd z.1 (by decide))], rfl, fun _ => rfl⟩
end JN9_41
section JN9_42
set_option maxRecDepth 100000
abbrev clS (m : Int32) (xs ys : Nat → Int32) (W : List (Nat × Nat × Bool)) (a b : Int32) (k : Nat) : Prop := fwd m xs (W.take (k + 1)) 0 a = fwd m ys (W.take (k + 1)) 0 b ∧ ¬ (cLL m xs W a k = cLL m ys W b k ∧ cRR m xs W a k = cRR m ys W b k)
def clK (m : Int32) (xs ys : Nat → Int32) (W : List (Nat × Nat × Bool)) (a b : Int32) : Nat → Nat → Option Nat
  | 0, _ => none
  | d + 1, k => if clS m xs ys W a b k then some k else clK m xs ys W a b d (k + 1)
def clX (m : Int32) (xs ys : Nat → Int32) (W : List (Nat × Nat × Bool)) (a b what : Int32) (k : Nat) : Int32 := if what = 0 then Int32.ofNat k else if what = 1 then cLL m xs W a k else if what = 2 then cRR m xs W a k else if what = 3 then cLL m ys W b k else cRR m ys W b k
def clV (m : Int32) (xs ys : Nat → Int32) (W : List (Nat × Nat × Bool)) (a b what : Int32) : Option Nat → Int32
  | none => -1
  | some k => clX m xs ys W a b what k
theorem clK_lt (m : Int32) (xs ys : Nat → Int32) (W : List (Nat × Nat × Bool)) (a b : Int32) : ∀ (d k q : Nat), clK m xs ys W a b d k = some q → q < k + d := by
  intro d
  induction d with
  | zero => intro k q h; cases h
  | succ d ih =>
    intro k q h
    rw [clK] at h
    by_cases c : clS m xs ys W a b k
    · rw [if_pos c] at h
      cases h
      omega
    · rw [if_neg c] at h
      have := ih (k + 1) q h
      omega
theorem fwd_t (m : Int32) {xs ys : Nat → Int32} (W : List (Nat × Nat × Bool)) (s : Int32) {k : Nat} (hk : k ≤ W.length) (h : ∀ j, j < W.length → xs j = ys j) : fwd m xs (W.take k) 0 s = fwd m ys (W.take k) 0 s :=
  fwd_c m (W.take k) 0 s (fun j _ hj => h j (by rw [List.length_take] at hj; omega))
theorem cLL_c (m : Int32) {xs ys : Nat → Int32} (W : List (Nat × Nat × Bool)) (s : Int32) {k : Nat} (hk : k < W.length) (h : ∀ j, j < W.length → xs j = ys j) : cLL m xs W s k = cLL m ys W s k ∧ cRR m xs W s k = cRR m ys W s k := by
  unfold cLL cRR
  rw [h k hk, fwd_t m W s (by omega) h]
  exact ⟨rfl, rfl⟩
theorem clK_c (m : Int32) {xs ys us vs : Nat → Int32} (W : List (Nat × Nat × Bool)) (a b : Int32) (hx : ∀ j, j < W.length → xs j = us j) (hy : ∀ j, j < W.length → ys j = vs j) : ∀ (d k : Nat), k + d ≤ W.length → clK m xs ys W a b d k = clK m us vs W a b d k := by
  intro d
  induction d with
  | zero => intro k _; rfl
  | succ d ih =>
    intro k hk
    obtain ⟨a1, a2⟩ := cLL_c m W a (k := k) (by omega) hx
    obtain ⟨b1, b2⟩ := cLL_c m W b (k := k) (by omega) hy
    rw [clK, clK]
    have e : clS m xs ys W a b k ↔ clS m us vs W a b k := by
      unfold clS
      rw [a1, a2, b1, b2, fwd_t m W a (by omega) hx, fwd_t m W b (by omega) hy]
    by_cases c : clS m us vs W a b k
    · rw [if_pos c, if_pos (e.mpr c)]
    · rw [if_neg c, if_neg (fun q => c (e.mp q))]
      exact ih (k + 1) (by omega)
theorem clV_c (m : Int32) {xs ys us vs : Nat → Int32} (W : List (Nat × Nat × Bool)) (a b what : Int32) (hx : ∀ j, j < W.length → xs j = us j) (hy : ∀ j, j < W.length → ys j = vs j) : clV m xs ys W a b what (clK m xs ys W a b W.length 0) = clV m us vs W a b what (clK m us vs W a b W.length 0) := by
  rw [clK_c m W a b hx hy W.length 0 (by omega)]
  cases hq : clK m us vs W a b W.length 0 with
  | none => rfl
  | some q =>
    have hl := clK_lt m us vs W a b W.length 0 q hq
    obtain ⟨a1, a2⟩ := cLL_c m W a (k := q) (by omega) hx
    obtain ⟨b1, b2⟩ := cLL_c m W b (k := q) (by omega) hy
    show clX m xs ys W a b what q = clX m us vs W a b what q
    unfold clX
    rw [a1, a2, b1, b2]
def clW (i m : Int32) : List (Nat × Nat × Bool) := (wyT 31 i.toInt.toNat 0 m.toInt.toNat).reverse
theorem clW_len (i m : Int32) : (clW i m).length ≤ 31 := by
  unfold clW
  rw [List.length_reverse]
  exact wyT_len _ _ _ _
abbrev clOK (f : Nat → Int32) (a i m mark what : Int32) : Prop := (0 ≤ what.toInt ∧ what.toInt ≤ 4) ∧ mkP f mark ∧ inOK f a i m ∧ WIN (f 1) (fun j => f (8 + j)) (f 2).toInt.toNat mark i.toInt.toNat m.toInt.toNat (TMK (f 1) (EL f a.toInt.toNat) 0 m.toInt.toNat) = 0
def chA (f : Nat → Int32) (a i m mark what : Int32) : Int32 := if clOK f a i m mark what then clV (f 1) (fun j => (inL f a i m).getD j 0) (fun j => f (8 + j)) (clW i m) (EM f a.toInt.toNat i.toInt.toNat) mark what (clK (f 1) (fun j => (inL f a i m).getD j 0) (fun j => f (8 + j)) (clW i m) (EM f a.toInt.toNat i.toInt.toNat) mark (clW i m).length 0) else -1
theorem WIN_v (m : Int32) (xs : Nat → Int32) (c : Nat) (mark : Int32) (i N : Nat) (head : Int32) : (WIN m xs c mark i N head = 0 ∧ c = (wyT 31 i 0 N).length) ∨ (¬ WIN m xs c mark i N head = 0 ∧ 0 < (WIN m xs c mark i N head).toInt) := by
  unfold WIN
  by_cases h1 : c < (wyT 31 i 0 N).length
  · rw [if_pos h1]; exact Or.inr ⟨by decide, by decide⟩
  · by_cases h2 : (wyT 31 i 0 N).length < c
    · rw [if_neg h1, if_pos h2]; exact Or.inr ⟨by decide, by decide⟩
    · rw [if_neg h1, if_neg h2]
      by_cases h3 : fwd m xs (wyT 31 i 0 N).reverse 0 mark = head
      · rw [if_pos h3]; exact Or.inl ⟨rfl, by omega⟩
      · rw [if_neg h3]; exact Or.inr ⟨by decide, by decide⟩
theorem cl_ofN {kI : Int32} {k : Nat} (h : kI.toInt = (k : Int)) (hk : k ≤ 64) : kI = Int32.ofNat k := Int32.toInt_inj.mp (by rw [h, Int32.toInt_ofNat_of_lt (by omega)])
theorem v_clash_172 (n : Nat) (m : Int32) (xs ys : Nat → Int32) (W : List (Nat × Nat × Bool)) (hW : W.length ≤ 64) (a b what : Int32) (σ : ms_T) (hN : (ms_I σ 689).toInt = (W.length : Int)) (h1 : ∀ j, j < W.length → ms_E σ 51 j = cLL m xs W a j ∧ ms_E σ 52 j = cRR m xs W a j ∧ ms_E σ 53 j = fwd m xs (W.take (j + 1)) 0 a) (h2 : ∀ j, j < W.length → ms_E σ 54 j = cLL m ys W b j ∧ ms_E σ 55 j = cRR m ys W b j ∧ ms_E σ 56 j = fwd m ys (W.take (j + 1)) 0 b) : ∀ (d k : Nat) (kI : Int32), kI.toInt = (k : Int) → k ≤ W.length → pr (f_X12_clash_L172 n d σ what kI) (fun res => res.1 = clV m xs ys W a b what (clK m xs ys W a b (W.length - k) k)) := by
  intro d
  induction d with
  | zero => intro k kI _ _; rw [f_X12_clash_L172.eq_1]; exact pr_0
  | succ d ih =>
    intro k kI hk hkW
    rw [f_X12_clash_L172.eq_2]
    refine pr_le (fun e => ?_) (fun e => pr_g (fun _ _ => pr_g (fun _ _ => ?_)))
    · rw [show W.length - k = 0 by omega]
      exact pr_c (v_refuse n σ 5) (fun r τ hr => pr_s hr)
    · have hkl : k < W.length := by omega
      have e1 : (kI + 1).toInt = ((k + 1 : Nat) : Int) := by rw [iw_add, lt1]; omega
      obtain ⟨a1, a2, a3⟩ := h1 k hkl
      obtain ⟨b1, b2, b3⟩ := h2 k hkl
      have es : W.length - k = (W.length - (k + 1)) + 1 := by omega
      have next : ¬ clS m xs ys W a b k → pr (f_X12_clash_J301 n (f_X12_clash_L172 n d) σ what kI) (fun res => res.1 = clV m xs ys W a b what (clK m xs ys W a b (W.length - k) k)) := fun no => by
        unfold f_X12_clash_J301
        rw [es, clK, if_neg no]
        exact pr_l (ih (k + 1) _ e1 (by omega))
      have here : clS m xs ys W a b k → pr (f_X12_clash_J235 n σ what kI) (fun res => res.1 = clV m xs ys W a b what (clK m xs ys W a b (W.length - k) k)) := fun ok => by
        rw [es, clK, if_pos ok]
        show pr _ (fun res : Int32 × ms_T => res.1 = clX m xs ys W a b what k)
        unfold f_X12_clash_J235 clX
        rw [cl_n hk, a1, a2, b1, b2]
        refine pr_i (fun c => pr_s ?_) (fun c0 => pr_i (fun c => pr_g (fun _ _ => pr_s ?_)) (fun c1 => pr_i (fun c => pr_g (fun _ _ => pr_s ?_)) (fun c2 => pr_i (fun c => pr_g (fun _ _ => pr_s ?_)) (fun c3 => pr_g (fun _ _ => pr_s ?_)))))
        · rw [if_pos c]; exact cl_ofN hk (by omega)
        · rw [if_neg c0, if_pos c]
        · rw [if_neg c0, if_neg c1, if_pos c]
        · rw [if_neg c0, if_neg c1, if_neg c2, if_pos c]
        · rw [if_neg c0, if_neg c1, if_neg c2, if_neg c3]
      rw [cl_n hk, a1, a2, a3, b1, b2, b3]
      refine pr_i (fun c3 => pr_g (fun _ _ => pr_g (fun _ _ => pr_i (fun c1 => pr_g (fun _ _ => pr_g (fun _ _ => pr_i (fun c2 => next (fun q => q.2 ⟨c1, c2⟩)) (fun c2 => here ⟨c3, fun q => c2 q.2⟩)))) (fun c1 => here ⟨c3, fun q => c1 q.1⟩)))) (fun c3 => next (fun q => c3 q.1))
theorem v_clash_83 {P : Int32 × ms_T → Prop} (n N : Nat) (σ0 : ms_T) (hN : (ms_I σ0 689).toInt = (N : Int)) (r i m what : Int32) (hfin : ∀ τ, fr [] [54, 55, 56] σ0 τ → (∀ j, j < N → ms_E τ 54 j = ms_E σ0 51 j ∧ ms_E τ 55 j = ms_E σ0 52 j ∧ ms_E τ 56 j = ms_E σ0 53 j) → pr (ms_b (f_X12_inclusion n τ i m) fun σh13 => ms_b (f_X12_fetches n σh13 r) fun σh14 => ms_l (ms_sI σh14 689 (0 : Int32)) fun σh15 => ms_b (f_X12_entryMark n σh15 r i) fun rh16 => ms_c (f_X12_stepsIn n 40 σh15 rh16 i m) fun _ σh17 => f_X12_clash_L172 n n σh17 what (0 : Int32)) P) : ∀ (d k : Nat) (σ : ms_T) (kI : Int32), kI.toInt = (k : Int) → k ≤ N → fr [] [54, 55, 56] σ0 σ → (∀ j, j < k → ms_E σ 54 j = ms_E σ0 51 j ∧ ms_E σ 55 j = ms_E σ0 52 j ∧ ms_E σ 56 j = ms_E σ0 53 j) → pr (f_X12_clash_L83 n d σ r i m what kI) P := by
  intro d
  induction d with
  | zero => intro k σ kI _ _ _ _; rw [f_X12_clash_L83.eq_1]; exact pr_0
  | succ d ih =>
    intro k σ kI hk hkN hf h
    have h689 : ms_I σ 689 = ms_I σ0 689 := hf.1 689 (by decide)
    have hmb := ib_hi (ms_I σ0 689)
    rw [f_X12_clash_L83.eq_2]
    refine pr_le (fun e => hfin σ hf (fun j hj => h j (by rw [h689] at e; omega))) (fun e => pr_g (fun _ _ => pr_g (fun _ _ => pr_ln (fun τ1 h1 => pr_g (fun _ _ => pr_g (fun _ _ => pr_ln (fun τ2 h2 => pr_g (fun _ _ => pr_g (fun _ _ => pr_ln (fun τ3 h3 => pr_l ?_))))))))))
    rw [h689] at e
    have e1 : (kI + 1).toInt = ((k + 1 : Nat) : Int) := by rw [iw_add, lt1]; omega
    rw [cl_n hk] at h1 h2 h3
    have f1 : fr [] [54, 55, 56] σ τ1 := by rw [h1]; exact fr_sE (by decide)
    have f2 : fr [] [54, 55, 56] σ τ2 := by rw [h2]; exact fr_tr f1 (fr_sE (by decide))
    have f3 : fr [] [54, 55, 56] σ τ3 := by rw [h3]; exact fr_tr f2 (fr_sE (by decide))
    refine ih (k + 1) τ3 _ e1 (by omega) (fr_tr hf f3) (fun j hj => ?_)
    have g54 : ms_E τ3 54 j = if j = k then ms_E σ 51 k else ms_E σ 54 j := by
      rw [h3, mE_sE, if_neg (fun z => absurd z.1 (by decide)), h2, mE_sE, if_neg (fun z => absurd z.1 (by decide)), h1, mE_sE]
      by_cases ej : j = k
      · rw [if_pos ⟨rfl, ej⟩, if_pos ej]
      · rw [if_neg (fun z => ej z.2), if_neg ej]
    have g55 : ms_E τ3 55 j = if j = k then ms_E σ 52 k else ms_E σ 55 j := by
      rw [h3, mE_sE, if_neg (fun z => absurd z.1 (by decide)), h2, mE_sE]
      by_cases ej : j = k
      · rw [if_pos ⟨rfl, ej⟩, if_pos ej]; exact f1.2 52 (by decide) k
      · rw [if_neg (fun z => ej z.2), if_neg ej]; rw [h1, mE_sE, if_neg (fun z => absurd z.1 (by decide))]
    have g56 : ms_E τ3 56 j = if j = k then ms_E σ 53 k else ms_E σ 56 j := by
      rw [h3, mE_sE]
      by_cases ej : j = k
      · rw [if_pos ⟨rfl, ej⟩, if_pos ej]; exact f2.2 53 (by decide) k
      · rw [if_neg (fun z => ej z.2), if_neg ej, h2, mE_sE, if_neg (fun z => absurd z.1 (by decide)), h1, mE_sE, if_neg (fun z => absurd z.1 (by decide))]
    rw [g54, g55, g56]
    by_cases ej : j = k
    · rw [if_pos ej, if_pos ej, if_pos ej, ej]
      exact ⟨hf.2 51 (by decide) k, hf.2 52 (by decide) k, hf.2 53 (by decide) k⟩
    · rw [if_neg ej, if_neg ej, if_neg ej]
      exact h j (by omega)
theorem v_clash (n : Nat) (σ : ms_T) (hC : rC (ms_E σ 40)) (a i m mark what : Int32) : pr (f_X12_clash n σ a i m mark what) (fun res => res.1 = chA (ms_E σ 40) a i m mark what) := by
  have h4 := hC.1
  have h64 := hC.2.2.1
  have t4 := t_4
  have bad : ∀ v : Int32, ¬ v = 0 → ¬ clOK (ms_E σ 40) a i m mark what → pr (f_X12_clash_J31 n σ a i m mark what v) (fun res => res.1 = chA (ms_E σ 40) a i m mark what) := fun v hv hno => by
    unfold f_X12_clash_J31 chA
    rw [if_neg hno]
    exact v_is1 n σ v hv (pr_s rfl)
  unfold f_X12_clash f_X12_clash_J20
  refine pr_bo (v_isIn n what 0 4) (fun z => bad 1 (by decide) (fun q => z (by rw [lt0, t4]; exact q.1))) (fun z1 => pr_bo (pr_w (s_isMark hC mark)) (fun z => bad 1 (by decide) (fun q => z q.2.1)) (fun z2 => pr_b (v_noEntry n σ hC a i m) (fun v hv => ?_)))
  rw [lt0, t4] at z1
  rcases hv with ⟨rfl, ok⟩ | ⟨hv, no⟩
  · have ok : inOK (ms_E σ 40) a i m := ok
    obtain ⟨ok1, ok2, ok3, ok4⟩ := id ok
    have hsz := hC.2.2.2.2.1 a.toInt.toNat (by omega)
    have hm31 : m.toInt.toNat ≤ 2 ^ 31 := by have := ib_hi m; omega
    unfold f_X12_clash_J31
    refine v_is0 n σ ?_
    obtain ⟨τ0, hτ0⟩ : ∃ τ, τ = ms_sI (ms_sI σ 653 0) 652 0 := ⟨_, rfl⟩
    have e0 : ms_E τ0 40 = ms_E σ 40 := by rw [hτ0]; rfl
    rw [← hτ0]
    refine pr_c (v_fromPad n τ0 (by rw [e0]; exact hC)) (fun c τ hτ => ?_)
    obtain ⟨p1, p2, p3⟩ := hτ
    replace p1 : c = ms_E τ0 40 2 := p1
    rw [e0] at p1 p2
    have e1 : ms_E τ 40 = ms_E σ 40 := by rw [show ms_E τ 40 = ms_E τ0 40 from funext (fun j => p3.2 40 (by decide) j), e0]
    refine pr_b (v_headOf n τ (by rw [e1]; exact hC) a.toInt.toNat (by omega) a (by omega) m.toInt.toNat m (by omega) (by rw [e1, EL_len]; omega)) (fun hd hhd => ?_)
    rw [e1] at hhd
    refine pr_c (T := fun r => (r.1 = WIN (ms_E τ 40 1) (ms_E τ 44) (ms_E σ 40 2).toInt.toNat mark i.toInt.toNat m.toInt.toNat hd ∧ kq τ r.2) ∧ fr [657, 658] [42, 43] τ r.2) (fun r hr => ⟨v_whyIn n τ (ms_E σ 40 2).toInt.toNat c (by rw [p1]; omega) mark hd i.toInt.toNat m.toInt.toNat i m (by omega) (by omega) (by omega) r hr, v_whyIn_fr n τ c mark hd i.toInt.toNat m.toInt.toNat i m (by omega) (by omega) (by omega) r hr⟩) (fun w υ hw => ?_)
    obtain ⟨⟨w1, -⟩, w2⟩ := hw
    replace w1 : w = WIN (ms_E τ 40 1) (ms_E τ 44) (ms_E σ 40 2).toInt.toNat mark i.toInt.toNat m.toInt.toNat hd := w1
    rw [e1, hhd] at w1
    replace w1 := w1.trans (WIN_c _ _ _ _ _ _ p2)
    have e2 : ms_E υ 40 = ms_E σ 40 := by rw [show ms_E υ 40 = ms_E τ 40 from funext (fun j => w2.2 40 (by decide) j), e1]
    have e44 : ms_E υ 44 = ms_E τ 44 := funext (fun j => w2.2 44 (by decide) j)
    rcases WIN_v (ms_E σ 40 1) (fun j => ms_E σ 40 (8 + j)) (ms_E σ 40 2).toInt.toNat mark i.toInt.toNat m.toInt.toNat (TMK (ms_E σ 40 1) (EL (ms_E σ 40) a.toInt.toNat) 0 m.toInt.toNat) with ⟨z, zc⟩ | ⟨z, zc⟩
    · refine pr_le (fun _ => ?_) (fun cz => by rw [w1, z, lt0] at cz; omega)
      have okk : clOK (ms_E σ 40) a i m mark what := ⟨z1, z2, ok, z⟩
      unfold chA
      rw [if_pos okk]
      refine pr_ln (fun ξ hξ => ?_)
      have x689 : ms_I ξ 689 = 0 := by rw [hξ, mI_sI, if_pos rfl]
      have x40 : ms_E ξ 40 = ms_E σ 40 := by rw [hξ]; exact e2
      have x44 : ms_E ξ 44 = ms_E τ 44 := by rw [hξ]; exact e44
      refine pr_c (v_stepsIn3 n mark 40 31 ξ 0 i.toInt.toNat m.toInt.toNat i m x689 (by omega) (by omega) (by omega) (by omega) hm31) (fun r10 π hπ => ?_)
      obtain ⟨-, q2, q3, q4, q5⟩ := hπ
      replace q2 : (ms_I π 689).toInt = ((wyT 31 i.toInt.toNat 0 m.toInt.toNat).length : Int) := q2
      have hWl : (clW i m).length = (wyT 31 i.toInt.toNat 0 m.toInt.toNat).length := by unfold clW; rw [List.length_reverse]
      have pi40 : ms_E π 40 = ms_E σ 40 := by rw [show ms_E π 40 = ms_E ξ 40 from funext (fun j => q5.2 40 (by decide) j), x40]
      refine v_clash_83 n (clW i m).length π (by rw [q2, hWl]) a i m what (fun ρ hρ hρ2 => ?_) n 0 π 0 rfl (Nat.zero_le _) fr_rf (fun j hj => absurd hj (Nat.not_lt_zero _))
      have r40 : ms_E ρ 40 = ms_E σ 40 := by rw [show ms_E ρ 40 = ms_E π 40 from funext (fun j => hρ.2 40 (by decide) j), pi40]
      refine pr_b (T := fun τ => WS τ (clW i m) ∧ fr [657] [42, 43] ρ τ) (fun t ht => ⟨v_inclusion n ρ i m ok1.1 ok4 t ht, v_incl_fr n ρ i m t ht⟩) (fun σ1 hs1 => ?_)
      obtain ⟨hWS, g1⟩ := hs1
      have s1 : ms_E σ1 40 = ms_E σ 40 := by rw [show ms_E σ1 40 = ms_E ρ 40 from funext (fun j => g1.2 40 (by decide) j), r40]
      refine pr_b (v_fetches n σ1 (by rw [s1]; exact hC) a.toInt.toNat (by omega) a (by omega) _ hWS (fun q hq => ?_)) (fun σ2 hs2 => ?_)
      · have := wyT_rin (N := m.toInt.toNat) (I := i.toInt.toNat) (by omega) q hq
        rw [s1, EL_len]; omega
      obtain ⟨hM, -, g2⟩ := hs2
      rw [s1] at hM
      refine pr_ln (fun σ3 hs3 => ?_)
      have s40 : ms_E σ3 40 = ms_E σ 40 := by rw [hs3]; exact (funext (fun j => g2.2 40 (by decide) j)).trans s1
      have s44 : ms_E σ3 44 = ms_E σ2 44 := by rw [hs3]; rfl
      have s689 : ms_I σ3 689 = 0 := by rw [hs3, mI_sI, if_pos rfl]
      have hq := hC.2.2.2.2.2.2.2.2 (48 * a.toInt.toNat + i.toInt.toNat) (by omega)
      refine pr_b (v_entryMark n σ3 a.toInt.toNat i.toInt.toNat (by omega) (by omega) a i (by omega) (by omega) (by rw [s40]; exact hq.1) (by rw [s40]; exact hq.2)) (fun em hem => ?_)
      rw [s40] at hem
      refine pr_c (v_stepsIn3 n em 40 31 σ3 0 i.toInt.toNat m.toInt.toNat i m s689 (by omega) (by omega) (by omega) (by omega) hm31) (fun r17 σ4 hs4 => ?_)
      obtain ⟨-, u2, u3, u4, u5⟩ := hs4
      replace u2 : (ms_I σ4 689).toInt = ((wyT 31 i.toInt.toNat 0 m.toInt.toNat).length : Int) := u2
      have keep : ∀ κ, κ ∉ [40, 42, 43, 44, 51, 52, 53] → ∀ j, ms_E σ4 κ j = ms_E ρ κ j := fun κ hκ j => by
        have c1 : κ ∉ [51, 52, 53] := fun q => hκ (by simp only [List.mem_cons, List.not_mem_nil, or_false] at q ⊢; omega)
        have c2 : κ ∉ [44] := fun q => hκ (by simp only [List.mem_cons, List.not_mem_nil, or_false] at q ⊢; omega)
        have c3 : κ ∉ [42, 43] := fun q => hκ (by simp only [List.mem_cons, List.not_mem_nil, or_false] at q ⊢; omega)
        have k1 : ms_E σ4 κ j = ms_E σ3 κ j := u5.2 κ c1 j
        have k2 : ms_E σ3 κ j = ms_E σ2 κ j := by rw [hs3]; rfl
        have k3 : ms_E σ2 κ j = ms_E σ1 κ j := g2.2 κ c2 j
        have k4 : ms_E σ1 κ j = ms_E ρ κ j := g1.2 κ c3 j
        rw [k1, k2, k3, k4]
      have m1 : ms_E σ3 40 1 = ms_E σ 40 1 := by rw [s40]
      have m2 : ms_E ξ 40 1 = ms_E σ 40 1 := by rw [x40]
      rw [m1] at u3 u4
      rw [m2] at q3 q4
      refine pr_m (v_clash_172 n (ms_E σ 40 1) (ms_E σ3 44) (ms_E ξ 44) (clW i m) (Nat.le_trans (clW_len i m) (by decide)) em mark what σ4 (by rw [u2, hWl]) (fun j hj => ?_) (fun j hj => ?_) n 0 0 rfl (Nat.zero_le _)) (fun res hr => ?_)
      · rw [hWl] at hj
        exact ⟨(u4 j hj).1, (u4 j hj).2, u3 j hj⟩
      · have hj2 := hj
        rw [hWl] at hj2
        obtain ⟨d1, d2, d3⟩ := hρ2 j hj
        rw [keep 54 (by decide), keep 55 (by decide), keep 56 (by decide), d1, d2, d3]
        exact ⟨(q4 j hj2).1, (q4 j hj2).2, q3 j hj2⟩
      · rw [hr, Nat.sub_zero, hem]
        refine clV_c (ms_E σ 40 1) (clW i m) _ mark what (fun j hj => ?_) (fun j hj => ?_)
        · have hj3 : j < (mkl (ms_E σ 40 1) (EL (ms_E σ 40) a.toInt.toNat) (clW i m)).length := by rw [mkl_len]; exact hj
          rw [s44]
          show _ = (mkl (ms_E σ 40 1) (EL (ms_E σ 40) a.toInt.toNat) (clW i m)).getD j 0
          rw [List.getD_eq_getElem?_getD, ← hM j hj3]; rfl
        · rw [x44]
          exact p2 j (by rw [hWl] at hj; omega)
    · refine pr_le (fun cz => by rw [w1, lt0] at cz; omega) (fun _ => ?_)
      have no : ¬ clOK (ms_E σ 40) a i m mark what := fun q => z q.2.2.2
      unfold chA
      rw [if_neg no]
      exact pr_c (v_refuse n υ 5) (fun r ξ hr => pr_s hr)
  · exact bad v hv (fun q => no q.2.2.1)
theorem cl_iff (m : Int32) (xs ys : Nat → Int32) (W : List (Nat × Nat × Bool)) (a b : Int32) (k : Nat) : (cLL m xs W a k = cLL m ys W b k ∧ cRR m xs W a k = cRR m ys W b k) ↔ (xs k = ys k ∧ fwd m xs (W.take k) 0 a = fwd m ys (W.take k) 0 b) := by
  by_cases hw : wfl W k = true
  · have e1 : cLL m xs W a k = xs k := if_pos hw
    have e2 : cLL m ys W b k = ys k := if_pos hw
    have e3 : cRR m xs W a k = fwd m xs (W.take k) 0 a := if_pos hw
    have e4 : cRR m ys W b k = fwd m ys (W.take k) 0 b := if_pos hw
    exact ⟨fun h => ⟨by rw [← e1, ← e2]; exact h.1, by rw [← e3, ← e4]; exact h.2⟩, fun h => ⟨by rw [e1, e2]; exact h.1, by rw [e3, e4]; exact h.2⟩⟩
  · have e1 : cLL m xs W a k = fwd m xs (W.take k) 0 a := if_neg hw
    have e2 : cLL m ys W b k = fwd m ys (W.take k) 0 b := if_neg hw
    have e3 : cRR m xs W a k = xs k := if_neg hw
    have e4 : cRR m ys W b k = ys k := if_neg hw
    exact ⟨fun h => ⟨by rw [← e3, ← e4]; exact h.2, by rw [← e1, ← e2]; exact h.1⟩, fun h => ⟨by rw [e1, e2]; exact h.2, by rw [e3, e4]; exact h.1⟩⟩
def clR (o : Option Nat) (r : Int32) : Prop := (∀ q, o = some q → r = Int32.ofNat q) ∧ (o = none → r = -1)
section CST
variable {α : hp_T} {x w wy : Nat} {m : Int32} {W : List (Nat × Nat × Bool)} {XL PL : List Int32} {xs ys : Nat → Int32}
theorem k_clashingStep_52 (n : Nat) (h1 : hp_R α 601 x = w) (h550 : hp_I α 550 w = m) (hm : 0 < m.toInt) (h612 : hp_R α 612 x = wy) (h14 : hp_R α 614 x = x + 939) (h6 : hp_R α 603 x = x + 919) (hWC : WC α wy W) (hW64 : W.length ≤ 64) (hL : RWL α (x + 939) XL) (hP : RWL α (x + 919) PL) (hXL : W.length ≤ XL.length) (hPL : W.length ≤ PL.length) (hxs : ∀ j, j < W.length → XL.getD j 0 = xs j) (hys : ∀ j, j < W.length → PL.getD j 0 = ys j) (a b : Int32) (rec : Int32 → Int32 → Int32 → Option Int32) (P : Int32 → Prop) (k : Nat) (kI : Int32) (hkI : kI.toInt = (k : Int)) (hk : k < W.length) (v3 v4 w0 : Int32) (hv3 : v3 = fwd m xs (W.take k) 0 a) (hv4 : v4 = fwd m ys (W.take k) 0 b)
    (hrec : ∀ u3 u4 uI : Int32, u3 = fwd m xs (W.take (k + 1)) 0 a → u4 = fwd m ys (W.take (k + 1)) 0 b → uI.toInt = ((k + 1 : Nat) : Int) → (w0 = 0 ∨ ¬ u3 = u4) → ws (rec u3 u4 uI) P) (hend : ¬ w0 = 0 → fwd m xs (W.take (k + 1)) 0 a = fwd m ys (W.take (k + 1)) 0 b → P kI) : ws (f_X11_clashingStep_J52 n α x rec v3 v4 kI w0) P := by
  have e1 : (kI + 1).toInt = ((k + 1 : Nat) : Int) := by rw [iw_add, lt1]; omega
  unfold f_X11_clashingStep_J52 f_X11_clashingStep_J124
  refine ws_l (ws_l (ws_l (ws_l ?_)))
  rw [h612, h1, h550, h14]
  refine ws_b (k_rat n hL k (by omega) kI hkI) (fun r1 hr1 => ws_b (k_joined n hWC hW64 k hk kI hkI m hm v3 r1) (fun s1 hs1 => ws_l (ws_l (ws_l (ws_l ?_)))))
  rw [h550, h6]
  refine ws_b (k_rat n hP k (by omega) kI hkI) (fun r2 hr2 => ws_b (k_joined n hWC hW64 k hk kI hkI m hm v4 r2) (fun s2 hs2 => ?_))
  have q1 : s1 = fwd m xs (W.take (k + 1)) 0 a := by rw [hs1, fwd_ts m xs W a hk, hr1, hv3, hxs k hk]
  have q2 : s2 = fwd m ys (W.take (k + 1)) 0 b := by rw [hs2, fwd_ts m ys W b hk, hr2, hv4, hys k hk]
  exact ws_i (fun c => ws_l (hrec s1 s2 _ q1 q2 e1 (Or.inl c))) (fun c => ws_i (fun d => ws_s (hend c (by rw [← q1, ← q2]; exact d))) (fun d => ws_l (hrec s1 s2 _ q1 q2 e1 (Or.inr d))))
theorem k_clashingStep_L (n : Nat) (h1 : hp_R α 601 x = w) (h550 : hp_I α 550 w = m) (hm : 0 < m.toInt) (h612 : hp_R α 612 x = wy) (h14 : hp_R α 614 x = x + 939) (h6 : hp_R α 603 x = x + 919) (hWC : WC α wy W) (hW64 : W.length ≤ 64) (hL : RWL α (x + 939) XL) (hP : RWL α (x + 919) PL) (hXL : W.length ≤ XL.length) (hPL : W.length ≤ PL.length) (hxs : ∀ j, j < W.length → XL.getD j 0 = xs j) (hys : ∀ j, j < W.length → PL.getD j 0 = ys j) (a b : Int32) : ∀ (d k : Nat) (v3 v4 kI : Int32), kI.toInt = (k : Int) → k ≤ W.length → W.length + 1 - k ≤ d → v3 = fwd m xs (W.take k) 0 a → v4 = fwd m ys (W.take k) 0 b → ws (f_X11_clashingStep_L8 n α x d v3 v4 kI) (clR (clK m xs ys W a b (W.length - k) k)) := by
  intro d
  induction d with
  | zero => intro k v3 v4 kI _ hk hd; omega
  | succ d ih =>
    intro k v3 v4 kI hkI hkW hd hv3 hv4
    rw [f_X11_clashingStep_L8.eq_2]
    refine ws_l (ws_l ?_)
    rw [h612]
    refine ws_le (fun e => ?_) (fun e => ?_)
    · rw [hWC.1] at e
      rw [show W.length - k = 0 by omega]
      exact ws_s ⟨fun q hq => (by cases hq), fun _ => rfl⟩
    · rw [hWC.1] at e
      have hk : k < W.length := by omega
      have es : W.length - k = (W.length - (k + 1)) + 1 := by omega
      have step : ∀ w0 : Int32, (w0 = 0 → (xs k = ys k ∧ v3 = v4)) → (¬ w0 = 0 → ¬ (xs k = ys k ∧ v3 = v4)) → ws (f_X11_clashingStep_J52 n α x (f_X11_clashingStep_L8 n α x d) v3 v4 kI w0) (clR (clK m xs ys W a b (W.length - k) k)) := by
        intro w0 c0 c1
        refine k_clashingStep_52 n h1 h550 hm h612 h14 h6 hWC hW64 hL hP hXL hPL hxs hys a b _ _ k kI hkI hk v3 v4 w0 hv3 hv4 (fun u3 u4 uI g3 g4 gI c => ?_) (fun c g => ?_)
        · have no : ¬ clS m xs ys W a b k := fun q => by
            rcases c with c | c
            · exact q.2 ((cl_iff m xs ys W a b k).mpr ⟨(c0 c).1, by rw [← hv3, ← hv4]; exact (c0 c).2⟩)
            · exact c (by rw [g3, g4]; exact q.1)
          rw [es, clK, if_neg no]
          exact ih (k + 1) u3 u4 uI gI (by omega) (by omega) g3 g4
        · have yes : clS m xs ys W a b k := ⟨g, fun q => by
            have := (cl_iff m xs ys W a b k).mp q
            rw [← hv3, ← hv4] at this
            exact c1 c this⟩
          rw [es, clK, if_pos yes]
          exact ⟨fun q hq => (by cases hq; exact cl_ofN hkI (by omega)), fun hq => (by cases hq)⟩
      have one := step 1 (fun q => absurd q (by decide))
      unfold f_X11_clashingStep_J47
      refine ws_i (fun c => ws_l ?_) (fun c => one (fun _ q => c q.2))
      rw [h14]
      refine ws_b (k_rat n hL k (by omega) kI hkI) (fun r1 hr1 => ws_l ?_)
      rw [h6]
      refine ws_b (k_rat n hP k (by omega) kI hkI) (fun r2 hr2 => ?_)
      rw [hxs k hk] at hr1
      rw [hys k hk] at hr2
      exact ws_i (fun c2 => step 0 (fun _ => ⟨by rw [← hr1, ← hr2]; exact c2, c⟩) (fun q => absurd rfl q)) (fun c2 => one (fun _ q => c2 (by rw [hr1, hr2]; exact q.1)))
theorem k_clash_224 (n : Nat) (hn : 70000 ≤ n) (h612 : hp_R α 612 x = wy) (hm : 0 < m.toInt) (hWC : WC α wy W) (hW64 : W.length ≤ 64) (row : Nat) (hL : RWL α row XL) (hXL : W.length ≤ XL.length) (hxs : ∀ j, j < W.length → XL.getD j 0 = xs j) (s what : Int32) (k : Nat) (kI : Int32) (hkI : kI.toInt = (k : Int)) (hk : k < W.length) : ws (f_X11_clash_J224 n x α what kI row s row m wy) (fun res => res.1 = (if what = 1 ∨ what = 3 then cLL m xs W s k else cRR m xs W s k) ∧ res.2 = hp_sI α 600 x 0) := by
  unfold f_X11_clash_J224
  refine ws_b (k_folded n hn α wy row W hWC hW64 XL hL m hm k kI hkI (by omega) (by omega) s) (fun r hr => ?_)
  replace hr := hr.trans (fwd_t m W s (by omega) hxs)
  have hw := wfl_g W hk
  have T : ∀ w0 : Int32, ((w0 = 1 ∧ (what = 1 ∨ what = 3)) ∨ (w0 = 0 ∧ ¬ (what = 1 ∨ what = 3))) → ws (f_X11_clash_J248 n x α kI row r w0) (fun res => res.1 = (if what = 1 ∨ what = 3 then cLL m xs W s k else cRR m xs W s k) ∧ res.2 = hp_sI α 600 x 0) := by
    intro w0 hw0
    unfold f_X11_clash_J248 f_X11_clash_J277
    refine ws_l ?_
    rw [h612]
    refine ws_b (k_isAhead n hWC hW64 k hk kI hkI) (fun g hg => ws_i (fun c => ws_b (k_rat n hL k (by omega) kI hkI) (fun v hv => ws_hc (k_answer n α x v) (fun z γ hz => ws_s ⟨?_, hz.2⟩))) (fun c => ws_hc (k_answer n α x r) (fun z γ hz => ws_s ⟨?_, hz.2⟩)))
    · show z = _
      rw [show z = v from hz.1, hv, hxs k hk]
      rcases hw0 with ⟨q, p⟩ | ⟨q, p⟩
      · rw [if_pos p]
        have : W[k].2.2 = true := by
          by_cases y : W[k].2.2 = true
          · exact y
          · rw [if_neg y] at hg; rw [hg, q] at c; exact absurd c (by decide)
        exact (if_pos (hw.trans this)).symm
      · rw [if_neg p]
        have : ¬ W[k].2.2 = true := fun y => by rw [if_pos y] at hg; rw [hg, q] at c; exact absurd c (by decide)
        exact (if_neg (fun y => this (hw.symm.trans y))).symm
    · show z = _
      rw [show z = r from hz.1, hr]
      rcases hw0 with ⟨q, p⟩ | ⟨q, p⟩
      · rw [if_pos p]
        have : ¬ W[k].2.2 = true := fun y => c (by rw [if_pos y] at hg; rw [hg, q])
        exact (if_neg (fun y => this (hw.symm.trans y))).symm
      · rw [if_neg p]
        have : W[k].2.2 = true := by
          by_cases y : W[k].2.2 = true
          · exact y
          · rw [if_neg y] at hg; exact absurd (by rw [hg, q]) c
        exact (if_pos (hw.trans this)).symm
  unfold f_X11_clash_J243
  exact ws_i (fun c => T 1 (Or.inl ⟨rfl, Or.inl c⟩)) (fun c1 => ws_i (fun c => T 1 (Or.inl ⟨rfl, Or.inr c⟩)) (fun c3 => T 0 (Or.inr ⟨rfl, fun q => q.elim c1 c3⟩)))
end CST
theorem RWL_qf {α β : hp_T} {w a b : Nat} {l : List Int32} (h : RWL α b l) (f : qf w a α β) (h1 : b ≠ a) (h2 : hp_R α 300 b ≠ hp_R α 300 a) : RWL β b l := by
  obtain ⟨f1, -, -, -, f5, f6⟩ := f
  refine ⟨h.1, by rw [f5 301 b (fun q => h1 q.1)]; exact h.2.1, fun k hk => ?_⟩
  rw [f1, f6 20 _ k (fun z => absurd z.1 (by decide)) (fun z => h2 z.2)]
  exact h.2.2 k hk
theorem k_clash (n : Nat) (hn : 70000 ≤ n) (α : hp_T) (x : Nat) (f : Nat → Int32) (hC : rC f) (h : RWX α x f) (h6 : hp_R α 603 x = x + 919) (h3 : hp_R α 300 (x + 919) = x + 920) (h14 : hp_R α 614 x = x + 939) (h40 : hp_R α 300 (x + 939) = x + 940) (h39 : 0 ≤ (hp_I α 301 (x + 939)).toInt ∧ (hp_I α 301 (x + 939)).toInt ≤ 64) (hP : RWL α (x + 919) (pdl f)) (a i m mark what : Int32) : ws (f_X11_clash n α x a i m mark what) (fun res => res.1 = chA f a i m mark what ∧ pkp x α res.2) := by
  obtain ⟨w, u, h1, h2, -, h4, -⟩ := h
  have hm0 := hC.2.1
  have h44 := hC.1
  have h64 := hC.2.2.1
  have t4 := t_4
  have t2 := t_2
  have bad : ∀ (β : hp_T) (v : Int32), pkp x α β → ¬ clOK f a i m mark what → ws (hq_c (f_X11_refuse n β x v) fun r γ => some (r, γ)) (fun res => res.1 = chA f a i m mark what ∧ pkp x α res.2) := fun β v hk hno => by
    unfold chA
    rw [if_neg hno]
    exact ws_hc (k_refuse n β x v) (fun z γ hz => ws_s ⟨hz.1, by rw [show γ = hp_sI β 600 x v from hz.2]; exact pkp_tr hk pkp_st⟩)
  unfold f_X11_clash f_X11_clash_J20 f_X11_clash_J55
  refine ws_lt (fun e => bad α 1 pkp_rf (fun q => by rw [lt0] at e; have := q.1.1; omega)) (fun e => ws_lt (fun e2 => bad α 1 pkp_rf (fun q => by rw [t4] at e2; have := q.1.2; omega)) (fun e2 => ws_bo (k_isMark n h1 h4.2.1.1 mark) (fun z => bad α 1 pkp_rf (fun q => z q.2.1)) (fun z2 => ws_l ?_)))
  rw [lt0] at e
  rw [t4] at e2
  rw [h1]
  refine ws_b (k_logAt n h4 hC a) (fun o ho => ?_)
  by_cases hr : 0 ≤ a.toInt ∧ a.toInt < (f 0).toInt
  · rw [if_pos hr] at ho
    subst ho
    have q152 := (h4.2.2.1 a.toInt.toNat (by omega)).1
    have hsz := hC.2.2.2.2.1 a.toInt.toNat (by omega)
    refine ws_hS ?_
    unfold f_X11_wrongInclusion f_X11_wrongInclusions_J29
    refine ws_b (S := fun v => (v = 0 ∧ inOK f a i m) ∨ (¬ v = 0 ∧ ¬ inOK f a i m)) (ws_hS (ws_lt (fun e => ws_s (Or.inr ⟨by decide, fun q => by rw [lt0] at e; have := q.1.1; omega⟩)) (fun e => ws_le (fun e2 => ws_l ?_) (fun e2 => ws_s (Or.inr ⟨by decide, fun q => by rw [lt0] at e2; have := q.1.2; omega⟩))))) (fun v hv => ?_)
    · rw [lt0] at e e2
      rw [q152]
      exact ws_lt (fun e3 => ws_s (Or.inr ⟨by decide, fun q => by have := q.2.2.1; omega⟩)) (fun e3 => ws_lt (fun e4 => ws_s (Or.inl ⟨rfl, ⟨e, e2⟩, hr, e3, e4⟩)) (fun e4 => ws_s (Or.inr ⟨by decide, fun q => by have := q.2.2.2; omega⟩)))
    · rcases hv with ⟨rfl, ok⟩ | ⟨hv, no⟩
      · refine ws_i (fun _ => ws_l ?_) (fun q => absurd rfl q)
        obtain ⟨ok1, ok2, ok3, ok4⟩ := id ok
        refine ws_b (k_toThing n hn α _ i m ok1.1 ok4) (fun β hβ => ws_l (ws_l (ws_l (ws_l (ws_l ?_)))))
        obtain ⟨hWC, hwf⟩ := hβ
        replace hWC : WC β (hp_R α 612 x) (clW i m) := hWC
        have hWβ := WR_wf h4 hC hwf
        have hPβ := RWL_wf hP hwf
        have k1 : pkp x α β := pkp_wf hwf
        rw [hwf.1, h1, h6, hWβ.2.1.1]
        refine ws_hc (k_headOf n hn w β (f 1) (by omega) hWβ.2.1.1 (lpA w a.toInt.toNat) (EL f a.toInt.toNat) (WR_LM hWβ hC (by omega)) m.toInt.toNat (by rw [EL_len]; omega) m (by omega)) (fun hd γ hγ => ?_)
        obtain ⟨hhd, hjf⟩ := hγ
        replace hhd : hd = _ := hhd
        have hWγ := WR_jf hWβ hC hjf
        have hPγ := RWL_jf hPβ hjf
        have hWCγ := WC_jfc hWC hjf
        have eRγ : hp_R γ = hp_R α := hjf.1.trans hwf.1
        have k2 : pkp x α γ := pkp_tr k1 (pkp_jf hjf)
        refine ws_b (k_whyIn n hn γ _ (x + 919) i.toInt.toNat m.toInt.toNat hWCγ (pdl f) hPγ (f 1) (by omega) mark hd) (fun wv hwv => ?_)
        rw [pdl_len, hhd, WIN_c _ _ _ _ _ _ (fun j hj => pdl_gD f hj)] at hwv
        rcases WIN_v (f 1) (fun j => f (8 + j)) (f 2).toInt.toNat mark i.toInt.toNat m.toInt.toNat (TMK (f 1) (EL f a.toInt.toNat) 0 m.toInt.toNat) with ⟨z, zc⟩ | ⟨z, zc⟩
        · refine ws_i (fun _ => ws_l (ws_l (ws_l ?_))) (fun q => absurd (hwv.trans z) q)
          have okk : clOK f a i m mark what := ⟨⟨e, e2⟩, z2, ok, z⟩
          have hWl : (clW i m).length = (wyT 31 i.toInt.toNat 0 m.toInt.toNat).length := by unfold clW; rw [List.length_reverse]
          have hW64 : (clW i m).length ≤ 64 := Nat.le_trans (clW_len i m) (by decide)
          rw [eRγ, h1, h14]
          obtain ⟨l0, hl0⟩ := RWL_any (α := γ) (a := x + 939) (by rw [hjf.2.2.2.2.1, hwf.2.2.2.2.1 301 _ (fun z => by omega)]; exact h39.1) (by rw [hjf.2.2.2.2.1, hwf.2.2.2.2.1 301 _ (fun z => by omega)]; exact h39.2)
          refine ws_b (k_marksAlong n hn w (x + 939) _ γ (f 1) (by omega) hWγ.2.1.1 (lpA w a.toInt.toNat) (EL f a.toInt.toNat) (WR_LM hWγ hC (by omega)) _ hWCγ hW64 (fun q hq => ?_) l0 hl0) (fun δ hδ => ?_)
          · have := wyT_rin (N := m.toInt.toNat) (I := i.toInt.toNat) (by omega) q hq
            rw [EL_len]; omega
          obtain ⟨hL, hqf⟩ := hδ
          have hWCδ := WC_qf hWCγ hqf
          have eRδ : hp_R δ = hp_R α := hqf.1.trans eRγ
          have hPδ := RWL_qf hPγ hqf (by omega) (by rw [eRγ, h3, h40]; omega)
          have h550 : hp_I δ 550 w = f 1 := by rw [hqf.2.2.2.2.1 550 w (fun z => absurd z.2 (by decide))]; exact hWγ.2.1.1
          have hLMδ := LM_qf (WR_LM hWγ hC (r := a.toInt.toNat) (by omega)) hqf
          have k3 : pkp x α δ := pkp_tr k2 (pkp_qf hqf (by omega) (by rw [eRγ, h40]; omega))
          have hil : i.toInt.toNat < (EL f a.toInt.toNat).length := by rw [EL_len]; omega
          refine ws_b (k_markAt n hLMδ i.toInt.toNat i (by omega) hil) (fun em hem => ?_)
          replace hem : em = EM f a.toInt.toNat i.toInt.toNat := by
            have := EL_get f a.toInt.toNat i.toInt.toNat (by omega)
            rw [List.getElem?_eq_getElem hil] at this
            rw [hem]; exact Option.some.inj this
          have hXl : (clW i m).length ≤ (mkl (f 1) (EL f a.toInt.toNat) (clW i m)).length := by rw [mkl_len]; exact Nat.le_refl _
          have hPl : (clW i m).length ≤ (pdl f).length := by rw [pdl_len, hWl]; omega
          have hxs : ∀ j, j < (clW i m).length → (mkl (f 1) (EL f a.toInt.toNat) (clW i m)).getD j 0 = (fun j => (inL f a i m).getD j 0) j := fun j _ => rfl
          have hys : ∀ j, j < (clW i m).length → (pdl f).getD j 0 = (fun j => f (8 + j)) j := fun j hj => pdl_gD f (by rw [hWl] at hj; omega)
          unfold f_X11_clashingStep
          refine ws_b (k_clashingStep_L n (by rw [eRδ]; exact h1) h550 (by omega) (by rw [eRδ]) (by rw [eRδ]; exact h14) (by rw [eRδ]; exact h6) hWCδ hW64 hL hPδ hXl hPl hxs hys em mark n 0 em mark 0 rfl (Nat.zero_le _) (by omega) rfl rfl) (fun st hst => ?_)
          rw [Nat.sub_zero, hem] at hst
          unfold chA
          rw [if_pos okk]
          cases hq : clK (f 1) (fun j => (inL f a i m).getD j 0) (fun j => f (8 + j)) (clW i m) (EM f a.toInt.toNat i.toInt.toNat) mark (clW i m).length 0 with
          | none =>
            have hs := hst.2 hq
            refine ws_le (fun c => by rw [hs, lt0] at c; exact absurd c (by decide)) (fun _ => ?_)
            exact ws_hc (k_refuse n δ x 5) (fun z γ hz => ws_s ⟨hz.1, by rw [show γ = hp_sI δ 600 x 5 from hz.2]; exact pkp_tr k3 pkp_st⟩)
          | some q =>
            have hs := hst.1 q hq
            have hql := clK_lt _ _ _ _ _ _ _ _ _ hq
            have hqI : st.toInt = (q : Int) := by rw [hs, Int32.toInt_ofNat_of_lt (by omega)]
            refine ws_le (fun _ => ?_) (fun c => by rw [lt0] at c; omega)
            refine ws_i (fun c0 => ws_hc (k_answer n δ x st) (fun z γ hz => ws_s ⟨?_, by rw [show γ = hp_sI δ 600 x 0 from hz.2]; exact pkp_tr k3 pkp_st⟩)) (fun c0 => ?_)
            · show z = _
              rw [show z = st from hz.1, hs]
              show _ = clX _ _ _ _ _ _ _ q
              unfold clX
              rw [if_pos c0]
            · unfold f_X11_clash_J175 f_X11_clash_J193
              have n0 : ¬ what.toInt = 0 := fun q => c0 (Int32.toInt_inj.mp (by rw [q]; rfl))
              have w1 : ∀ c : Int32, ∀ j : Int, c.toInt = j → (what = c ↔ what.toInt = j) := fun c j hc => ⟨fun q => by rw [q]; exact hc, fun q => Int32.toInt_inj.mp (by rw [q, hc])⟩
              have i1 := w1 1 1 (by decide)
              have i2 := w1 2 2 (by decide)
              have i3 := w1 3 3 (by decide)
              refine ws_lt (fun c => ?_) (fun c => ?_)
              · rw [t2] at c
                refine ws_i (fun _ => ws_l (ws_l (ws_l (ws_l ?_)))) (fun q => absurd rfl q)
                rw [eRδ, h6, h1, h550]
                refine ws_i (fun _ => ?_) (fun q => absurd rfl q)
                refine ws_m (k_clash_224 n hn (by rw [eRδ]) (by omega) hWCδ hW64 (x + 919) hPδ hPl hys mark what q st hqI (by omega)) (fun res hres => ⟨?_, by rw [hres.2]; exact pkp_tr k3 pkp_st⟩)
                rw [hres.1]
                show _ = clX _ _ _ _ _ _ _ q
                unfold clX
                have n1 : ¬ what = 1 := fun q => by have := i1.mp q; omega
                have n2 : ¬ what = 2 := fun q => by have := i2.mp q; omega
                rw [if_neg c0, if_neg n1, if_neg n2]
                by_cases c3 : what = 3
                · rw [if_pos (show what = 1 ∨ what = 3 from Or.inr c3), if_pos c3]
                · have n13 : ¬ (what = 1 ∨ what = 3) := fun q => q.elim n1 c3
                  rw [if_neg n13, if_neg c3]
              · rw [t2] at c
                refine ws_i (fun q => absurd q (by decide)) (fun _ => ws_l (ws_l (ws_l (ws_l ?_))))
                rw [eRδ, h14, h1, h550]
                refine ws_i (fun q => absurd q (by decide)) (fun _ => ?_)
                refine ws_b (k_markAt n hLMδ i.toInt.toNat i (by omega) hil) (fun em2 hem2 => ?_)
                replace hem2 : em2 = EM f a.toInt.toNat i.toInt.toNat := by
                  have := EL_get f a.toInt.toNat i.toInt.toNat (by omega)
                  rw [List.getElem?_eq_getElem hil] at this
                  rw [hem2]; exact Option.some.inj this
                rw [hem2]
                refine ws_m (k_clash_224 n hn (by rw [eRδ]) (by omega) hWCδ hW64 (x + 939) hL hXl hxs (EM f a.toInt.toNat i.toInt.toNat) what q st hqI (by omega)) (fun res hres => ⟨?_, by rw [hres.2]; exact pkp_tr k3 pkp_st⟩)
                rw [hres.1]
                show _ = clX _ _ _ _ _ _ _ q
                unfold clX
                rw [if_neg c0]
                by_cases c1 : what = 1
                · rw [if_pos (show what = 1 ∨ what = 3 from Or.inl c1), if_pos c1]
                · have n13 : ¬ (what = 1 ∨ what = 3) := fun q => q.elim c1 (fun q => by have := i3.mp q; omega)
                  have y2 : what = 2 := i2.mpr (by have : ¬ what.toInt = 1 := fun q => c1 (i1.mpr q); omega)
                  rw [if_neg n13, if_neg c1, if_pos y2]
        · have no : ¬ clOK f a i m mark what := fun q => z q.2.2.2
          exact ws_i (fun q => absurd (hwv.symm.trans q) z) (fun _ => bad γ 5 k2 no)
      · exact ws_i (fun q => absurd q hv) (fun _ => bad α v pkp_rf (fun q => no q.2.2.1))
  · rw [if_neg hr] at ho
    subst ho
    have no : ¬ clOK f a i m mark what := fun q => hr q.2.2.1.2.1
    refine ws_hN ?_
    unfold f_X11_wrongInclusion
    refine ws_b (S := fun _ => True) (ws_hN (ws_lt (fun _ => ws_s trivial) (fun _ => ws_le (fun _ => ws_s trivial) (fun _ => ws_s trivial)))) (fun v _ => ws_i (fun _ => bad α v pkp_rf no) (fun _ => bad α v pkp_rf no))
end JN9_42
section JN9_43
set_option maxRecDepth 100000
theorem in_X3_300 (α : hp_T) (h a : Nat) (ha : a < h) : hp_R (F_X3_init α h a) 300 (h + 2) = h + 3 := by
  rw [(tl_X3_5 α h a (h + 2) (by omega) (by omega)).2.2.2.1 300]
  exact (fd_X5_300 (F_X3_init_4 α h a) (h + (3)) (h + (2)) (by omega)).trans (by omega)
theorem in_X3_450 (α : hp_T) (h a : Nat) (ha : a < h) : hp_R (F_X3_init α h a) 450 (h + 4) = h + 5 ∧ hp_R (F_X3_init α h a) 451 (h + 4) = h + 6 ∧ hp_R (F_X3_init α h a) 452 (h + 4) = h + 7 := by
  have q := tl_X3_8 α h a (h + 4) (by omega) (by omega)
  refine ⟨?_, ?_, ?_⟩
  · rw [q.2.2.2.1 450]
    exact (fd_X8_450 (F_X3_init_7 α h a) (h + (5)) (h + (4)) (by omega)).trans (by omega)
  · rw [q.2.2.2.1 451]
    exact (fd_X8_451 (F_X3_init_7 α h a) (h + (5)) (h + (4)) (by omega)).trans (by omega)
  · rw [q.2.2.2.1 452]
    exact (fd_X8_452 (F_X3_init_7 α h a) (h + (5)) (h + (4)) (by omega)).trans (by omega)
theorem XHR_0 (α : hp_T) (x : Nat) (hX : XSH (F_X11_init α (x + 1) x) x) : XHR (F_X11_init α (x + 1) x) x := by
  have ha : x < x + 1 := by omega
  have q : ∀ b, x + 944 ≤ b → b < x + 955 → ∀ φ, hp_R (F_X11_init α (x + 1) x) φ b = hp_R (F_X3_init (F_X11_init_41 α (x + 1) x) (x + 1 + 944) (x + 1 + 943)) φ b := fun b h1 h2 φ => (tl_X11_42 α (x + 1) x b (by omega) (by omega)).2.2.2.1 φ
  have w := in_X3_450 (F_X11_init_41 α (x + 1) x) (x + 1 + 944) (x + 1 + 943) (by omega)
  refine ⟨⟨hX.2.2.2.2.2, ?_, ?_, ?_, ?_, ?_, ?_⟩, Or.inl ⟨?_, ?_⟩, ?_, ?_⟩
  · rw [q _ (by omega) (by omega), show x + 944 = x + 1 + 943 by omega]
    exact (fd_X3_201 _ _ _ (by omega)).trans (by omega)
  · rw [q _ (by omega) (by omega), show x + 944 + 3 = x + 1 + 944 + 2 by omega]
    exact (in_X3_300 _ _ _ (by omega)).trans (by omega)
  · rw [q _ (by omega) (by omega), show x + 944 = x + 1 + 943 by omega]
    exact (fd_X3_202 _ _ _ (by omega)).trans (by omega)
  · rw [q _ (by omega) (by omega), show x + 944 + 5 = x + 1 + 944 + 4 by omega]
    exact w.1.trans (by omega)
  · rw [q _ (by omega) (by omega), show x + 944 + 5 = x + 1 + 944 + 4 by omega]
    exact w.2.1.trans (by omega)
  · rw [q _ (by omega) (by omega), show x + 944 + 5 = x + 1 + 944 + 4 by omega]
    exact w.2.2.trans (by omega)
  · rw [fd_X11_608 α (x + 1) x ha]
  · rw [fd_X11_609 α (x + 1) x ha]
  · have r := tl_X11_21 α (x + 1) x (x + 926) (by omega) (by omega)
    have f : hp_R (F_X5_init (F_X11_init_20 α (x + 1) x) (x + 1 + 926) (x + 1 + 925)) 300 (x + 1 + 925) = _ := fd_X5_300 _ _ _ (by omega)
    rw [r.2.2.2.1 300, show x + 926 = x + 1 + 925 by omega]
    exact f.trans (by omega)
  · have r := tl_X11_24 α (x + 1) x (x + 928) (by omega) (by omega)
    have f : hp_R (F_X5_init (F_X11_init_23 α (x + 1) x) (x + 1 + 928) (x + 1 + 927)) 300 (x + 1 + 927) = _ := fd_X5_300 _ _ _ (by omega)
    rw [r.2.2.2.1 300, show x + 928 = x + 1 + 927 by omega]
    exact f.trans (by omega)
theorem FLX_0 (α : hp_T) (x : Nat) (σ : ms_T) (hσ : ms_i0 σ) : FLX (F_X11_init α (x + 1) x) x σ := by
  obtain ⟨s1, -⟩ := hσ
  have q := tl_X11_42 α (x + 1) x (x + 944) (by omega) (by omega)
  have f4 : hp_I (F_X3_init (F_X11_init_41 α (x + 1) x) (x + 1 + 944) (x + 1 + 943)) 204 (x + 1 + 943) = _ := fd_X3_204 _ _ _ (by omega)
  have f5 : hp_I (F_X3_init (F_X11_init_41 α (x + 1) x) (x + 1 + 944) (x + 1 + 943)) 205 (x + 1 + 943) = _ := fd_X3_205 _ _ _ (by omega)
  refine ⟨?_, ?_⟩
  · rw [q.2.1 204, s1 668, if_pos (by decide), show x + 944 = x + 1 + 943 by omega]
    exact f4
  · rw [q.2.1 205, s1 669, if_pos (by decide), show x + 944 = x + 1 + 943 by omega]
    exact f5
def CZ (α : hp_T) (x : Nat) (σ : ms_T) : Prop := XHR α x ∧ (flP → FLX α x σ)
theorem CZ_0 (α : hp_T) (x : Nat) (σ : ms_T) (hσ : ms_i0 σ) (hX : XSH (F_X11_init α (x + 1) x) x) : CZ (F_X11_init α (x + 1) x) x σ := ⟨XHR_0 α x hX, fun _ => FLX_0 α x σ hσ⟩
def okC (φ : Nat) : Bool := [200, 201, 202, 207, 300, 450, 451, 452, 500, 608, 609].contains φ
def inC (x b : Nat) : Prop := b = x ∨ b = x + 926 ∨ b = x + 928 ∨ b = x + 944 ∨ b = x + 947 ∨ b = x + 949 ∨ b = x + 953
theorem XHR_f {α β : hp_T} {x : Nat} (h : XHR α x) (eR : ∀ φ b, inC x b → okC φ = true → hp_R β φ b = hp_R α φ b) : XHR β x := by
  obtain ⟨⟨⟨r1, r2, r3⟩, r4, r5, r6, r7, r8, r9⟩, h2, h3, h4⟩ := h
  refine ⟨⟨⟨?_, ?_, ?_⟩, ?_, ?_, ?_, ?_, ?_, ?_⟩, ?_, ?_, ?_⟩
  · rw [eR 200 _ (by unfold inC; omega) rfl]; exact r1
  · rw [eR 207 _ (by unfold inC; omega) rfl]; exact r2
  · rw [eR 500 _ (by unfold inC; omega) rfl]; exact r3
  · rw [eR 201 _ (by unfold inC; omega) rfl]; exact r4
  · rw [eR 300 _ (by unfold inC; omega) rfl]; exact r5
  · rw [eR 202 _ (by unfold inC; omega) rfl]; exact r6
  · rw [eR 450 _ (by unfold inC; omega) rfl]; exact r7
  · rw [eR 451 _ (by unfold inC; omega) rfl]; exact r8
  · rw [eR 452 _ (by unfold inC; omega) rfl]; exact r9
  · rw [eR 608 _ (by unfold inC; omega) rfl, eR 609 _ (by unfold inC; omega) rfl]; exact h2
  · rw [eR 300 _ (by unfold inC; omega) rfl]; exact h3
  · rw [eR 300 _ (by unfold inC; omega) rfl]; exact h4
theorem CZ_C {α β : hp_T} {x : Nat} {σ : ms_T} (g : GC α) (hk : hp_K α x = 12) (hX : XSH α x) (h : CZ α x σ) (c : ∀ q, hp_K α q ≠ 0 → saC α β q) : CZ β x σ := by
  obtain ⟨z1, z2, z3, z4, z5, z6, z7, z8⟩ := id hX
  obtain ⟨⟨⟨r1, r2, r3⟩, r4, r5, r6, r7, r8, r9⟩, h2, h3, h4⟩ := id h.1
  have k44 : hp_K α (x + 944) = 4 := gkR g hk z5 rfl (by decide) (by decide)
  have k26 : hp_K α (x + 926) = 6 ∧ hp_K α (x + 928) = 6 := by
    rcases h2 with q | q
    · exact ⟨gkR g hk q.1 rfl (by decide) (by decide), gkR g hk q.2 rfl (by decide) (by decide)⟩
    · exact ⟨gkR g hk q.2 rfl (by decide) (by decide), gkR g hk q.1 rfl (by decide) (by decide)⟩
  have hK : ∀ b, inC x b → hp_K α b ≠ 0 := by
    intro b hb
    rcases hb with e | e | e | e | e | e | e
    · rw [e]; exact nz hk (by decide)
    · rw [e]; exact nz k26.1 (by decide)
    · rw [e]; exact nz k26.2 (by decide)
    · rw [e]; exact nz k44 (by decide)
    · rw [e]; exact nz (gkR g k44 r4 rfl (by decide) (by decide)) (by decide)
    · rw [e]; exact nz (gkR g k44 r6 rfl (by decide) (by decide)) (by decide)
    · rw [e]; exact nz (gkR g k44 r2 rfl (by decide) (by decide)) (by decide)
  have c4 := c (x + 944) (nz k44 (by decide))
  refine ⟨XHR_f h.1 (fun φ b p r => (c b (hK b p)).2.2.1 φ), fun p => ⟨?_, ?_⟩⟩
  · rw [c4.2.1 204 (by decide)]; exact (h.2 p).1
  · rw [c4.2.1 205 (by decide)]; exact (h.2 p).2
def PRX (α : hp_T) (x : Nat) : Prop := hp_R α 614 x = x + 939 ∧ hp_R α 300 (x + 939) = x + 940 ∧ hp_R α 300 (x + 919) = x + 920
def CX (α : hp_T) (x : Nat) (σ : ms_T) : Prop := CZ α x σ ∧ PRX α x ∧ PDX α x (ms_E σ 40)
theorem PRX_0 (α : hp_T) (x : Nat) : PRX (F_X11_init α (x + 1) x) x := by
  have ha : x < x + 1 := by omega
  have f : hp_R (F_X5_init (F_X11_init_35 α (x + 1) x) (x + 1 + 939) (x + 1 + 938)) 300 (x + 1 + 938) = _ := fd_X5_300 _ _ _ (by omega)
  have g : hp_R (F_X5_init (F_X11_init_8 α (x + 1) x) (x + 1 + 919) (x + 1 + 918)) 300 (x + 1 + 918) = _ := fd_X5_300 _ _ _ (by omega)
  refine ⟨?_, ?_, ?_⟩
  · rw [fd_X11_614 α (x + 1) x ha]
  · rw [(tl_X11_36 α (x + 1) x (x + 939) (by omega) (by omega)).2.2.2.1 300, show x + 939 = x + 1 + 938 by omega]
    exact f.trans (by omega)
  · rw [(tl_X11_9 α (x + 1) x (x + 919) (by omega) (by omega)).2.2.2.1 300, show x + 919 = x + 1 + 918 by omega]
    exact g.trans (by omega)
theorem PDX_0 (α : hp_T) (x : Nat) (σ : ms_T) (hσ : ms_i0 σ) : PDX (F_X11_init α (x + 1) x) x (ms_E σ 40) := by
  obtain ⟨-, -, -, -, s5⟩ := hσ
  have e2 : ms_E σ 40 2 = 0 := s5 2 (by omega) (by omega)
  have e : pdl (ms_E σ 40) = [] := by
    unfold pdl
    rw [e2]; rfl
  have g : hp_I (F_X5_init (F_X11_init_8 α (x + 1) x) (x + 1 + 919) (x + 1 + 918)) 301 (x + 1 + 918) = _ := fd_X5_301 _ _ _ (by omega)
  have z : hp_I (F_X11_init α (x + 1) x) 301 (x + 919) = 0 := by
    rw [(tl_X11_9 α (x + 1) x (x + 919) (by omega) (by omega)).2.1 301, show x + 919 = x + 1 + 918 by omega]
    exact g
  unfold PDX
  rw [e]
  exact ⟨by simp, by rw [z]; rfl, fun k hk => absurd hk (by simp)⟩
theorem CX_0 (α : hp_T) (x : Nat) (σ : ms_T) (hσ : ms_i0 σ) (hX : XSH (F_X11_init α (x + 1) x) x) : CX (F_X11_init α (x + 1) x) x σ := ⟨CZ_0 α x σ hσ hX, PRX_0 α x, PDX_0 α x σ hσ⟩
theorem PRX_f {α β : hp_T} {x : Nat} (h : PRX α x) (e1 : hp_R β 614 x = hp_R α 614 x) (e2 : hp_R β 300 (x + 939) = hp_R α 300 (x + 939)) (e3 : hp_R β 300 (x + 919) = hp_R α 300 (x + 919)) : PRX β x := ⟨e1.trans h.1, e2.trans h.2.1, e3.trans h.2.2⟩
theorem PDX_nz {α : hp_T} {x : Nat} (g : GC α) (hk : hp_K α x = 12) (hX : XSH α x) : hp_K α (x + 919) = 6 ∧ hp_K α (x + 920) = 20 := by
  obtain ⟨z1, z2, -⟩ := hX
  have k := gkR g hk z1 rfl (by decide) (by decide)
  exact ⟨k, gkR g k z2 rfl (by decide) (by decide)⟩
theorem CX_C {α β : hp_T} {x : Nat} {σ : ms_T} (g : GC α) (hk : hp_K α x = 12) (hX : XSH α x) (h : CX α x σ) (c : ∀ q, hp_K α q ≠ 0 → saC α β q) : CX β x σ := by
  have k := PDX_nz g hk hX
  have k39 : hp_K α (x + 939) = 6 := gkR g hk h.2.1.1 rfl (by decide) (by decide)
  have c0 := c x (nz hk (by decide))
  have c9 := c (x + 919) (nz k.1 (by decide))
  have c20 := c (x + 920) (nz k.2 (by decide))
  have c39 := c (x + 939) (nz k39 (by decide))
  exact ⟨CZ_C g hk hX h.1 c, PRX_f h.2.1 (c0.2.2.1 614) (c39.2.2.1 300) (c9.2.2.1 300), PDX_k h.2.2 h.2.1.2.2 ⟨c9.2.1 301 (by decide), c9.2.2.1 300, fun j => c20.2.2.2.2.1 20 j (by decide)⟩⟩
end JN9_43
section JN9_44
set_option maxRecDepth 100000
def fuA (a b w : Int32) : Int32 := if w = 0 then a else if w = 1 then b else -1
theorem fu_eq {α : hp_T} {x : Nat} {σ : ms_T} (h : FLX α x σ) (w : Int32) : fuA (hp_I α 204 (x + 944)) (hp_I α 205 (x + 944)) w = fuA (ms_I σ 668) (ms_I σ 669) w := by rw [h.1, h.2]
theorem k_fault (n : Nat) (α : hp_T) (x : Nat) (h6 : hp_R α 616 x = x + 944) (w : Int32) : ws (f_X11_fault n α x w) (fun r => r = fuA (hp_I α 204 (x + 944)) (hp_I α 205 (x + 944)) w) := by
  unfold f_X11_fault fuA
  by_cases h0 : w = 0
  · rw [if_pos h0, if_pos h0]
    refine ws_l (ws_l (ws_s ?_))
    rw [h6]
  · rw [if_neg h0, if_neg h0]
    by_cases h1 : w = 1
    · rw [if_pos h1, if_pos h1]
      refine ws_l (ws_l (ws_s ?_))
      rw [h6]
    · rw [if_neg h1, if_neg h1]
      exact ws_s rfl
theorem v_fault (n : Nat) (σ : ms_T) (w : Int32) : pr (f_X12_fault n σ w) (fun res => res.1 = fuA (ms_I σ 668) (ms_I σ 669) w) := by
  unfold f_X12_fault fuA
  refine pr_l ?_
  by_cases h0 : w = 0
  · rw [if_pos h0, if_pos h0]
    exact pr_s rfl
  · rw [if_neg h0, if_neg h0]
    by_cases h1 : w = 1
    · rw [if_pos h1, if_pos h1]
      exact pr_s rfl
    · rw [if_neg h1, if_neg h1]
      exact pr_s rfl
end JN9_44
section JN9_45
set_option maxRecDepth 100000
def qq (h : Nat) : Nat := h * h + 3 * h
def qN (M h : Nat) : Nat := qq h % M
def bMx (M a b : Nat) : Nat := (qq ((a + 17) % M) + b + 7) % M
def rN (M : Nat) (x : Int) : Nat := (x % (M : Int)).toNat
theorem rN_v {M : Nat} (hM : 0 < M) (x : Int) : ((rN M x : Nat) : Int) = x % (M : Int) ∧ rN M x < M := by
  have h0 := Int.emod_nonneg x (b := (M : Int)) (by omega)
  have h1 := Int.emod_lt_of_pos x (b := (M : Int)) (by omega)
  unfold rN
  omega
theorem md_iff {M : Nat} {x t : Int} (h0 : 0 ≤ t) (h1 : t < (M : Int)) : x % (M : Int) = t ↔ (M : Int) ∣ x - t := by
  constructor
  · intro h
    have := Int.mul_ediv_add_emod x (M : Int)
    exact ⟨x / (M : Int), by omega⟩
  · intro ⟨k, hk⟩
    have e : x = t + (M : Int) * k := by omega
    rw [e, Int.add_mul_emod_self_left, Int.emod_eq_of_lt h0 h1]
theorem md_self {M : Nat} (x : Int) : (M : Int) ∣ x - x % (M : Int) := by
  have := Int.mul_ediv_add_emod x (M : Int)
  exact ⟨x / (M : Int), by omega⟩
theorem dv_add {M : Nat} {a b c : Int} (h : (M : Int) ∣ a) (e : b - c = a ∨ b - c = -a) : ((M : Int) ∣ b) ↔ (M : Int) ∣ c := by
  obtain ⟨k, hk⟩ := h
  constructor
  · intro ⟨q, hq⟩
    rcases e with e | e
    · exact ⟨q - k, by rw [Int.mul_sub]; omega⟩
    · exact ⟨q + k, by rw [Int.mul_add]; omega⟩
  · intro ⟨q, hq⟩
    rcases e with e | e
    · exact ⟨q + k, by rw [Int.mul_add]; omega⟩
    · exact ⟨q - k, by rw [Int.mul_sub]; omega⟩
theorem nm_iff {M x t : Nat} : x % M = t ↔ ((x : Nat) : Int) % (M : Int) = (t : Int) := by
  constructor
  · intro h
    rw [← h]; rfl
  · intro h
    have h2 : ((x % M : Nat) : Int) = (t : Int) := h
    omega
theorem bMx_sec {M : Nat} (hM : 0 < M) {a y t : Nat} (hy : y < M) (ht : t < M) : bMx M a y = t ↔ y = rN M ((t : Int) - (bMx M a 0 : Nat)) := by
  obtain ⟨r1, r2⟩ := rN_v hM ((t : Int) - (bMx M a 0 : Nat))
  have e1 : bMx M a y = t ↔ (M : Int) ∣ ((qq ((a + 17) % M) + y + 7 : Nat) : Int) - t := by
    rw [← md_iff (by omega) (by omega)]
    exact nm_iff
  have e0 : ((bMx M a 0 : Nat) : Int) = ((qq ((a + 17) % M) + 7 : Nat) : Int) % (M : Int) := by
    unfold bMx
    rw [Nat.add_zero]; rfl
  have d0 := md_self (M := M) ((qq ((a + 17) % M) + 7 : Nat) : Int)
  rw [← e0] at d0
  have d1 := md_self (M := M) ((t : Int) - (bMx M a 0 : Nat))
  rw [← r1] at d1
  have s1 := dv_add (b := ((qq ((a + 17) % M) + y + 7 : Nat) : Int) - t) (c := (y : Int) + (bMx M a 0 : Nat) - t) d0 (Or.inl (by omega))
  have s2 := dv_add (b := (y : Int) + (bMx M a 0 : Nat) - t) (c := (y : Int) - (rN M ((t : Int) - (bMx M a 0 : Nat)) : Nat)) d1 (Or.inr (by omega))
  rw [e1, s1, s2]
  constructor
  · intro h
    have := (md_iff (M := M) (x := (y : Int)) (t := (rN M ((t : Int) - (bMx M a 0 : Nat)) : Nat)) (by omega) (by omega)).mpr h
    rw [Int.emod_eq_of_lt (by omega) (by omega)] at this
    omega
  · intro h
    rw [← h, Int.sub_self]
    exact ⟨0, by omega⟩
theorem bMx_fst {M : Nat} (hM : 0 < M) {a b t : Nat} (ht : t < M) : bMx M a b = t ↔ qN M ((a + 17) % M) = rN M ((t : Int) - b - 7) := by
  obtain ⟨r1, r2⟩ := rN_v hM ((t : Int) - b - 7)
  have e1 : bMx M a b = t ↔ (M : Int) ∣ ((qq ((a + 17) % M) + b + 7 : Nat) : Int) - t := by
    rw [← md_iff (by omega) (by omega)]
    exact nm_iff
  have d1 := md_self (M := M) ((t : Int) - b - 7)
  rw [← r1] at d1
  have e2 : qN M ((a + 17) % M) = rN M ((t : Int) - b - 7) ↔ (M : Int) ∣ ((qq ((a + 17) % M) : Nat) : Int) - (rN M ((t : Int) - b - 7) : Nat) := by
    rw [← md_iff (by omega) (by omega)]
    exact nm_iff
  rw [e1, e2]
  exact dv_add d1 (Or.inr (by omega))
theorem hN_iff {M : Nat} (hM : 0 < M) {y h : Nat} (hy : y < M) (hh : h < M) : (y + 17) % M = h ↔ y = rN M ((h : Int) - 17) := by
  obtain ⟨r1, r2⟩ := rN_v hM ((h : Int) - 17)
  have d1 := md_self (M := M) ((h : Int) - 17)
  rw [← r1] at d1
  have e1 : (y + 17) % M = h ↔ (M : Int) ∣ ((y + 17 : Nat) : Int) - h := by
    rw [← md_iff (by omega) (by omega)]
    exact nm_iff
  have s1 := dv_add (b := ((y + 17 : Nat) : Int) - h) (c := (y : Int) - (rN M ((h : Int) - 17) : Nat)) d1 (Or.inr (by omega))
  rw [e1, s1]
  constructor
  · intro g
    have := (md_iff (M := M) (x := (y : Int)) (t := (rN M ((h : Int) - 17) : Nat)) (by omega) (by omega)).mpr g
    rw [Int.emod_eq_of_lt (by omega) (by omega)] at this
    omega
  · intro g
    rw [← g, Int.sub_self]
    exact ⟨0, by omega⟩
def rl (M t : Nat) : Nat → List Nat
  | 0 => []
  | d + 1 => if qN M (M - (d + 1)) = t then (M - (d + 1)) :: rl M t d else rl M t d
theorem mem_rl (M t : Nat) : ∀ (d h : Nat), d ≤ M → (h ∈ rl M t d ↔ M - d ≤ h ∧ h < M ∧ qN M h = t) := by
  intro d
  induction d with
  | zero =>
    intro h _
    rw [rl]
    exact ⟨fun q => (by cases q), fun q => absurd q.2.1 (by omega)⟩
  | succ d ih =>
    intro h hd
    have := ih h (by omega)
    rw [rl]
    by_cases c : qN M (M - (d + 1)) = t
    · rw [if_pos c, List.mem_cons, this]
      constructor
      · rintro (e | ⟨a1, a2, a3⟩)
        · rw [e]; exact ⟨Nat.le_refl _, by omega, c⟩
        · exact ⟨by omega, a2, a3⟩
      · rintro ⟨a1, a2, a3⟩
        by_cases e : h = M - (d + 1)
        · exact Or.inl e
        · exact Or.inr ⟨by omega, a2, a3⟩
    · rw [if_neg c, this]
      constructor
      · rintro ⟨a1, a2, a3⟩; exact ⟨by omega, a2, a3⟩
      · rintro ⟨a1, a2, a3⟩
        refine ⟨?_, a2, a3⟩
        by_cases e : h = M - (d + 1)
        · rw [e] at a3; exact absurd a3 c
        · omega
theorem rl_pw (M t : Nat) : ∀ d, d ≤ M → List.Pairwise (· < ·) (rl M t d) := by
  intro d
  induction d with
  | zero => intro _; rw [rl]; exact List.Pairwise.nil
  | succ d ih =>
    intro hd
    rw [rl]
    split
    · refine List.Pairwise.cons (fun h hh => ?_) (ih (by omega))
      have := (mem_rl M t d h (by omega)).mp hh
      omega
    · exact ih (by omega)
theorem rl_cons (M t : Nat) : ∀ (d h : Nat) (l : List Nat), d ≤ M → rl M t d = h :: l → l = rl M (qN M h) (M - (h + 1)) ∧ qN M h = t ∧ h < M := by
  intro d
  induction d with
  | zero => intro h l _ e; rw [rl] at e; cases e
  | succ d ih =>
    intro h l hd e
    rw [rl] at e
    by_cases c : qN M (M - (d + 1)) = t
    · rw [if_pos c] at e
      injection e with e1 e2
      subst e1
      refine ⟨?_, c, by omega⟩
      rw [c, ← e2, show M - (M - (d + 1) + 1) = d by omega]
    · rw [if_neg c] at e
      exact ih h l (by omega) e
theorem rl_len (M t : Nat) : ∀ d, (rl M t d).length ≤ d := by
  intro d
  induction d with
  | zero => exact Nat.le_refl _
  | succ d ih =>
    rw [rl]
    split
    · rw [List.length_cons]; omega
    · omega
def gbL (M : Nat) (ss : Nat → Bool) (kn : Nat → Nat) : Nat → Nat → List Nat
  | 0, t => [t]
  | k + 1, t => if ss k = true then gbL M ss kn k (rN M ((t : Int) - (bMx M (kn k) 0 : Nat))) else ((rl M (rN M ((t : Int) - kn k - 7)) M).map (fun (h : Nat) => gbL M ss kn k (rN M ((h : Int) - 17)))).flatten
def gF (M : Nat) (ss : Nat → Bool) (kn : Nat → Nat) : Nat → Nat → Nat
  | 0, x => x
  | k + 1, x => if ss k = true then bMx M (kn k) (gF M ss kn k x) else bMx M (gF M ss kn k x) (kn k)
theorem bMx_lt {M : Nat} (hM : 0 < M) (a b : Nat) : bMx M a b < M := Nat.mod_lt _ hM
theorem gF_lt {M : Nat} (hM : 0 < M) (ss : Nat → Bool) (kn : Nat → Nat) : ∀ (k : Nat) {x : Nat}, x < M → gF M ss kn k x < M := by
  intro k
  induction k with
  | zero => intro x h; exact h
  | succ k ih =>
    intro x h
    rw [gF]
    split
    · exact bMx_lt hM _ _
    · exact bMx_lt hM _ _
theorem gb_mem {M : Nat} (hM : 0 < M) (ss : Nat → Bool) (kn : Nat → Nat) : ∀ (k : Nat) {t : Nat}, t < M → (∀ x, x ∈ gbL M ss kn k t ↔ x < M ∧ gF M ss kn k x = t) ∧ List.Pairwise (· ≠ ·) (gbL M ss kn k t) := by
  intro k
  induction k with
  | zero =>
    intro t ht
    refine ⟨fun x => ?_, ?_⟩
    · rw [gbL, gF, List.mem_singleton]
      exact ⟨fun e => ⟨by omega, e⟩, fun e => e.2⟩
    · rw [gbL]; exact List.pairwise_singleton _ _
  | succ k ih =>
    intro t ht
    by_cases hs : ss k = true
    · rw [gbL, if_pos hs]
      obtain ⟨r1, r2⟩ := rN_v hM ((t : Int) - (bMx M (kn k) 0 : Nat))
      obtain ⟨i1, i2⟩ := ih r2
      refine ⟨fun x => ?_, i2⟩
      rw [i1 x, gF, if_pos hs]
      constructor
      · rintro ⟨a1, a2⟩
        exact ⟨a1, (bMx_sec hM (gF_lt hM ss kn k a1) ht).mpr a2⟩
      · rintro ⟨a1, a2⟩
        exact ⟨a1, (bMx_sec hM (gF_lt hM ss kn k a1) ht).mp a2⟩
    · rw [gbL, if_neg hs]
      obtain ⟨r1, r2⟩ := rN_v hM ((t : Int) - kn k - 7)
      have hr : ∀ h, rN M ((h : Int) - 17) < M := fun h => (rN_v hM _).2
      refine ⟨fun x => ?_, ?_⟩
      · rw [List.mem_flatten, gF, if_neg hs]
        constructor
        · rintro ⟨l, hl, hx⟩
          obtain ⟨h, hh, rfl⟩ := List.mem_map.mp hl
          obtain ⟨b1, b2, b3⟩ := (mem_rl M _ M h (Nat.le_refl _)).mp hh
          obtain ⟨a1, a2⟩ := ((ih (hr h)).1 x).mp hx
          refine ⟨a1, (bMx_fst hM ht).mpr ?_⟩
          rw [(hN_iff hM (gF_lt hM ss kn k a1) b2).mpr a2]
          exact b3
        · rintro ⟨a1, a2⟩
          have hh : (gF M ss kn k x + 17) % M < M := Nat.mod_lt _ hM
          refine ⟨_, List.mem_map.mpr ⟨(gF M ss kn k x + 17) % M, (mem_rl M _ M _ (Nat.le_refl _)).mpr ⟨by omega, hh, (bMx_fst hM ht).mp a2⟩, rfl⟩, ?_⟩
          exact ((ih (hr _)).1 x).mpr ⟨a1, (hN_iff hM (gF_lt hM ss kn k a1) hh).mp rfl⟩
      · rw [List.pairwise_flatten]
        refine ⟨fun l hl => ?_, ?_⟩
        · obtain ⟨h, hh, rfl⟩ := List.mem_map.mp hl
          exact (ih (hr h)).2
        · rw [List.pairwise_map]
          refine List.Pairwise.imp_of_mem (fun {h g} mh mg hlt x hx y hy e => ?_) (rl_pw M _ M (Nat.le_refl _))
          obtain ⟨b1, b2, b3⟩ := (mem_rl M _ M h (Nat.le_refl _)).mp mh
          obtain ⟨c1, c2, c3⟩ := (mem_rl M _ M g (Nat.le_refl _)).mp mg
          obtain ⟨a1, a2⟩ := ((ih (hr h)).1 x).mp hx
          obtain ⟨d1, d2⟩ := ((ih (hr g)).1 y).mp hy
          rw [e] at a2
          have q1 := (hN_iff hM (gF_lt hM ss kn k d1) b2).mpr a2
          have q2 := (hN_iff hM (gF_lt hM ss kn k d1) c2).mpr d2
          omega
def tk (e : Nat) (s : Nat × Nat) (x : Nat) : Nat × Nat := if x = e then s else (s.1 + 1, if s.1 = 0 then x else min s.2 x)
theorem tk_comm (e : Nat) (s : Nat × Nat) (x y : Nat) : tk e (tk e s x) y = tk e (tk e s y) x := by
  unfold tk
  by_cases hx : x = e
  · rw [if_pos hx]
    by_cases hy : y = e
    · rw [if_pos hy, if_pos hx]
    · rw [if_neg hy, if_pos hx]
  · by_cases hy : y = e
    · rw [if_neg hx, if_pos hy, if_pos hy, if_neg hx]
    · rw [if_neg hx, if_neg hy, if_neg hy, if_neg hx]
      by_cases h0 : s.1 = 0
      · rw [if_pos h0, if_pos h0]
        simp only [h0, if_neg (show ¬ (0 + 1 = 0) by omega)]
        rw [Nat.min_comm]
      · rw [if_neg h0, if_neg h0]
        simp only [if_neg (show ¬ (s.1 + 1 = 0) by omega)]
        rw [Nat.min_assoc, Nat.min_comm x y, ← Nat.min_assoc]
theorem tk_perm (e : Nat) {l r : List Nat} (hl : List.Pairwise (· ≠ ·) l) (hr : List.Pairwise (· ≠ ·) r) (h : ∀ x, x ∈ l ↔ x ∈ r) (s : Nat × Nat) : l.foldl (tk e) s = r.foldl (tk e) s :=
  ((List.perm_ext_iff_of_nodup hl hr).mpr h).foldl_eq' (fun x _ y _ z => tk_comm e z x y) s
def dnL (P : Nat → Bool) : Nat → List Nat
  | 0 => []
  | n + 1 => if P n = true then n :: dnL P n else dnL P n
theorem mem_dnL (P : Nat → Bool) : ∀ (n x : Nat), x ∈ dnL P n ↔ x < n ∧ P x = true := by
  intro n
  induction n with
  | zero =>
    intro x
    rw [dnL]
    exact ⟨fun q => (by cases q), fun q => absurd q.1 (by omega)⟩
  | succ n ih =>
    intro x
    rw [dnL]
    by_cases c : P n = true
    · rw [if_pos c, List.mem_cons, ih x]
      constructor
      · rintro (e | ⟨a1, a2⟩)
        · rw [e]; exact ⟨by omega, c⟩
        · exact ⟨by omega, a2⟩
      · rintro ⟨a1, a2⟩
        by_cases e : x = n
        · exact Or.inl e
        · exact Or.inr ⟨by omega, a2⟩
    · rw [if_neg c, ih x]
      constructor
      · rintro ⟨a1, a2⟩; exact ⟨by omega, a2⟩
      · rintro ⟨a1, a2⟩
        refine ⟨?_, a2⟩
        by_cases e : x = n
        · rw [e] at a2; exact absurd a2 c
        · omega
theorem dnL_pw (P : Nat → Bool) : ∀ n, List.Pairwise (· ≠ ·) (dnL P n) := by
  intro n
  induction n with
  | zero => rw [dnL]; exact List.Pairwise.nil
  | succ n ih =>
    rw [dnL]
    split
    · exact List.Pairwise.cons (fun x hx => by have := (mem_dnL P n x).mp hx; omega) ih
    · exact ih
theorem gb_fold {M : Nat} (hM : 0 < M) (ss : Nat → Bool) (kn : Nat → Nat) (k e t : Nat) (ht : t < M) (P : Nat → Bool) (hP : ∀ x, x < M → (P x = true ↔ gF M ss kn k x = t)) (s : Nat × Nat) : (gbL M ss kn k t).foldl (tk e) s = (dnL P M).foldl (tk e) s := by
  obtain ⟨h1, h2⟩ := gb_mem hM ss kn k ht
  refine tk_perm e h2 (dnL_pw P M) (fun x => ?_) s
  rw [h1 x, mem_dnL]
  exact ⟨fun q => ⟨q.1, (hP x q.1).mpr q.2⟩, fun q => ⟨q.1, (hP x q.1).mp q.2⟩⟩
end JN9_45
section JN9_46
set_option maxRecDepth 100000
theorem t65521 : (65521 : Int32).toInt = 65521 := by decide
theorem l64_3 : (3 : Int64).toInt = 3 := by decide
theorem l64_7 : (7 : Int64).toInt = 7 := by decide
theorem l64_17 : (17 : Int64).toInt = 17 := by decide
theorem sq_le {h : Int} (h0 : 0 ≤ h) (h1 : h ≤ 65537) : 0 ≤ h * h ∧ h * h ≤ 4295098369 := by
  refine ⟨Int.mul_nonneg h0 h0, ?_⟩
  have := Int.mul_le_mul h1 h1 h0 (by decide)
  exact this
theorem jq {h : Int32} (h0 : 0 ≤ h.toInt) (h1 : h.toInt ≤ 65537) : (((h).toInt64 * (h).toInt64) + ((3 : Int64) * (h).toInt64)).toInt = h.toInt * h.toInt + 3 * h.toInt := by
  obtain ⟨s0, s1⟩ := sq_le h0 h1
  have m1 : ((h).toInt64 * (h).toInt64).toInt = h.toInt * h.toInt := by
    rw [jl_mul (by rw [i64_of]; omega) (by rw [i64_of]; omega), i64_of]
  have m2 : ((3 : Int64) * (h).toInt64).toInt = 3 * h.toInt := by
    rw [jl_mul (by rw [i64_of, l64_3]; omega) (by rw [i64_of, l64_3]; omega), i64_of, l64_3]
  rw [jl_add (by rw [m1, m2]; omega) (by rw [m1, m2]; omega), m1, m2]
theorem qq_I {h : Int32} {H : Nat} (hH : h.toInt = (H : Int)) : h.toInt * h.toInt + 3 * h.toInt = ((qq H : Nat) : Int) := by
  unfold qq
  rw [hH]; push_cast; rfl
theorem tm_N {x : Int} {m : Int32} {M X : Nat} (hm : m.toInt = (M : Int)) (hX : x = (X : Int)) : x.tmod m.toInt = ((X % M : Nat) : Int) := by
  rw [hX, hm, Int.tmod_eq_emod_of_nonneg (by omega)]; rfl
theorem n32 {x : Int64} {X : Nat} (h : x.toInt = (X : Int)) (hX : X < 2147483648) : (x.toInt32).toInt = (X : Int) := by
  rw [Int64.toInt_toInt32, h]
  exact Int.bmod_eq_of_le (by omega) (by omega)
theorem mx_N {m h x : Int32} {M H X : Nat} (hm : m.toInt = (M : Int)) (hM : 0 < M) (hM2 : M ≤ 65521) (hh : h.toInt = (H : Int)) (hH : H ≤ 65537) (hx : x.toInt = (X : Int)) : (mx m h x).toInt = (((qq H + X + 7) % M : Nat) : Int) := by
  obtain ⟨s0, s1⟩ := sq_le (h := h.toInt) (by omega) (by omega)
  have hxb := ib_hi x
  have q := jq (h := h) (by omega) (by omega)
  have a1 : ((((h).toInt64 * (h).toInt64) + ((3 : Int64) * (h).toInt64)) + (x).toInt64).toInt = h.toInt * h.toInt + 3 * h.toInt + x.toInt := by
    rw [jl_add (by rw [q, i64_of]; omega) (by rw [q, i64_of]; omega), q, i64_of]
  have a2 : (((((h).toInt64 * (h).toInt64) + ((3 : Int64) * (h).toInt64)) + (x).toInt64) + (7 : Int64)).toInt = ((qq H + X + 7 : Nat) : Int) := by
    rw [jl_add (by rw [a1, l64_7]; omega) (by rw [a1, l64_7]; omega), a1, l64_7, qq_I hh, hx]; push_cast; rfl
  have hq : ((qq H : Nat) : Int) ≤ 4295295000 := by rw [← qq_I hh]; omega
  unfold mx
  have r := jl_rem (x := ((((h).toInt64 * (h).toInt64) + ((3 : Int64) * (h).toInt64)) + (x).toInt64) + (7 : Int64)) (m := m) (by rw [a2]; omega) (by rw [a2]; omega) (by omega)
  rw [tm_N hm a2] at r
  exact n32 r (by have := Nat.mod_lt (qq H + X + 7) hM; omega)
theorem bt_N {m a b : Int32} {M A X : Nat} (hm : m.toInt = (M : Int)) (hM : 0 < M) (hM2 : M ≤ 65521) (ha : a.toInt = (A : Int)) (hb : b.toInt = (X : Int)) : (bt m a b).toInt = ((bMx M A X : Nat) : Int) := by
  have h := mx_N (m := m) (h := 2) (x := a) (H := 2) hm hM hM2 (by decide) (by decide) ha
  have e : (qq 2 + A + 7) % M = (A + 17) % M := by rw [show qq 2 = 10 from rfl, show 10 + A + 7 = A + 17 by omega]
  rw [e] at h
  have hl := Nat.mod_lt (A + 17) hM
  unfold bt bMx
  exact mx_N hm hM hM2 h (by omega) hb
theorem k_floorMod (n : Nat) (x : Int64) (m : Int32) (hm : 0 < m.toInt) (h0 : -1000000000000 ≤ x.toInt) (h1 : x.toInt ≤ 1000000000000) : ws (f_J9_floorMod_f86c9 n x m.toInt64) (fun r => r.toInt = x.toInt % m.toInt) := by
  have hmb := ib_hi m
  have hl : (x.toInt.tmod m.toInt).natAbs < m.toInt.natAbs := by
    rw [Int.natAbs_tmod]
    exact Nat.mod_lt _ (by omega)
  have hd := Int.mul_tdiv_add_tmod x.toInt m.toInt
  unfold f_J9_floorMod_f86c9
  refine ws_nl (nl_of hm) (ws_ln (fun x2 e2 => ?_))
  have h2 : x2.toInt = x.toInt.tmod m.toInt := by rw [e2]; exact jl_rem h0 h1 hm
  have mb : (m.toInt64).toBitVec.msb = false := by
    rw [BitVec.msb_eq_toInt]
    have : (m.toInt64).toBitVec.toInt = m.toInt := i64_of m
    rw [this]
    exact decide_eq_false (by omega)
  have xb : (x ^^^ m.toInt64).toBitVec.msb = x.toBitVec.msb := by
    rw [Int64.toBitVec_xor, BitVec.msb_xor, mb, Bool.xor_false]
  rw [BitVec.msb_eq_toInt, BitVec.msb_eq_toInt] at xb
  have xi : ((x ^^^ m.toInt64).toInt < 0) ↔ x.toInt < 0 := decide_eq_decide.mp xb
  refine ws_i (fun c => ws_s ?_) (fun c => ws_i (fun d => ws_s ?_) (fun d => ws_s ?_))
  · rw [lg_cmp_ge, Int64.le_iff_toInt_le] at c
    have z : (0 : Int64).toInt = 0 := by decide
    rw [z] at c
    rw [h2]
    exact Int.tmod_eq_emod_of_nonneg (by omega)
  · rw [lg_cmp_eq] at d
    have z : x.toInt.tmod m.toInt = 0 := by rw [← h2, d]; rfl
    rw [h2, z]
    exact (Int.emod_eq_zero_of_dvd (Int.dvd_of_tmod_eq_zero z)).symm
  · rw [lg_cmp_ge, Int64.le_iff_toInt_le] at c
    have z : (0 : Int64).toInt = 0 := by decide
    rw [z] at c
    have hx : x.toInt < 0 := xi.mp (by omega)
    have hn := Int.tmod_nonneg m.toInt (a := -x.toInt) (by omega)
    rw [Int.neg_tmod] at hn
    have d1 : ¬ x.toInt.tmod m.toInt = 0 := fun q => d (by
      rw [lg_cmp_eq]
      exact Int64.toInt_inj.mp (by rw [h2, q]; rfl))
    rw [jl_add (by rw [h2, i64_of]; omega) (by rw [h2, i64_of]; omega), h2, i64_of]
    have e : x.toInt = (x.toInt.tmod m.toInt + m.toInt) + m.toInt * (x.toInt.tdiv m.toInt - 1) := by rw [Int.mul_sub]; omega
    have e2 := Int.add_mul_emod_self_left (x.toInt.tmod m.toInt + m.toInt) m.toInt (x.toInt.tdiv m.toInt - 1)
    rw [← e] at e2
    rw [e2, Int.emod_eq_of_lt (a := x.toInt.tmod m.toInt + m.toInt) (by omega) (by omega)]
section RT
variable {α : hp_T} {r M : Nat} {m : Int32}
theorem k_restOf (n : Nat) (hI : hp_I α 252 r = m) (hm : m.toInt = (M : Int)) (hM : 0 < M) (x : Int64) (h0 : -1000000000000 ≤ x.toInt) (h1 : x.toInt ≤ 1000000000000) : ws (f_X4_restOf n α r x) (fun v => v.toInt = ((rN M x.toInt : Nat) : Int)) := by
  unfold f_X4_restOf
  rw [hI]
  refine ws_l (ws_le (fun c => by rw [lt0] at c; omega) (fun _ => ws_l (ws_b (k_floorMod n x m (by omega) h0 h1) (fun v hv => ws_s ?_))))
  obtain ⟨a1, a2⟩ := rN_v hM x.toInt
  have hmb := ib_hi m
  exact n32 (by rw [hv, hm, a1]) (by omega)
theorem k_firstOf (n : Nat) (hI : hp_I α 252 r = m) (hm : m.toInt = (M : Int)) (hM : 0 < M) (hI2 : Int32) (h : Nat) (hh : hI2.toInt = (h : Int)) : ws (f_X4_firstOf n α r hI2) (fun v => v.toInt = ((rN M ((h : Int) - 17) : Nat) : Int)) := by
  have hb := ib_hi hI2
  have e : ((hI2).toInt64 - (17 : Int64)).toInt = (h : Int) - 17 := by
    rw [jl_sub (by rw [i64_of, l64_17]; omega) (by rw [i64_of, l64_17]; omega), i64_of, l64_17, hh]
  unfold f_X4_firstOf
  refine ws_b (k_restOf n hI hm hM _ (by rw [e]; omega) (by rw [e]; omega)) (fun v hv => ws_s ?_)
  rw [e] at hv
  exact hv
theorem k_secondOf (n : Nat) (hI : hp_I α 252 r = m) (hm : m.toInt = (M : Int)) (hM : 0 < M) (hM2 : M ≤ 65521) (a t : Int32) (A T : Nat) (ha : a.toInt = (A : Int)) (ht : t.toInt = (T : Int)) : ws (f_X4_secondOf n α r a t) (fun v => v.toInt = ((rN M ((T : Int) - (bMx M A 0 : Nat)) : Nat) : Int)) := by
  have hb := ib_hi t
  have hl := bMx_lt hM A 0
  unfold f_X4_secondOf
  refine ws_l ?_
  rw [hI]
  refine ws_b (k_two n m a 0 (by omega)) (fun v hv => ?_)
  have e : v.toInt = ((bMx M A 0 : Nat) : Int) := by rw [hv]; exact bt_N hm hM hM2 ha (by rw [lt0]; rfl)
  have e2 : ((t - v).toInt64).toInt = (T : Int) - (bMx M A 0 : Nat) := by rw [i64_of, ii_sub (by omega) (by omega), ht, e]
  refine ws_b (k_restOf n hI hm hM _ (by rw [e2]; omega) (by rw [e2]; omega)) (fun u hu => ws_s ?_)
  rw [e2] at hu
  exact hu
def hdI : List Nat → Int32
  | [] => -1
  | h :: _ => Int32.ofNat h
def TB (α : hp_T) (r M : Nat) : Prop := (∀ t, t < M → hp_E α 34 (hp_R α 250 r) t = hdI (rl M t M)) ∧ ∀ h, h < M → hp_E α 35 (hp_R α 251 r) h = hdI (rl M (qN M h) (M - (h + 1)))
theorem k_leastRoot (n : Nat) (hI : hp_I α 252 r = m) (hm : m.toInt = (M : Int)) (hM : 0 < M) (hM2 : M ≤ 65521) (hT : TB α r M) (b t : Int32) (X T : Nat) (hb : b.toInt = (X : Int)) (ht : t.toInt = (T : Int)) (hX : X ≤ 65521) : ws (f_X4_leastRoot n α r b t) (fun v => v = hdI (rl M (rN M ((T : Int) - X - 7)) M)) := by
  have h1 := ib_hi t
  have h2 := ib_hi b
  have t7 : (7 : Int32).toInt = 7 := by decide
  obtain ⟨a1, a2⟩ := rN_v hM ((T : Int) - X - 7)
  unfold f_X4_leastRoot
  by_cases hlow : -2147483648 ≤ (T : Int) - X - 7
  · have e2 : (((t - b) - (7 : Int32)).toInt64).toInt = (T : Int) - X - 7 := by
      rw [i64_of, ii_sub (by rw [ii_sub (by omega) (by omega), t7]; omega) (by rw [ii_sub (by omega) (by omega), t7]; omega), ii_sub (by omega) (by omega), t7, ht, hb]
    refine ws_b (k_restOf n hI hm hM _ (by rw [e2]; omega) (by rw [e2]; omega)) (fun u hu => ?_)
    rw [e2] at hu
    refine ws_lt (fun c => by rw [lt0] at c; omega) (fun _ => ws_l (ws_le (fun c => by rw [t65521] at c; omega) (fun _ => ws_l (ws_g (by omega) (by omega) (ws_s ?_)))))
    rw [cl_n hu]
    exact hT.1 _ a2
  · exact absurd hlow (by omega)
def gbf (r : Nat) (α β : hp_T) : Prop := hp_R β = hp_R α ∧ (hp_K β = hp_K α ∧ hp_N β = hp_N α) ∧ hp_E β = hp_E α ∧ ∀ φ b, ¬ (b = r ∧ (φ = 259 ∨ φ = 260)) → hp_I β φ b = hp_I α φ b
theorem gbf_rf : gbf r α α := ⟨rfl, ⟨rfl, rfl⟩, rfl, fun _ _ _ => rfl⟩
theorem gbf_tr {β γ : hp_T} (h : gbf r α β) (g : gbf r β γ) : gbf r α γ := ⟨g.1.trans h.1, ⟨g.2.1.1.trans h.2.1.1, g.2.1.2.trans h.2.1.2⟩, g.2.2.1.trans h.2.2.1, fun φ b q => (g.2.2.2 φ b q).trans (h.2.2.2 φ b q)⟩
def STN (α : hp_T) (r : Nat) (s : Nat × Nat) : Prop := (hp_I α 259 r).toInt = (s.1 : Int) ∧ (hp_I α 260 r).toInt = (s.2 : Int)
theorem k_take (n : Nat) (e : Nat) (a : Int32) (A : Nat) (ha : a.toInt = (A : Int)) (he : a = hp_I α 258 r ↔ A = e) (s : Nat × Nat) (hs : STN α r s) (hs1 : s.1 ≤ 2000000000) : ws (f_X4_take n α r a) (fun β => gbf r α β ∧ STN β r (tk e s A)) := by
  obtain ⟨s1, s2⟩ := hs
  have fin : ∀ (v : Int32) (V : Nat), v.toInt = (V : Int) → ¬ A = e → (V = if s.1 = 0 then A else min s.2 A) → ws (f_X4_take_J29 n r α v r) (fun β => gbf r α β ∧ STN β r (tk e s A)) := by
    intro v V hv hne hV
    unfold f_X4_take_J29
    refine ws_ln (fun β hβ => ws_l (ws_ln (fun γ hγ => ws_s ⟨⟨?_, ?_, ?_, fun φ b q => ?_⟩, ?_, ?_⟩)))
    · rw [hγ, hβ]; rfl
    · rw [hγ, hβ]; exact ⟨rfl, rfl⟩
    · rw [hγ, hβ]; rfl
    · rw [hγ, hβ, hI_sI, if_neg (fun z => q ⟨z.2, Or.inl z.1⟩), hI_sI, if_neg (fun z => q ⟨z.2, Or.inr z.1⟩)]
    · unfold tk
      rw [if_neg hne, hγ, hI_sI, if_pos ⟨rfl, rfl⟩, hβ, hI_sI, if_neg (fun z => absurd z.1 (by decide)), ii_add (by rw [lt1]; omega) (by rw [lt1]; omega), lt1, s1]
      push_cast; rfl
    · unfold tk
      rw [if_neg hne, hγ, hI_sI, if_neg (fun z => absurd z.1 (by decide)), hβ, hI_sI, if_pos ⟨rfl, rfl⟩, hv, hV]
  unfold f_X4_take
  refine ws_l (ws_i (fun c => ws_s ⟨gbf_rf, ?_⟩) (fun c => ws_l ?_))
  · unfold tk
    rw [if_pos (he.mp c)]
    exact ⟨s1, s2⟩
  · have hne : ¬ A = e := fun q => c (he.mpr q)
    refine ws_i (fun z => fin a A ha hne ?_) (fun z => ws_l ?_)
    · have : s.1 = 0 := by rw [z, lt0] at s1; omega
      rw [if_pos this]
    · have z0 : ¬ s.1 = 0 := fun q => z (Int32.toInt_inj.mp (by rw [s1, q]; rfl))
      unfold f_J9_min_7cf53
      refine ws_b (S := fun v => v.toInt = ((min s.2 A : Nat) : Int)) (ws_lt (fun d => ws_s ?_) (fun d => ws_s ?_)) (fun v hv => fin v (min s.2 A) hv hne (by rw [if_neg z0]))
      · rw [ha]; omega
      · rw [s2]; omega
end RT
end JN9_46
section JN9_47
set_option maxRecDepth 100000
def SRF (α : hp_T) (r way row M : Nat) (m lastI openI kw ex : Int32) (W : List (Nat × Nat × Bool)) (XL : List Int32) : Prop := hp_I α 252 r = m ∧ hp_I α 255 r = lastI ∧ hp_I α 256 r = openI ∧ hp_I α 257 r = kw ∧ hp_I α 258 r = ex ∧ hp_R α 253 r = way ∧ hp_R α 254 r = row ∧ WC α way W ∧ RWL α row XL ∧ TB α r M
theorem SRF_f {α β : hp_T} {r way row M : Nat} {m lastI openI kw ex : Int32} {W : List (Nat × Nat × Bool)} {XL : List Int32} (h : SRF α r way row M m lastI openI kw ex W XL) (f : gbf r α β) : SRF β r way row M m lastI openI kw ex W XL := by
  obtain ⟨h1, h2, h3, h4, h5, h6, h7, h8, h9, h10⟩ := h
  obtain ⟨f1, f2, f3, f4⟩ := f
  refine ⟨by rw [f4 252 r (by omega)]; exact h1, by rw [f4 255 r (by omega)]; exact h2, by rw [f4 256 r (by omega)]; exact h3, by rw [f4 257 r (by omega)]; exact h4, by rw [f4 258 r (by omega)]; exact h5, by rw [f1]; exact h6, by rw [f1]; exact h7, ⟨by rw [f4 453 way (by omega)]; exact h8.1, fun k q hq => by rw [f1, f3]; exact h8.2 k q hq⟩, ⟨h9.1, by rw [f4 301 row (by omega)]; exact h9.2.1, fun k hk => by rw [f1, f3]; exact h9.2.2 k hk⟩, ?_⟩
  unfold TB at h10 ⊢
  rw [f1, f3]
  exact h10
theorem tk_le (e : Nat) : ∀ (l : List Nat) (s : Nat × Nat), (l.foldl (tk e) s).1 ≤ s.1 + l.length := by
  intro l
  induction l with
  | nil => intro s; exact Nat.le_refl _
  | cons a l ih =>
    intro s
    have := ih (tk e s a)
    rw [List.foldl_cons, List.length_cons]
    have q : (tk e s a).1 ≤ s.1 + 1 := by
      unfold tk
      split
      · omega
      · exact Nat.le_refl _
    omega
section GB
variable {r way row M lo e : Nat} {m lastI openI kw ex : Int32} {W : List (Nat × Nat × Bool)} {XL : List Int32} {ss : Nat → Bool} {kn : Nat → Nat}
theorem k_goBack (n : Nat) (hn : 70000 ≤ n) (hm : m.toInt = (M : Int)) (hM : 0 < M) (hM2 : M ≤ 65521) (hlo : lastI.toInt = (lo : Int)) (hW64 : W.length ≤ 64) (hXL : W.length ≤ XL.length)
    (hex : ∀ (a : Int32) (A : Nat), a.toInt = (A : Int) → A < M → (a = ex ↔ A = e))
    (hss : ∀ j, lo + j < W.length → ss j = (wfl W (lo + j) != decide (openI.toInt = ((lo + j : Nat) : Int))))
    (hk1 : ∀ j, lo + j < W.length → openI.toInt = ((lo + j : Nat) : Int) → kw.toInt = (kn j : Int))
    (hk2 : ∀ j, lo + j < W.length → ¬ openI.toInt = ((lo + j : Nat) : Int) → (XL.getD (lo + j) 0).toInt = (kn j : Int))
    (hk3 : ∀ j, lo + j < W.length → kn j ≤ 65521) : ∀ (d k : Nat) (α : hp_T) (stepI tI : Int32) (T : Nat) (s : Nat × Nat), k + 1 ≤ d → lo + k ≤ W.length → stepI.toInt = (lo : Int) + k - 1 → tI.toInt = (T : Int) → T < M → SRF α r way row M m lastI openI kw ex W XL → STN α r s → s.1 + (gbL M ss kn k T).length ≤ 2000000000 → ws (f_X4_goBack n d α r stepI tI) (fun β => gbf r α β ∧ STN β r ((gbL M ss kn k T).foldl (tk e) s)) := by
  intro d
  induction d with
  | zero => intro k α stepI tI T s hd; omega
  | succ d ih =>
    intro k α stepI tI T s hd hkW hst ht hT hS hs hs1
    obtain ⟨h1, h2, h3, h4, h5, h6, h7, h8, h9, h10⟩ := id hS
    rw [f_X4_goBack.eq_2]
    refine ws_l ?_
    rw [h2]
    cases k with
    | zero =>
      refine ws_lt (fun _ => ?_) (fun c => by omega)
      unfold f_X4_goBack_J12
      refine ws_b (k_take n e tI T ht (by rw [h5]; exact hex tI T ht hT) s hs (by omega)) (fun β hβ => ws_s ?_)
      rw [gbL, List.foldl_cons, List.foldl_nil]
      exact hβ
    | succ k =>
      refine ws_lt (fun c => by omega) (fun _ => ws_le (fun _ => ws_l ?_) (fun c => by rw [lt0] at c; omega))
      rw [h3]
      have hj : lo + k < W.length := by omega
      have hstN : stepI.toInt = ((lo + k : Nat) : Int) := by omega
      have hst1 : (stepI - 1).toInt = (lo : Int) + k - 1 := by rw [iw_sub, lt1]; omega
      -- the loop over roots
      have loop : ∀ (q : Nat) (l : List Nat) (c : Nat) (β : hp_T) (s' : Nat × Nat) (rI cI : Int32), ss k = false → l.length + 1 ≤ q → cI.toInt = (c : Int) → c + l.length ≤ M → (∃ dd t, dd ≤ M ∧ rl M t dd = l) → rI = hdI l → gbf r α β → STN β r s' → s'.1 + ((l.map (fun (h : Nat) => gbL M ss kn k (rN M ((h : Int) - 17)))).flatten).length ≤ 2000000000 → ws (f_X4_goBack_L92 n (f_X4_goBack n d) q β r stepI rI cI) (fun γ => gbf r α γ ∧ STN γ r (((l.map (fun (h : Nat) => gbL M ss kn k (rN M ((h : Int) - 17)))).flatten).foldl (tk e) s')) := by
        intro q
        induction q with
        | zero => intro l c β s' rI cI _ hq; omega
        | succ q ihq =>
          intro l c β s' rI cI hs0 hq hc hcl hl hr hf hs' hs1'
          have hSβ := SRF_f hS hf
          have g252 := hSβ.1
          rw [f_X4_goBack_L92.eq_2]
          refine ws_l ?_
          rw [g252]
          cases l with
          | nil =>
            have hr1 : rI = -1 := hr
            have fin : gbf r α β ∧ STN β r ((([] : List Nat).map (fun (h : Nat) => gbL M ss kn k (rN M ((h : Int) - 17)))).flatten.foldl (tk e) s') := ⟨hf, hs'⟩
            refine ws_le (fun _ => ws_s fin) (fun _ => ws_lt (fun _ => ws_s fin) (fun z => ?_))
            rw [hr1, lt0] at z
            exact absurd z (by decide)
          | cons h l =>
            obtain ⟨dd, t, hdd, hrl⟩ := hl
            obtain ⟨c1, c2, c3⟩ := rl_cons M t dd h l hdd hrl
            have hr1 : rI = Int32.ofNat h := hr
            have hrN : rI.toInt = (h : Int) := by rw [hr1, Int32.toInt_ofNat_of_lt (by omega)]
            rw [List.length_cons] at hq hcl
            rw [List.map_cons, List.flatten_cons] at hs1' ⊢
            rw [List.length_append] at hs1'
            rw [List.foldl_append]
            refine ws_le (fun z => by omega) (fun _ => ws_lt (fun z => by rw [lt0] at z; omega) (fun _ => ws_le (fun z => by rw [t65521] at z; omega) (fun _ => ?_)))
            refine ws_b (k_firstOf n g252 hm hM rI h hrN) (fun y hy => ?_)
            have hyl := (rN_v hM ((h : Int) - 17)).2
            refine ws_b (ih k β (stepI - 1) y _ s' (by omega) (by omega) hst1 hy hyl hSβ hs' (by omega)) (fun γ hγ => ws_l (ws_g (by omega) (by omega) (ws_l (ws_l ?_))))
            obtain ⟨hfγ, hsγ⟩ := hγ
            have hf2 := gbf_tr hf hfγ
            have hTγ := (SRF_f hS hf2).2.2.2.2.2.2.2.2.2
            have hlen := tk_le e (gbL M ss kn k (rN M ((h : Int) - 17))) s'
            refine ihq l (c + 1) γ _ _ _ hs0 (by omega) (by rw [iw_add, lt1]; omega) (by omega) ⟨M - (h + 1), qN M h, by omega, c1.symm⟩ ?_ hf2 hsγ (by omega)
            rw [cl_n hrN, hTγ.2 h c3, ← c1]
      have J51 : ∀ (w0 v : Int32), ((w0 = 1 ∧ openI.toInt = ((lo + k : Nat) : Int)) ∨ (w0 = 0 ∧ ¬ openI.toInt = ((lo + k : Nat) : Int))) → v.toInt = (kn k : Int) → ws (f_X4_goBack_J51 n (f_X4_goBack n d) α r stepI tI w0 v) (fun β => gbf r α β ∧ STN β r ((gbL M ss kn (k + 1) T).foldl (tk e) s)) := by
        intro w0 v hw hv
        have hkl := hk3 k hj
        have hwf := wfl_g W hj
        unfold f_X4_goBack_J51
        refine ws_l ?_
        rw [h6]
        refine ws_b (k_isAhead n h8 hW64 (lo + k) hj stepI hstN) (fun g hg => ws_i (fun c => ?_) (fun c => ?_))
        · have hs0 : ss k = false := by
            rw [hss k hj, hwf]
            rcases hw with ⟨q, o⟩ | ⟨q, o⟩
            · have : W[lo + k].2.2 = true := by
                by_cases y : W[lo + k].2.2 = true
                · exact y
                · rw [if_neg y] at hg; rw [hg, q] at c; exact absurd c (by decide)
              rw [this, decide_eq_true o]; rfl
            · have : W[lo + k].2.2 = false := by
                cases y : W[lo + k].2.2 with
                | false => rfl
                | true => rw [y] at hg; rw [hg, q] at c; exact absurd c (by decide)
              rw [this, decide_eq_false o]; rfl
          have eg : gbL M ss kn (k + 1) T = ((rl M (rN M ((T : Int) - kn k - 7)) M).map (fun (h : Nat) => gbL M ss kn k (rN M ((h : Int) - 17)))).flatten := by rw [gbL, if_neg (by rw [hs0]; decide)]
          rw [eg] at hs1 ⊢
          refine ws_b (k_leastRoot n h1 hm hM hM2 h10 v tI (kn k) T hv ht hkl) (fun root hroot => ?_)
          have hlen := rl_len M (rN M ((T : Int) - kn k - 7)) M
          exact loop n _ 0 α s root 0 hs0 (by omega) rfl (by omega) ⟨M, _, Nat.le_refl _, rfl⟩ hroot gbf_rf hs hs1
        · have hs0 : ss k = true := by
            rw [hss k hj, hwf]
            rcases hw with ⟨q, o⟩ | ⟨q, o⟩
            · have : W[lo + k].2.2 = false := by
                cases y : W[lo + k].2.2 with
                | false => rfl
                | true => rw [y] at hg; exact absurd (by rw [hg, q]; rfl) c
              rw [this, decide_eq_true o]; rfl
            · have : W[lo + k].2.2 = true := by
                cases y : W[lo + k].2.2 with
                | true => rfl
                | false => rw [y] at hg; exact absurd (by rw [hg, q]; rfl) c
              rw [this, decide_eq_false o]; rfl
          have eg : gbL M ss kn (k + 1) T = gbL M ss kn k (rN M ((T : Int) - (bMx M (kn k) 0 : Nat))) := by rw [gbL, if_pos hs0]
          rw [eg] at hs1 ⊢
          refine ws_b (k_secondOf n h1 hm hM hM2 v tI (kn k) T hv ht) (fun u hu => ?_)
          have hul := (rN_v hM ((T : Int) - (bMx M (kn k) 0 : Nat))).2
          exact ws_b (ih k α (stepI - 1) u _ s (by omega) (by omega) hst1 hu hul hS hs hs1) (fun β hβ => ws_s hβ)
      unfold f_X4_goBack_J31
      refine ws_i (fun c => ?_) (fun c => ?_)
      · have o : openI.toInt = ((lo + k : Nat) : Int) := by rw [← c]; exact hstN
        refine ws_i (fun z => absurd z (by decide)) (fun _ => ws_l ?_)
        rw [h4]
        exact J51 1 kw (Or.inl ⟨rfl, o⟩) (hk1 k hj o)
      · have o : ¬ openI.toInt = ((lo + k : Nat) : Int) := fun q => c (Int32.toInt_inj.mp (by rw [hstN, q]))
        refine ws_i (fun _ => ws_l ?_) (fun z => absurd rfl z)
        rw [h7]
        exact ws_b (k_rat n h9 (lo + k) (by omega) stepI hstN) (fun v hv => J51 0 v (Or.inr ⟨rfl, o⟩) (by rw [hv]; exact hk2 k hj o))
end GB
end JN9_47
section JN9_48
set_option maxRecDepth 100000
def prf (r : Nat) (α β : hp_T) : Prop := hp_R β = hp_R α ∧ hp_K β = hp_K α ∧ hp_Q β = hp_Q α ∧ hp_N β = hp_N α ∧ (∀ φ b, ¬ (b = r ∧ φ = 252) → hp_I β φ b = hp_I α φ b) ∧ ∀ κ b j, κ ≠ 34 → κ ≠ 35 → hp_E β κ b j = hp_E α κ b j
theorem prf_rf {r : Nat} {α : hp_T} : prf r α α := ⟨rfl, rfl, rfl, rfl, fun _ _ _ => rfl, fun _ _ _ _ _ => rfl⟩
theorem prf_tr {r : Nat} {α β γ : hp_T} (h : prf r α β) (g : prf r β γ) : prf r α γ := ⟨g.1.trans h.1, g.2.1.trans h.2.1, g.2.2.1.trans h.2.2.1, g.2.2.2.1.trans h.2.2.2.1, fun φ b q => (g.2.2.2.2.1 φ b q).trans (h.2.2.2.2.1 φ b q), fun κ b j p q => (g.2.2.2.2.2 κ b j p q).trans (h.2.2.2.2.2 κ b j p q)⟩
theorem prf_sE {r κ a i : Nat} {α : hp_T} {v : Int32} (h : κ = 34 ∨ κ = 35) : prf r α (hp_sE α κ a i v) := ⟨rfl, rfl, rfl, rfl, fun _ _ _ => rfl, fun κ' b j p q => by rw [hE_sE, if_neg (fun z => by rcases h with e | e <;> rw [e] at z <;> omega)]⟩
theorem prf_sI {r : Nat} {α : hp_T} {v : Int32} : prf r α (hp_sI α 252 r v) := ⟨rfl, rfl, rfl, rfl, fun φ b q => by rw [hI_sI, if_neg (fun z => q ⟨z.2, z.1⟩)], fun _ _ _ _ _ => rfl⟩
section PR
variable {r M : Nat} {m : Int32}
theorem k_prep65 (n : Nat) (hm : m.toInt = (M : Int)) (hM : 0 < M) (hM2 : M ≤ 65521) : ∀ (d c : Nat) (β : hp_T) (vI : Int32), c ≤ M → c + 1 ≤ d → vI.toInt = (c : Int) - 1 → hp_I β 252 r = m → (∀ t, t < M → hp_E β 34 (hp_R β 250 r) t = hdI (rl M t (M - c))) → (∀ h, c ≤ h → h < M → hp_E β 35 (hp_R β 251 r) h = hdI (rl M (qN M h) (M - (h + 1)))) → ws (f_X4_prepare_L65 n r d β vI) (fun γ => TB γ r M ∧ prf r β γ ∧ hp_I γ 252 r = m) := by
  intro d
  induction d with
  | zero => intro c β vI _ hd; omega
  | succ d ih =>
    intro c β vI hc hd hv h252 h34 h35
    rw [f_X4_prepare_L65.eq_2]
    refine ws_lt (fun z => ?_) (fun z => ?_)
    · rw [lt0] at z
      have c0 : c = 0 := by omega
      subst c0
      exact ws_s ⟨⟨h34, fun h hh => h35 h (Nat.zero_le _) hh⟩, prf_rf, h252⟩
    · rw [lt0] at z
      obtain ⟨h, rfl⟩ : ∃ h, c = h + 1 := ⟨c - 1, by omega⟩
      have hvN : vI.toInt = (h : Int) := by omega
      have hhM : h < M := by omega
      have hql := Nat.mod_lt (qq h) hM
      refine ws_l ?_
      rw [h252]
      refine ws_nl (nl_of (by omega)) (ws_ln (fun x hx => ?_))
      have q := jq (h := vI) (by omega) (by omega)
      rw [qq_I hvN] at q
      obtain ⟨s0, s1⟩ := sq_le (h := vI.toInt) (by omega) (by omega)
      have hqb : ((qq h : Nat) : Int) ≤ 4295295000 := by rw [← qq_I hvN]; omega
      have hxN : x.toInt = ((qN M h : Nat) : Int) := by
        have jr := jl_rem (x := ((vI).toInt64 * (vI).toInt64) + ((3 : Int64) * (vI).toInt64)) (m := m) (by rw [q]; omega) (by rw [q]; omega) (by omega)
        rw [tm_N hm q] at jr
        rw [hx]
        exact n32 jr (by have hq2 : qN M h < M := hql; omega)
      have hq2 : qN M h < M := hql
      refine ws_l (ws_le (fun z => by rw [t65521] at z; omega) (fun _ => ws_l (ws_le (fun z => by rw [t65521] at z; omega) (fun _ => ws_l (ws_l (ws_g (by omega) (by omega) (ws_g (by omega) (by omega) (ws_ln (fun β1 h1 => ws_l (ws_g (by omega) (by omega) (ws_ln (fun β2 h2 => ?_))))))))))))
      unfold f_X4_prepare_J126
      rw [cl_n hxN, cl_n hvN] at h1
      rw [cl_n hxN] at h2
      have p1 : prf r β β1 := by rw [h1]; exact prf_sE (Or.inr rfl)
      have p2 : prf r β β2 := by rw [h2]; exact prf_tr p1 (prf_sE (Or.inl rfl))
      have eR : hp_R β2 = hp_R β := p2.1
      refine ws_l (ws_m (ih h β2 _ (by omega) (by omega) (by rw [iw_add, show (-1 : Int32).toInt = -1 from by decide]; omega) (by rw [h2, h1]; exact h252) (fun t ht => ?_) (fun g g1 g2 => ?_)) (fun γ hγ => ⟨hγ.1, prf_tr p2 hγ.2.1, hγ.2.2⟩))
      · rw [eR, show M - h = (M - (h + 1)) + 1 by omega, rl, show M - (M - (h + 1) + 1) = h by omega]
        rw [h2, hE_sE]
        by_cases c : t = qN M h
        · rw [if_pos ⟨rfl, by rw [h1]; rfl, c⟩, if_pos c.symm]
          exact i_ofN hvN
        · rw [if_neg (fun z => c z.2.2), if_neg (fun z => c z.symm), h1, hE_sE, if_neg (fun z => absurd z.1 (by decide))]
          exact h34 t ht
      · rw [eR, h2, hE_sE, if_neg (fun z => absurd z.1 (by decide)), h1, hE_sE]
        by_cases c : g = h
        · rw [if_pos ⟨rfl, rfl, c⟩, h34 _ hq2, c]
        · rw [if_neg (fun z => c z.2.2)]
          exact h35 g (by omega) g2
theorem k_prep28 (n : Nat) (hn : 70000 ≤ n) (hm : m.toInt = (M : Int)) (hM : 0 < M) (hM2 : M ≤ 65521) : ∀ (d c : Nat) (β : hp_T) (vI : Int32), c ≤ M → M + 1 ≤ d + c → vI.toInt = (c : Int) → hp_I β 252 r = m → (∀ t, t < c → hp_E β 34 (hp_R β 250 r) t = -1) → ws (f_X4_prepare_L28 n r d β vI) (fun γ => TB γ r M ∧ prf r β γ ∧ hp_I γ 252 r = m) := by
  intro d
  induction d with
  | zero => intro c β vI _ hd; omega
  | succ d ih =>
    intro c β vI hc hd hv h252 h34
    have done : c = M → ws (f_X4_prepare_J58 n r β) (fun γ => TB γ r M ∧ prf r β γ ∧ hp_I γ 252 r = m) := fun e => by
      unfold f_X4_prepare_J58
      refine ws_l (ws_l ?_)
      rw [h252]
      refine k_prep65 n hm hM hM2 n M β _ (Nat.le_refl _) (by omega) (by rw [iw_sub, lt1, hm]; omega) h252 (fun t ht => ?_) (fun h p q => by omega)
      rw [Nat.sub_self, rl]
      exact h34 t (by omega)
    rw [f_X4_prepare_L28.eq_2]
    refine ws_l ?_
    rw [h252]
    refine ws_le (fun z => done (by omega)) (fun z => ws_l (ws_le (fun y => by rw [t65521] at y; omega) (fun _ => ws_l (ws_g (by omega) (by omega) (ws_ln (fun β1 h1 => ws_l ?_))))))
    rw [cl_n hv] at h1
    have p1 : prf r β β1 := by rw [h1]; exact prf_sE (Or.inl rfl)
    refine ws_m (ih (c + 1) β1 _ (by omega) (by omega) (by rw [iw_add, lt1]; omega) (by rw [h1]; exact h252) (fun t ht => ?_)) (fun γ hγ => ⟨hγ.1, prf_tr p1 hγ.2.1, hγ.2.2⟩)
    rw [p1.1, h1, hE_sE]
    by_cases c1 : t = c
    · rw [if_pos ⟨rfl, rfl, c1⟩]
    · rw [if_neg (fun z => c1 z.2.2)]
      exact h34 t (by omega)
theorem k_prepare (n : Nat) (hn : 70000 ≤ n) (hm : m.toInt = (M : Int)) (hM : 101 ≤ M) (hM2 : M ≤ 65521) (α : hp_T) (hT : hp_I α 252 r = m → TB α r M) : ws (f_X4_prepare n α r m) (fun γ => TB γ r M ∧ prf r α γ ∧ hp_I γ 252 r = m) := by
  unfold f_X4_prepare
  refine ws_l (ws_i (fun c => ws_s ⟨hT c, prf_rf, c⟩) (fun c => ws_lt (fun z => ?_) (fun _ => ws_le (fun _ => ws_ln (fun β hβ => ?_)) (fun z => by rw [t65521] at z; omega))))
  · rw [show (101 : Int32).toInt = 101 from by decide] at z; omega
  · have p1 : prf r α β := by rw [hβ]; exact prf_sI
    refine ws_m (k_prep28 n hn hm (by omega) hM2 n 0 β 0 (Nat.zero_le _) (by omega) rfl (by rw [hβ, hI_sI, if_pos ⟨rfl, rfl⟩]) (fun t ht => by omega)) (fun γ hγ => ⟨hγ.1, prf_tr p1 hγ.2.1, hγ.2.2⟩)
end PR
end JN9_48
section JN9_49
set_option maxRecDepth 100000
theorem eml_lt (m : Int32) (hm : 2 ≤ m.toInt) (hm2 : m.toInt ≤ 65521) (g : Nat → Int32) : ∀ k, (∀ j, j < k → 0 ≤ (g j).toInt ∧ (g j).toInt ≤ 70000) → 0 ≤ (eml m g k).toInt ∧ (eml m g k).toInt < m.toInt := by
  intro k
  induction k with
  | zero => intro _; exact ⟨by show 0 ≤ (1 : Int32).toInt; decide, by show (1 : Int32).toInt < m.toInt; rw [lt1]; omega⟩
  | succ k ih =>
    intro h
    have q := ih (fun j hj => h j (by omega))
    rw [eml]
    exact mx_r m (eml m g k) (g k) (by omega) q.1 (by omega) (h k (by omega)).1 (h k (by omega)).2
theorem TR_lt (m : Int32) (hm : 2 ≤ m.toInt) (hm2 : m.toInt ≤ 65521) : ∀ (d : Nat) (l : List Int32), (∀ x ∈ l, 0 ≤ x.toInt ∧ x.toInt < m.toInt) → 0 ≤ (TR (bt m) d l).toInt ∧ (TR (bt m) d l).toInt < m.toInt := by
  have hd : ∀ l : List Int32, (∀ x ∈ l, 0 ≤ x.toInt ∧ x.toInt < m.toInt) → 0 ≤ (l.headD 0).toInt ∧ (l.headD 0).toInt < m.toInt := fun l h => by
    cases l with
    | nil => exact ⟨by show 0 ≤ (0 : Int32).toInt; decide, by show (0 : Int32).toInt < m.toInt; rw [lt0]; omega⟩
    | cons a l => exact h a List.mem_cons_self
  intro d
  induction d with
  | zero => intro l h; exact hd l h
  | succ d ih =>
    intro l h
    rw [TR]
    split
    · exact hd l h
    · have q1 := ih (l.take (p0 l.length)) (fun x hx => h x (List.mem_of_mem_take hx))
      have q2 := ih (l.drop (p0 l.length)) (fun x hx => h x (List.mem_of_mem_drop hx))
      exact bt_r m _ _ (by omega) hm2 q1.1 (by omega) q2.1 (show (TR (bt m) d (l.drop (p0 l.length))).toInt ≤ 70000 by omega)
def MRL (f : Nat → Int32) : Prop := ∀ r, r < (f 0).toInt.toNat → ∀ x ∈ EL f r, 0 ≤ x.toInt ∧ x.toInt < (f 1).toInt
theorem TMK_lt {f : Nat → Int32} (hC : rC f) {L : List Int32} (h : ∀ x ∈ L, 0 ≤ x.toInt ∧ x.toInt < (f 1).toInt) (a k : Nat) : 0 ≤ (TMK (f 1) L a k).toInt ∧ (TMK (f 1) L a k).toInt < (f 1).toInt := by
  have hm := hC.2.1
  unfold TMK
  split
  · exact ⟨by decide, by rw [lt0]; omega⟩
  · exact TR_lt (f 1) (by omega) (by omega) 6 _ (fun x hx => h x (List.mem_of_mem_drop (List.mem_of_mem_take hx)))
theorem MRL_X {α : hp_T} {x : Nat} {f : Nat → Int32} (h : RWX α x f) (hC : rC f) : MRL f := by
  obtain ⟨w, u, -, -, -, h4, -⟩ := h
  have hm := hC.2.1
  intro r hr x hx
  unfold EL at hx
  obtain ⟨i, hi, rfl⟩ := List.mem_map.mp hx
  rw [List.mem_range] at hi
  obtain ⟨⟨-, -, -, b4⟩, -⟩ := (h4.2.2.1 r hr).2 i hi
  rw [EM_l]
  refine eml_lt (f 1) (by omega) (by omega) _ _ (fun j hj => ?_)
  have hmem : (ltr f r i).getD j 0 ∈ ltr f r i := by
    rw [List.getD_eq_getElem?_getD, List.getElem?_eq_getElem hj]
    exact List.getElem_mem hj
  have := b4 _ hmem
  exact ⟨this.1, by omega⟩
abbrev wkOK (f : Nat → Int32) (a i m what : Int32) : Prop := (0 ≤ what.toInt ∧ what.toInt ≤ 1) ∧ inOK f a i m
def wkW (i m : Int32) : List (Nat × Nat × Bool) := (wyT 31 i.toInt.toNat 0 m.toInt.toNat).reverse
def wkP (f : Nat → Int32) (a i m : Int32) (v : Nat) : Bool := decide (fwd (f 1) (fun j => (inL f a i m).getD j 0) (wkW i m) 0 (Int32.ofNat v) = TMK (f 1) (EL f a.toInt.toNat) 0 m.toInt.toNat)
def wkE (f : Nat → Int32) (a i : Int32) : Nat := (EM f a.toInt.toNat i.toInt.toNat).toInt.toNat
def wkR (what : Int32) (s : Nat × Nat) : Int32 := if what = 0 then Int32.ofNat s.1 else if s.1 = 0 then -1 else Int32.ofNat s.2
def wkA (f : Nat → Int32) (a i m what : Int32) : Int32 := if wkOK f a i m what then wkR what ((dnL (wkP f a i m) (f 1).toInt.toNat).foldl (tk (wkE f a i)) (0, 0)) else -1
theorem v_weak_L (n : Nat) (iI NI : Int32) (what own head m : Int32) (xs : Nat → Int32) (G : Int32 → Int32) (hG : ∀ (σ : ms_T) (x : Int32), ms_E σ 40 1 = m → (∀ j, ms_E σ 44 j = xs j) → pr (f_X12_folded n σ x iI NI) (fun res => res.1 = G x ∧ fr [658] [] σ res.2)) (e B : Nat) (hB : B ≤ 65521) (he : own.toInt = (e : Int)) (P : Nat → Bool) (hP : ∀ v, v < B → (P v = true ↔ G (Int32.ofNat v) = head)) : ∀ (d c : Nat) (σ : ms_T) (v7 v8 v9 : Int32) (s : Nat × Nat), c ≤ B → v9.toInt = (c : Int) - 1 → ms_E σ 40 1 = m → (∀ j, ms_E σ 44 j = xs j) → v7 = Int32.ofNat s.1 → v8 = (if s.1 = 0 then -1 else Int32.ofNat s.2) → (¬ s.1 = 0 → c ≤ s.2 ∧ s.2 ≤ B) → s.1 + c ≤ B → pr (f_X12_weak_L73 n d σ iI NI what own head v7 v8 v9) (fun res => res.1 = wkR what ((dnL P c).foldl (tk e) s)) := by
  intro d
  induction d with
  | zero => intro c σ v7 v8 v9 s _ _ _ _ _ _ _ _; rw [f_X12_weak_L73.eq_1]; exact pr_0
  | succ d ih =>
    intro c σ v7 v8 v9 s hc h9 h40 h44 h7 h8 hs hsc
    have tm1 : (-1 : Int32).toInt = -1 := by decide
    rw [f_X12_weak_L73.eq_2]
    refine pr_lt (fun z => ?_) (fun z => ?_)
    · rw [lt0] at z
      have c0 : c = 0 := by omega
      subst c0
      rw [dnL, List.foldl_nil]
      unfold wkR
      refine pr_i (fun w0 => pr_s ?_) (fun w0 => pr_le (fun y => pr_s ?_) (fun y => pr_c (v_refuse n σ 5) (fun r τ hr => pr_s ?_)))
      · rw [if_pos w0]; exact h7
      · rw [lt0] at y
        have z0 : ¬ s.1 = 0 := fun q => by rw [h8, if_pos q, tm1] at y; omega
        rw [if_neg w0, if_neg z0, h8, if_neg z0]
      · rw [lt0] at y
        have z0 : s.1 = 0 := by
          by_cases q : s.1 = 0
          · exact q
          · have := hs q
            rw [h8, if_neg q, Int32.toInt_ofNat_of_lt (by omega)] at y
            omega
        rw [if_neg w0, if_pos z0]; exact hr
    · rw [lt0] at z
      obtain ⟨h, rfl⟩ : ∃ h, c = h + 1 := ⟨c - 1, by omega⟩
      have h9N : v9.toInt = (h : Int) := by omega
      have e9 : (v9 + (-1)).toInt = (h : Int) - 1 := by rw [iw_add, tm1]; omega
      have ev : v9 = Int32.ofNat h := i_ofN h9N
      have skip : ∀ (τ : ms_T) (s' : Nat × Nat) (u7 u8 : Int32), ms_E τ 40 1 = m → (∀ j, ms_E τ 44 j = xs j) → u7 = Int32.ofNat s'.1 → u8 = (if s'.1 = 0 then -1 else Int32.ofNat s'.2) → (¬ s'.1 = 0 → h ≤ s'.2 ∧ s'.2 ≤ B) → s'.1 + h ≤ B → pr (f_X12_weak_J108 n (f_X12_weak_L73 n d) τ iI NI what own head u7 u8 v9) (fun res => res.1 = wkR what ((dnL P h).foldl (tk e) s')) := fun τ s' u7 u8 g1 g2 g3 g4 g5 g6 => by
        unfold f_X12_weak_J108
        exact pr_l (ih h τ _ _ _ s' (by omega) e9 g1 g2 g3 g4 g5 g6)
      have hs' : ¬ s.1 = 0 → h ≤ s.2 ∧ s.2 ≤ B := fun q => by have := hs q; omega
      rw [dnL]
      refine pr_i (fun c => ?_) (fun c => ?_)
      · have eh : h = e := by
          have := congrArg Int32.toInt c
          rw [h9N, he] at this; omega
        have e2 : (if P h = true then h :: dnL P h else dnL P h).foldl (tk e) s = (dnL P h).foldl (tk e) s := by
          split
          · rw [List.foldl_cons]
            unfold tk
            rw [if_pos eh]
          · rfl
        rw [e2]
        exact skip σ s v7 v8 h40 h44 h7 h8 hs' (by omega)
      · have eh : ¬ h = e := fun q => c (Int32.toInt_inj.mp (by rw [h9N, he, q]))
        refine pr_c (hG σ v9 h40 h44) (fun r τ hr => ?_)
        obtain ⟨r1, r2⟩ := hr
        replace r1 : r = G v9 := r1
        rw [ev] at r1
        have g1 : ms_E τ 40 1 = m := (r2.2 40 (by decide) 1).trans h40
        have g2 : ∀ j, ms_E τ 44 j = xs j := fun j => (r2.2 44 (by decide) j).trans (h44 j)
        refine pr_i (fun y => pr_l ?_) (fun y => ?_)
        · have hp : P h = true := (hP h (by omega)).mpr (r1.symm.trans y)
          rw [if_pos hp, List.foldl_cons]
          have et : tk e s h = (s.1 + 1, h) := by
            unfold tk
            rw [if_neg eh]
            by_cases q : s.1 = 0
            · rw [if_pos q]
            · have := hs q
              rw [if_neg q, Nat.min_eq_right (by omega)]
          rw [et]
          refine skip τ (s.1 + 1, h) _ _ g1 g2 ?_ ?_ (fun _ => ⟨Nat.le_refl _, by show h ≤ B; omega⟩) (by show s.1 + 1 + h ≤ B; omega)
          · refine i_ofN ?_
            rw [iw_add, lt1, h7, Int32.toInt_ofNat_of_lt (by omega)]
            show _ = ((s.1 + 1 : Nat) : Int)
            omega
          · rw [if_neg (show ¬ (s.1 + 1 = 0) by omega)]; exact ev
        · have hp : ¬ P h = true := fun q => y (r1.trans ((hP h (by omega)).mp q))
          rw [if_neg hp]
          exact skip τ s v7 v8 g1 g2 h7 h8 hs' (by omega)
theorem v_weak (n : Nat) (σ : ms_T) (hC : rC (ms_E σ 40)) (hM : MRL (ms_E σ 40)) (a i m what : Int32) : pr (f_X12_weak n σ a i m what) (fun res => res.1 = wkA (ms_E σ 40) a i m what) := by
  have h4 := hC.1
  have hm0 := hC.2.1
  have bad : ∀ v : Int32, ¬ v = 0 → ¬ wkOK (ms_E σ 40) a i m what → pr (f_X12_weak_J22 n σ a i m what v) (fun res => res.1 = wkA (ms_E σ 40) a i m what) := fun v hv hno => by
    unfold f_X12_weak_J22 wkA
    rw [if_neg hno]
    exact v_is1 n σ v hv (pr_s rfl)
  unfold f_X12_weak
  refine pr_bo (v_isIn n what 0 1) (fun z => bad 1 (by decide) (fun q => z (by rw [lt0, lt1]; exact q.1))) (fun z1 => pr_b (v_noEntry n σ hC a i m) (fun v hv => ?_))
  rw [lt0, lt1] at z1
  rcases hv with ⟨rfl, ok⟩ | ⟨hv, no⟩
  · have ok : inOK (ms_E σ 40) a i m := ok
    have okk : wkOK (ms_E σ 40) a i m what := ⟨z1, ok⟩
    obtain ⟨ok1, ok2, ok3, ok4⟩ := id ok
    have hsz := hC.2.2.2.2.1 a.toInt.toNat (by omega)
    unfold f_X12_weak_J22 wkA
    rw [if_pos okk]
    refine v_is0 n σ ?_
    obtain ⟨τ0, hτ0⟩ : ∃ τ, τ = ms_sI (ms_sI σ 653 0) 652 0 := ⟨_, rfl⟩
    have e0 : ms_E τ0 40 = ms_E σ 40 := by rw [hτ0]; rfl
    rw [← hτ0]
    refine pr_b (T := fun τ => WS τ (wkW i m) ∧ fr [657] [42, 43] τ0 τ) (fun t ht => ⟨v_inclusion n τ0 i m ok1.1 ok4 t ht, v_incl_fr n τ0 i m t ht⟩) (fun σ1 hs1 => ?_)
    obtain ⟨hWS, g1⟩ := hs1
    have s1 : ms_E σ1 40 = ms_E σ 40 := by rw [show ms_E σ1 40 = ms_E τ0 40 from funext (fun j => g1.2 40 (by decide) j), e0]
    refine pr_b (v_fetches n σ1 (by rw [s1]; exact hC) a.toInt.toNat (by omega) a (by omega) _ hWS (fun q hq => ?_)) (fun σ2 hs2 => ?_)
    · have := wyT_rin (N := m.toInt.toNat) (I := i.toInt.toNat) (by omega) q hq
      rw [s1, EL_len]; omega
    obtain ⟨hMK, -, g2⟩ := hs2
    rw [s1] at hMK
    have s2 : ms_E σ2 40 = ms_E σ 40 := by rw [show ms_E σ2 40 = ms_E σ1 40 from funext (fun j => g2.2 40 (by decide) j), s1]
    have hq := hC.2.2.2.2.2.2.2.2 (48 * a.toInt.toNat + i.toInt.toNat) (by omega)
    refine pr_b (v_entryMark n σ2 a.toInt.toNat i.toInt.toNat (by omega) (by omega) a i (by omega) (by omega) (by rw [s2]; exact hq.1) (by rw [s2]; exact hq.2)) (fun em hem => ?_)
    rw [s2] at hem
    refine pr_b (v_headOf n σ2 (by rw [s2]; exact hC) a.toInt.toNat (by omega) a (by omega) m.toInt.toNat m (by omega) (by rw [s2, EL_len]; omega)) (fun hd hhd => pr_g (fun _ _ => pr_l ?_))
    rw [s2] at hhd
    have cl1 : ((1 : Int32)).toNatClampNeg = 1 := by decide
    have hil : i.toInt.toNat < (EL (ms_E σ 40) a.toInt.toNat).length := by rw [EL_len]; omega
    have emr := hM a.toInt.toNat (by omega) (EM (ms_E σ 40) a.toInt.toNat i.toInt.toNat) (by
      have := EL_get (ms_E σ 40) a.toInt.toNat i.toInt.toNat (by omega)
      exact List.mem_of_getElem? this)
    rw [cl1, s2]
    have hGx : ∀ x : Int32, fwd (ms_E σ 40 1) (ms_E σ2 44) (wyT 31 i.toInt.toNat 0 m.toInt.toNat).reverse 0 x = fwd (ms_E σ 40 1) (fun j => (inL (ms_E σ 40) a i m).getD j 0) (wkW i m) 0 x := fun x => by
      refine fwd_c _ _ _ _ (fun j _ hj => ?_)
      have hj3 : j < (mkl (ms_E σ 40 1) (EL (ms_E σ 40) a.toInt.toNat) (wkW i m)).length := by rw [mkl_len]; unfold wkW; omega
      show _ = (mkl (ms_E σ 40 1) (EL (ms_E σ 40) a.toInt.toNat) (wkW i m)).getD j 0
      rw [List.getD_eq_getElem?_getD, ← hMK j hj3]; rfl
    refine v_weak_L n i m what em hd (ms_E σ 40 1) (ms_E σ2 44) (fun x => fwd (ms_E σ 40 1) (fun j => (inL (ms_E σ 40) a i m).getD j 0) (wkW i m) 0 x) (fun τ x q1 q2 => ?_) (wkE (ms_E σ 40) a i) (ms_E σ 40 1).toInt.toNat (by omega) (by rw [hem]; unfold wkE; omega) (wkP (ms_E σ 40) a i m) (fun v _ => ?_) n (ms_E σ 40 1).toInt.toNat σ2 0 (-1) _ (0, 0) (Nat.le_refl _) (by rw [iw_sub, lt1]; omega) (by rw [s2]) (fun j => rfl) rfl rfl (fun q => absurd rfl q) (by omega)
    · refine pr_m (v_folded n τ x i.toInt.toNat m.toInt.toNat i m (by omega) (by omega) (by omega)) (fun res hres => ⟨?_, hres.2⟩)
      rw [hres.1, q1, show ms_E τ 44 = ms_E σ2 44 from funext q2]
      exact hGx x
    · unfold wkP
      rw [decide_eq_true_iff, hhd]
  · exact bad v hv (fun q => no q.2)
theorem fwd_gF {m : Int32} {M : Nat} (hm : m.toInt = (M : Int)) (hM : 0 < M) (hM2 : M ≤ 65521) (xs : Nat → Int32) (W : List (Nat × Nat × Bool)) (ss : Nat → Bool) (kn : Nat → Nat) (hss : ∀ j, j < W.length → ss j = wfl W j) (hkn : ∀ j, j < W.length → (xs j).toInt = (kn j : Int)) (x : Int32) (X : Nat) (hx : x.toInt = (X : Int)) : ∀ k, k ≤ W.length → (fwd m xs (W.take k) 0 x).toInt = ((gF M ss kn k X : Nat) : Int) := by
  intro k
  induction k with
  | zero => intro _; rw [List.take_zero, fwd, gF]; exact hx
  | succ k ih =>
    intro hk
    have q := ih (by omega)
    have hkl : k < W.length := by omega
    rw [fwd_ts m xs W x hkl, gF, hss k hkl, wfl_g W hkl]
    by_cases c : W[k].2.2 = true
    · rw [if_pos c, if_pos c]
      exact bt_N hm hM hM2 (hkn k hkl) q
    · rw [if_neg c, if_neg c]
      exact bt_N hm hM hM2 q (hkn k hkl)
end JN9_49
section JN9_50
set_option maxRecDepth 100000
theorem gb_len {M : Nat} (hM : 0 < M) (ss : Nat → Bool) (kn : Nat → Nat) (k : Nat) {t : Nat} (ht : t < M) : (gbL M ss kn k t).length ≤ M := by
  obtain ⟨h1, h2⟩ := gb_mem hM ss kn k ht
  have hd : ∀ (P : Nat → Bool) (n : Nat), (dnL P n).length ≤ n := by
    intro P n
    induction n with
    | zero => exact Nat.le_refl _
    | succ n ih =>
      rw [dnL]
      split
      · rw [List.length_cons]; omega
      · omega
  have e := ((List.perm_ext_iff_of_nodup h2 (dnL_pw (fun x => decide (gF M ss kn k x = t)) M)).mpr (fun x => by
    rw [h1 x, mem_dnL, decide_eq_true_iff])).length_eq
  rw [e]
  exact hd _ M
def sef (α β : hp_T) : Prop := (∀ φ b, φ ≠ 253 → φ ≠ 254 → hp_R β φ b = hp_R α φ b) ∧ hp_K β = hp_K α ∧ hp_N β = hp_N α ∧ hp_E β = hp_E α ∧ ∀ φ b, (φ < 255 ∨ 260 < φ) → hp_I β φ b = hp_I α φ b
theorem k_seekThing (n : Nat) (hn : 70000 ≤ n) {γ : hp_T} {r way row M e : Nat} {m : Int32} (hm : m.toInt = (M : Int)) (hM : 101 ≤ M) (hM2 : M ≤ 65521) (W : List (Nat × Nat × Bool)) (XL : List Int32) (hWC : WC γ way W) (hW60 : W.length ≤ 60) (hRW : RWL γ row XL) (hXL : W.length ≤ XL.length) (hXr : ∀ j, j < W.length → 0 ≤ (XL.getD j 0).toInt ∧ (XL.getD j 0).toInt ≤ 65521) (h252 : hp_I γ 252 r = m) (hT : TB γ r M) (ex tI : Int32) (he : ex.toInt = (e : Int)) (T : Nat) (ht : tI.toInt = (T : Int)) (hTM : T < M) : ws (f_X4_seekThing n γ r way row ex tI) (fun β => STN β r ((gbL M (fun j => wfl W j) (fun j => (XL.getD j 0).toInt.toNat) W.length T).foldl (tk e) (0, 0)) ∧ TB β r M ∧ hp_I β 252 r = m ∧ hp_N β = hp_N γ ∧ sef γ β) := by
  have tm1 : (-1 : Int32).toInt = -1 := by decide
  unfold f_X4_seekThing f_X4_seek
  refine ws_l (ws_l (ws_l (ws_l (ws_ln (fun β5 h5 => ?_)))))
  refine ws_b (ws_l (ws_ln (fun β7 h7 => ws_l ?_))) (fun β hβ => ws_s hβ)
  have eR : hp_R β7 253 r = way ∧ hp_R β7 254 r = row := by
    rw [h7, h5]
    constructor
    · rw [hR_sI, hR_sI, hR_sI, hR_sI, hR_sI, hR_sR, if_neg (fun z => absurd z.1 (by decide)), hR_sR, if_pos ⟨rfl, rfl⟩]
    · rw [hR_sI, hR_sI, hR_sI, hR_sI, hR_sI, hR_sR, if_pos ⟨rfl, rfl⟩]
  have eRo : ∀ φ b, φ ≠ 253 → φ ≠ 254 → hp_R β7 φ b = hp_R γ φ b := fun φ b p q => by
    rw [h7, h5, hR_sI, hR_sI, hR_sI, hR_sI, hR_sI, hR_sR, if_neg (fun z => q z.1), hR_sR, if_neg (fun z => p z.1)]
  have eI : ∀ φ b, (φ < 255 ∨ 260 < φ) → hp_I β7 φ b = hp_I γ φ b := fun φ b p => by
    rw [h7, h5, hI_sI, if_neg (fun z => by omega), hI_sI, if_neg (fun z => by omega), hI_sI, if_neg (fun z => by omega), hI_sI, if_neg (fun z => by omega), hI_sI, if_neg (fun z => by omega), hI_sR, hI_sR]
  have eE : hp_E β7 = hp_E γ := by rw [h7, h5]; rfl
  have eK : hp_K β7 = hp_K γ := by rw [h7, h5]; rfl
  have eN : hp_N β7 = hp_N γ := by rw [h7, h5]; rfl
  have i255 : hp_I β7 255 r = 0 := by rw [h7, h5, hI_sI, if_neg (fun z => absurd z.1 (by decide)), hI_sI, if_neg (fun z => absurd z.1 (by decide)), hI_sI, if_neg (fun z => absurd z.1 (by decide)), hI_sI, if_neg (fun z => absurd z.1 (by decide)), hI_sI, if_pos ⟨rfl, rfl⟩]
  have i256 : hp_I β7 256 r = -1 := by rw [h7, h5, hI_sI, if_neg (fun z => absurd z.1 (by decide)), hI_sI, if_neg (fun z => absurd z.1 (by decide)), hI_sI, if_neg (fun z => absurd z.1 (by decide)), hI_sI, if_pos ⟨rfl, rfl⟩]
  have i258 : hp_I β7 258 r = ex := by rw [h7, h5, hI_sI, if_neg (fun z => absurd z.1 (by decide)), hI_sI, if_neg (fun z => absurd z.1 (by decide)), hI_sI, if_pos ⟨rfl, rfl⟩]
  have i259 : hp_I β7 259 r = 0 := by rw [h7, hI_sI, if_neg (fun z => absurd z.1 (by decide)), hI_sI, if_pos ⟨rfl, rfl⟩]
  have i260 : hp_I β7 260 r = 0 := by rw [h7, hI_sI, if_pos ⟨rfl, rfl⟩]
  have i252 : hp_I β7 252 r = m := (eI 252 r (by omega)).trans h252
  have hWC7 : WC β7 way W := ⟨by rw [eI 453 way (by omega)]; exact hWC.1, fun k q hq => by rw [eRo 450 way (by decide) (by decide), eRo 451 way (by decide) (by decide), eRo 452 way (by decide) (by decide), eE]; exact hWC.2 k q hq⟩
  have hRW7 : RWL β7 row XL := ⟨hRW.1, by rw [eI 301 row (by omega)]; exact hRW.2.1, fun k hk => by rw [eRo 300 row (by decide) (by decide), eE]; exact hRW.2.2 k hk⟩
  have hT7 : TB β7 r M := by
    unfold TB at hT ⊢
    rw [eRo 250 r (by decide) (by decide), eRo 251 r (by decide) (by decide), eE]
    exact hT
  rw [i252]
  refine ws_le (fun c => by rw [lt0] at c; omega) (fun _ => ws_l (ws_l ?_))
  rw [eR.1]
  have hlen := gb_len (M := M) (by omega) (fun j => wfl W j) (fun j => (XL.getD j 0).toInt.toNat) W.length hTM
  have h453 := hWC7.1
  refine ws_b (k_goBack (lo := 0) (e := e) (kw := hp_I β7 257 r) (W := W) (XL := XL) (ss := fun j => wfl W j) (kn := fun j => (XL.getD j 0).toInt.toNat) n hn hm (by omega) hM2 (lastI := 0) (openI := -1) (ex := ex) rfl (by omega) hXL (fun a A ha hA => ⟨fun q => by rw [q, he] at ha; omega, fun q => Int32.toInt_inj.mp (by rw [ha, he, q])⟩) (fun j hj => ?_) (fun j hj q => ?_) (fun j hj q => ?_) (fun j hj => ?_) 64 W.length β7 _ tI T (0, 0) (by omega) (by omega) (by rw [iw_sub, lt1]; omega) ht hTM ⟨i252, i255, i256, rfl, i258, eR.1, eR.2, hWC7, hRW7, hT7⟩ ⟨by rw [i259]; rfl, by rw [i260]; rfl⟩ (by omega)) (fun β hβ => ws_s ?_)
  · rw [Nat.zero_add, decide_eq_false (by rw [tm1]; omega)]
    cases wfl W j <;> rfl
  · rw [tm1] at q; omega
  · rw [Nat.zero_add] at hj ⊢
    have := hXr j hj
    omega
  · rw [Nat.zero_add] at hj
    have := hXr j hj
    show (XL.getD j 0).toInt.toNat ≤ 65521
    omega
  · obtain ⟨⟨f1, f2, f3, f4⟩, hS⟩ := hβ
    refine ⟨hS, ?_, by rw [f4 252 r (by omega)]; exact i252, f2.2.trans eN, ⟨fun φ b p q => by rw [f1]; exact eRo φ b p q, f2.1.trans eK, f2.2.trans eN, f3.trans eE, fun φ b p => by rw [f4 φ b (by omega)]; exact eI φ b p⟩⟩
    · unfold TB at hT7 ⊢
      rw [f1, f3]; exact hT7
end JN9_50
