set_option maxRecDepth 100000
/-! ===== the reference adds a word ===== -/
/-- the word that is handed on -/
def HWD (σ : ms_T) (l : List Int32) : Prop := l.length ≤ 8 ∧ (ms_I σ 665).toInt = (l.length : Int) ∧ ∀ k, k < l.length → some (ms_E σ 46 k) = l[k]?
/-- the cells with one entry more -/
def adF (f : Nat → Int32) (r s : Nat) (l : List Int32) (g : Nat → Int32) : Prop := (g (252 + (48 * r + s))).toInt = (l.length : Int) ∧ (∀ k, k < l.length → some (g (444 + 8 * (48 * r + s) + k)) = l[k]?) ∧ g (72 + r) = f (72 + r) + 1 ∧ g 4 = f 4 + 1 ∧ ∀ j, j ≠ 252 + (48 * r + s) → ¬ (444 + 8 * (48 * r + s) ≤ j ∧ j < 444 + 8 * (48 * r + s) + l.length) → j ≠ 72 + r → j ≠ 4 → g j = f j
theorem v_sizeOf (n : Nat) (σ : ms_T) (r : Nat) (hr : r < 4) (rI : Int32) (hrI : rI.toInt = (r : Int)) : pr (f_X12_sizeOf n σ rI) (fun v => v = ms_E σ 40 (72 + r)) := by
  have L72 := t_72
  have e : ((72 : Int32) + rI).toInt = ((72 + r : Nat) : Int) := by rw [ii_add (by omega) (by omega), L72, hrI]; omega
  unfold f_X12_sizeOf
  rw [cl_n e]
  exact pr_g (fun _ _ => pr_s rfl)
theorem v_adds_L (n : Nat) (f : Nat → Int32) (r s : Nat) (hr : r < 4) (hs : s < 48) (l : List Int32) (rI aI : Int32) (hrI : rI.toInt = (r : Int)) (haI : aI.toInt = ((48 * r + s : Nat) : Int)) : ∀ (d k : Nat) (σ : ms_T) (kI : Int32), kI.toInt = (k : Int) → k ≤ l.length → HWD σ l → (ms_E σ 40 (252 + (48 * r + s))).toInt = (l.length : Int) → (∀ j, j < k → some (ms_E σ 40 (444 + 8 * (48 * r + s) + j)) = l[j]?) → (∀ j, j ≠ 252 + (48 * r + s) → ¬ (444 + 8 * (48 * r + s) ≤ j ∧ j < 444 + 8 * (48 * r + s) + l.length) → ms_E σ 40 j = f j) → pr (f_X12_adds_L43 n d σ rI aI kI) (fun res => res.1 = f (72 + r) + 1 - 1 ∧ adF f r s l (ms_E res.2 40) ∧ fr [] [40] σ res.2) := by
  intro d
  induction d with
  | zero => intro k σ kI h1 h2 hW hA hB hD; rw [f_X12_adds_L43.eq_1]; exact pr_0
  | succ d ih =>
    intro k σ kI h1 h2 hW hA hB hD
    have L72 := t_72
    have L444 : (444 : Int32).toInt = 444 := by decide
    have L8 := t_8
    have h8 := hW.1
    have e72 : ((72 : Int32) + rI).toInt = ((72 + r : Nat) : Int) := by rw [ii_add (by omega) (by omega), L72, hrI]; omega
    rw [f_X12_adds_L43.eq_2]
    refine pr_le (fun e => ?_) (fun e => ?_)
    · rw [hW.2.1] at e
      have hk : k = l.length := by omega
      have f72 : ms_E σ 40 (72 + r) = f (72 + r) := hD _ (by omega) (by omega)
      have f4 : ms_E σ 40 4 = f 4 := hD _ (by omega) (by omega)
      refine pr_l (pr_g (fun _ _ => pr_g (fun _ _ => pr_l (pr_g (fun _ _ => pr_g (fun _ _ => pr_l ?_))))))
      rw [cl_n e72, c4]
      refine pr_b (v_sizeOf n _ r hr rI hrI) (fun v hv => pr_s ⟨?_, ⟨?_, fun j hj => ?_, ?_, ?_, fun j j1 j2 j3 j4 => ?_⟩, fr_tr (fr_sE (by decide)) (fr_sE (by decide))⟩)
      · rw [hv, mE_sE, if_neg (by omega), mE_sE, if_pos ⟨rfl, rfl⟩, f72]
      · rw [mE_sE, if_neg (by omega), mE_sE, if_neg (by omega)]; exact hA
      · rw [mE_sE, if_neg (by omega), mE_sE, if_neg (by omega)]; exact hB j (by omega)
      · rw [mE_sE, if_neg (by omega), mE_sE, if_pos ⟨rfl, rfl⟩, f72]
      · rw [mE_sE, if_pos ⟨rfl, rfl⟩, mE_sE, if_neg (by omega), f4]
      · rw [mE_sE, if_neg (by omega), mE_sE, if_neg (by omega)]; exact hD j j1 j2
    · rw [hW.2.1] at e
      have hk : k < l.length := by omega
      have e2 : ((8 : Int32) * aI).toInt = ((8 * (48 * r + s) : Nat) : Int) := by rw [ii_mul (by rw [L8]; omega) (by rw [L8]; omega), L8, haI]; omega
      have e3 : ((444 : Int32) + (8 : Int32) * aI).toInt = ((444 + 8 * (48 * r + s) : Nat) : Int) := by rw [ii_add (by omega) (by omega), L444, e2]; omega
      have e4 : (((444 : Int32) + (8 : Int32) * aI) + kI).toInt = ((444 + 8 * (48 * r + s) + k : Nat) : Int) := by rw [ii_add (by omega) (by omega), e3, h1]; omega
      rw [cl_n e4, cl_n h1]
      refine pr_g (fun _ _ => pr_g (fun _ _ => pr_l (pr_l (pr_m (ih (k + 1) _ _ ?_ (by omega) ?_ ?_ (fun j hj => ?_) (fun j j1 j2 => ?_)) (fun res hres => ⟨hres.1, hres.2.1, fr_tr (fr_sE (by decide)) hres.2.2⟩)))))
      · rw [ii_add (by rw [lt1]; omega) (by rw [lt1]; omega), h1, lt1]; omega
      · exact ⟨hW.1, hW.2.1, fun j hj => by rw [mE_sE, if_neg (fun q => absurd q.1 (by decide))]; exact hW.2.2 j hj⟩
      · rw [mE_sE, if_neg (by omega)]; exact hA
      · rw [mE_sE]
        by_cases hjk : j = k
        · rw [if_pos ⟨rfl, by omega⟩, hjk]; exact hW.2.2 k hk
        · rw [if_neg (by omega)]; exact hB j (by omega)
      · rw [mE_sE, if_neg (by omega)]; exact hD j j1 j2
theorem v_adds (n : Nat) (σ : ms_T) (hC : rC (ms_E σ 40)) (r s : Nat) (hr : r < 4) (hs : s ≤ 48) (hsz : (ms_E σ 40 (72 + r)).toInt = (s : Int)) (l : List Int32) (hW : HWD σ l) (rI : Int32) (hrI : rI.toInt = (r : Int)) : pr (f_X12_adds n σ rI) (fun res => (s = 48 → res.1 = -1 ∧ ms_E res.2 40 = ms_E σ 40 ∧ ms_I res.2 652 = 3) ∧ (s < 48 → res.1.toInt = (s : Int) ∧ adF (ms_E σ 40) r s l (ms_E res.2 40)) ∧ fr [652] [40] σ res.2) := by
  have L48 := t_48
  have L252 : (252 : Int32).toInt = 252 := by decide
  unfold f_X12_adds
  refine pr_b (v_sizeOf n σ r hr rI hrI) (fun v hv => pr_e (fun e => ?_) (fun e => ?_))
  · have h48 : s = 48 := by rw [hv] at e; rw [e, L48] at hsz; omega
    unfold f_X12_refuse
    refine pr_c (T := fun res => res.1 = -1 ∧ res.2 = ms_sI σ 652 3) (pr_l (pr_s ⟨rfl, rfl⟩)) (fun a τ hτ => pr_s ⟨fun _ => ⟨hτ.1, ?_, ?_⟩, fun h => by omega, ?_⟩)
    · have := hτ.2; dsimp only at this; rw [this]; rfl
    · have := hτ.2; dsimp only at this; rw [this, mI_sI, if_pos rfl]
    · have := hτ.2; dsimp only at this; rw [this]; exact fr_sI (by decide)
  · rw [hv, hsz, L48] at e
    have hs48 : s < 48 := by omega
    have e48 : ((48 : Int32) * rI).toInt = ((48 * r : Nat) : Int) := by rw [ii_mul (by rw [L48]; omega) (by rw [L48]; omega), L48, hrI]; omega
    refine pr_b (v_sizeOf n σ r hr rI hrI) (fun v2 hv2 => pr_l ?_)
    have ea : ((48 : Int32) * rI + v2).toInt = ((48 * r + s : Nat) : Int) := by rw [ii_add (by rw [hv2]; omega) (by rw [hv2]; omega), e48, hv2, hsz]; omega
    have e252 : ((252 : Int32) + ((48 : Int32) * rI + v2)).toInt = ((252 + (48 * r + s) : Nat) : Int) := by rw [ii_add (by omega) (by omega), L252, ea]; omega
    rw [cl_n e252]
    refine pr_g (fun _ _ => pr_l (pr_m (v_adds_L n (ms_E σ 40) r s hr hs48 l rI _ hrI ea n 0 _ 0 rfl (Nat.zero_le _) ?_ ?_ (fun j hj => by omega) (fun j j1 j2 => ?_)) (fun res hres => ⟨fun h => by omega, fun _ => ⟨?_, hres.2.1⟩, fr_tr (fr_sE (by decide)) (fr_sb hres.2.2 (by decide) (by decide))⟩)))
    · exact ⟨hW.1, hW.2.1, fun j hj => by rw [mE_sE, if_neg (fun q => absurd q.1 (by decide))]; exact hW.2.2 j hj⟩
    · rw [mE_sE, if_pos ⟨rfl, rfl⟩]; exact hW.2.1
    · rw [mE_sE, if_neg (fun q => j1 q.2)]
    · have e1 : (ms_E σ 40 (72 + r) + 1).toInt = (s : Int) + 1 := by rw [ii_add (by rw [lt1]; omega) (by rw [lt1]; omega), hsz, lt1]
      rw [hres.1, ii_sub (by rw [lt1]; omega) (by rw [lt1]; omega), e1, lt1]; omega
theorem v_hand (n : Nat) (σ : ms_T) (l : List Int32) (hl : l.length ≤ 8) (h1 : (ms_I σ 664).toInt = (l.length : Int)) (h2 : ∀ k, k < l.length → some (ms_E σ 45 k) = l[k]?) : pr (f_X12_hand n σ) (fun τ => HWD τ l ∧ fr [665] [46] σ τ) := by
  have hL : ∀ (d k : Nat) (τ : ms_T) (kI : Int32), kI.toInt = (k : Int) → k ≤ l.length → fr [665] [46] σ τ → (∀ j, j < k → some (ms_E τ 46 j) = l[j]?) → pr (f_X12_hand_L2 n d τ kI) (fun τ => HWD τ l ∧ fr [665] [46] σ τ) := by
    intro d
    induction d with
    | zero => intro k τ kI h3 h4 hf hA; rw [f_X12_hand_L2.eq_1]; exact pr_0
    | succ d ih =>
      intro k τ kI h3 h4 hf hA
      have e664 : ms_I τ 664 = ms_I σ 664 := hf.1 664 (by decide)
      rw [f_X12_hand_L2.eq_2, e664]
      refine pr_le (fun e => pr_l (pr_s ⟨⟨hl, ?_, fun k hk => ?_⟩, fr_tr hf (fr_sI (by decide))⟩)) (fun e => ?_)
      · rw [mI_sI, if_pos rfl]; exact h1
      · exact hA k (by omega)
      · rw [cl_n h3]
        refine pr_g (fun _ _ => pr_g (fun _ _ => pr_l (pr_l (ih (k + 1) _ _ ?_ (by omega) (fr_tr hf (fr_sE (by decide))) (fun j hj => ?_)))))
        · rw [ii_add (by rw [lt1]; omega) (by rw [lt1]; omega), h3, lt1]; omega
        · rw [mE_sE]
          by_cases hjk : j = k
          · rw [if_pos ⟨rfl, hjk⟩, hf.2 45 (by decide), hjk]; exact h2 k (by omega)
          · rw [if_neg (fun q => hjk q.2)]; exact hA j (by omega)
  unfold f_X12_hand
  exact hL n 0 σ 0 rfl (Nat.zero_le _) fr_rf (fun j hj => by omega)
/-! ===== add, side by side ===== -/
theorem ltr_c {f g : Nat → Int32} {r i : Nat} (h : g (252 + (48 * r + i)) = f (252 + (48 * r + i))) (h2 : ∀ k, k < (f (252 + (48 * r + i))).toInt.toNat → g (444 + 8 * (48 * r + i) + k) = f (444 + 8 * (48 * r + i) + k)) : ltr g r i = ltr f r i := by
  unfold ltr
  rw [h]
  refine List.map_congr_left (fun k hk => h2 k (List.mem_range.mp hk))
theorem EM_c {f g : Nat → Int32} {r i : Nat} (h1 : g 1 = f 1) (h : g (252 + (48 * r + i)) = f (252 + (48 * r + i))) (h2 : ∀ k, k < (f (252 + (48 * r + i))).toInt.toNat → g (444 + 8 * (48 * r + i) + k) = f (444 + 8 * (48 * r + i) + k)) : EM g r i = EM f r i := by
  unfold EM
  rw [h1, h]
  exact eml_c _ _ h2
theorem ltr_l {g : Nat → Int32} {r i : Nat} {l : List Int32} (h : (g (252 + (48 * r + i))).toInt = (l.length : Int)) (h2 : ∀ k, k < l.length → some (g (444 + 8 * (48 * r + i) + k)) = l[k]?) : ltr g r i = l := by
  refine List.ext_getElem? (fun k => ?_)
  by_cases hk : k < l.length
  · rw [ltr_get g r i k (by omega), h2 k hk]
  · rw [List.getElem?_eq_none (by rw [ltr_len]; omega), List.getElem?_eq_none (by omega)]
theorem WR_add {α β : hp_T} {w : Nat} {f g : Nat → Int32} (h : WR α w f) (hC : rC f) {r s : Nat} (hr : r < (f 0).toInt.toNat) (hs : s < 48) (hsz : (f (72 + r)).toInt = (s : Int)) {l : List Int32} (ha : adF f r s l g) (hl8 : l.length ≤ 8) (bR : hp_R β = hp_R α) (bQ : hp_Q β = hp_Q α) (bW : WD β (wdA w r s) l) (b152 : hp_I β 152 (lpA w r) = hp_I α 152 (lpA w r) + 1) (bE : hp_E β 29 (lpA w r + 2) s = eml (f 1) (fun k => l.getD k 0) l.length) (b556 : hp_I β 556 w = hp_I α 556 w + 1) (bI : ∀ φ b, ¬ (φ = 501 ∧ b = wdA w r s) → ¬ (φ = 152 ∧ b = lpA w r) → ¬ (φ = 556 ∧ b = w) → hp_I β φ b = hp_I α φ b) (bX : ∀ κ b j, ¬ (κ = 27 ∧ b = wdA w r s + 1) → ¬ (κ = 29 ∧ b = lpA w r + 2 ∧ j = s) → hp_E β κ b j = hp_E α κ b j) : WR β w g := by
  have h4 := hC.1.2
  have h16 := hC.2.2.2.1.2
  obtain ⟨h1, h2, h3, hF, hW, hX⟩ := h
  obtain ⟨a1, a2, a3, a4, a5⟩ := ha
  have g1 : g 1 = f 1 := a5 1 (by omega) (by omega) (by omega) (by omega)
  have g0 : g 0 = f 0 := a5 0 (by omega) (by omega) (by omega) (by omega)
  have g3 : g 3 = f 3 := a5 3 (by omega) (by omega) (by omega) (by omega)
  have lg := ltr_l a1 a2
  refine ⟨SHW_e h1 bR bQ, ⟨?_, ?_, ?_, ?_⟩, fun r' hr' => ?_, fun i hi => ?_, fun i hi => ?_, fun i hi => by rw [bI 301 _ (by omega) (by omega) (by omega)]; exact hX i hi⟩
  · rw [bI 550 w (by omega) (by omega) (by omega), g1]; exact h2.1
  · rw [bI 552 w (by omega) (by omega) (by omega), g0]; exact h2.2.1
  · rw [bI 554 w (by omega) (by omega) (by omega), g3]; exact h2.2.2.1
  · rw [b556, a4, h2.2.2.2]
  · rw [g0] at hr'
    obtain ⟨c1, c2⟩ := h3 r' hr'
    have hs' := hC.2.2.2.2.1 r' (by omega)
    have old : ∀ i, i < (f (72 + r')).toInt.toNat → EN β w g r' i := by
      intro i hi
      obtain ⟨⟨d1, d2, d3, d4⟩, d5⟩ := c2 i hi
      have hne : 48 * r' + i ≠ 48 * r + s := by
        intro e
        have : r' = r := by omega
        subst this
        omega
      have hlen := hC.2.2.2.2.2.2.2.2 (48 * r' + i) (by omega)
      have e1 : g (252 + (48 * r' + i)) = f (252 + (48 * r' + i)) := a5 _ (by omega) (by omega) (by omega) (by omega)
      have e2 : ∀ k, k < (f (252 + (48 * r' + i))).toInt.toNat → g (444 + 8 * (48 * r' + i) + k) = f (444 + 8 * (48 * r' + i) + k) := fun k hk => a5 _ (by omega) (by omega) (by omega) (by omega)
      have hsh := (h1.2.2.2.2.2.2.2.2.2.2.2.1 r' (by omega)).2.2 i (by omega)
      have hwd : wdA w r' i ≠ wdA w r s := by unfold wdA; omega
      refine ⟨?_, ?_⟩
      · rw [ltr_c e1 e2]
        refine ⟨d1, by rw [bI 501 _ (fun q => hwd q.2) (by omega) (by omega)]; exact d2, fun k hk => ?_, d4⟩
        rw [bR, hsh.2, bX 27 _ k (fun q => by unfold wdA at q; omega) (fun q => absurd q.1 (by decide)), ← hsh.2]
        exact d3 k hk
      · rw [EM_c g1 e1 e2, bX 29 _ i (fun q => absurd q.1 (by decide)) (fun q => by unfold lpA at q; omega)]
        exact d5
    by_cases hrr : r' = r
    · subst hrr
      refine ⟨by rw [b152, a3, c1], fun i hi => ?_⟩
      rw [a3, ii_add (by rw [lt1]; omega) (by rw [lt1]; omega), hsz, lt1] at hi
      by_cases his : i = s
      · subst his
        refine ⟨by rw [lg]; exact bW, ?_⟩
        rw [bE, EM_l, lg, g1]
      · exact old i (by omega)
    · have e72 : g (72 + r') = f (72 + r') := a5 _ (by omega) (by omega) (by omega) (by omega)
      refine ⟨by rw [bI 152 _ (by omega) (fun q => by unfold lpA at q; omega) (by omega), e72]; exact c1, fun i hi => ?_⟩
      rw [e72] at hi
      exact old i hi
  · rw [g3] at hi
    obtain ⟨b1, b2, b3, b4, b5, b6⟩ := hF i hi
    have e : ∀ k, k < 10 → g (92 + 10 * i + k) = f (92 + 10 * i + k) := fun k hk => a5 _ (by omega) (by omega) (by omega) (by omega)
    have e93 : g (93 + 10 * i) = f (93 + 10 * i) := by have := e 1 (by omega); rw [show 92 + 10 * i + 1 = 93 + 10 * i by omega] at this; exact this
    have hp : pkn (f (93 + 10 * i)).toInt.toNat ≤ 6 := by unfold pkn; omega
    refine ⟨?_, ?_, ?_, ?_, ?_, fun k hk hP => ?_⟩
    · rw [bI 100 _ (by omega) (by omega) (by omega), b1]; exact (e 0 (by omega)).symm
    · rw [bI 101 _ (by omega) (by omega) (by omega), b2, e93]
    · rw [bI 102 _ (by omega) (by omega) (by omega), b3]
      have := e 2 (by omega); rw [show 92 + 10 * i + 2 = 94 + 10 * i by omega] at this; exact this.symm
    · rw [bI 103 _ (by omega) (by omega) (by omega), b4]
      have := e 3 (by omega); rw [show 92 + 10 * i + 3 = 95 + 10 * i by omega] at this; exact this.symm
    · rw [bI 301 _ (by omega) (by omega) (by omega), e93]; exact b5
    · rw [e93] at hk
      rw [bX 20 _ k (fun q => absurd q.1 (by decide)) (fun q => absurd q.1 (by decide)), b6 k hk hP]
      have := e (4 + k) (by omega); rw [show 92 + 10 * i + (4 + k) = 96 + 10 * i + k by omega] at this; exact this.symm
  · obtain ⟨b1, b2, b3, b4⟩ := hW i hi
    have e : ∀ k, k < 4 → g (76 + 4 * i + k) = f (76 + 4 * i + k) := fun k hk => a5 _ (by omega) (by omega) (by omega) (by omega)
    refine ⟨?_, ?_, ?_, ?_⟩
    · rw [bI 400 _ (by omega) (by omega) (by omega), b1]; exact (e 0 (by omega)).symm
    · rw [bI 401 _ (by omega) (by omega) (by omega), b2]
      have := e 1 (by omega); rw [show 76 + 4 * i + 1 = 77 + 4 * i by omega] at this; exact this.symm
    · rw [bI 403 _ (by omega) (by omega) (by omega), b3]
      have := e 2 (by omega); rw [show 76 + 4 * i + 2 = 78 + 4 * i by omega] at this; exact this.symm
    · rw [bI 402 _ (by omega) (by omega) (by omega), b4]
      have := e 3 (by omega); rw [show 76 + 4 * i + 3 = 79 + 4 * i by omega] at this; exact this.symm
/-- the class adds a word to a world -/
theorem k_addWord (n : Nat) (hn : 70000 ≤ n) (α : hp_T) (w : Nat) (f : Nat → Int32) (h : WR α w f) (hC : rC f) (r s : Nat) (hr : r < (f 0).toInt.toNat) (hs : s < 48) (hsz : (f (72 + r)).toInt = (s : Int)) (a : Nat) (l : List Int32) (ha : WD α a l) (h1 : a < w ∨ w + 459 ≤ a) (h2 : hp_R α 500 a < w ∨ w + 459 ≤ hp_R α 500 a) : ws (f_X10_addWord n α w (lpA w r) a) (fun β => (∀ g, adF f r s l g → WR β w g) ∧ hp_I β 301 (w + 5) = hp_I α 301 (w + 5) ∧ hp_R β = hp_R α ∧ hp_K β = hp_K α ∧ hp_Q β = hp_Q α ∧ hp_N β = hp_N α ∧ hp_I β 152 (lpA w r) = f (72 + r) + 1 ∧ (∀ φ b, b < w ∨ w + 459 ≤ b → hp_I β φ b = hp_I α φ b) ∧ ∀ κ b j, b < w ∨ w + 459 ≤ b → hp_E β κ b j = hp_E α κ b j) := by
  have h4 := hC.1.2
  have hm := hC.2.1.1
  have e152 := (h.2.2.1 r hr).1
  unfold f_X10_addWord
  refine ws_l ?_
  rw [h.2.1.1]
  refine ws_b (k_putWord n hn α w h.1 r s (by omega) hs (by rw [e152]; exact hsz) a l ha (by unfold wdA; omega) (by unfold wdA; omega) (f 1) (by omega)) (fun β hβ => ?_)
  obtain ⟨b1, b2, b3, b4, b5, b6, b7, b8, b9⟩ := hβ
  have hw556 : hp_I β 556 w = hp_I α 556 w := b8 556 w (by omega) (by omega)
  refine ws_l (ws_l (ws_s ⟨fun g hg => ?_, by rw [hI_sI, if_neg (by omega)]; exact b8 301 _ (by omega) (by omega), b1, b2, b3, b4, ?_, fun φ b hb => ?_, fun κ b j hb => ?_⟩))
  · refine WR_add h hC hr hs hsz hg ha.1 b1 b3 ⟨b5.1, ?_, b5.2.2.1, b5.2.2.2⟩ ?_ b7 ?_ (fun φ b q1 q2 q3 => ?_) (fun κ b j q1 q2 => b9 κ b j q1 q2)
    · rw [hI_sI, if_neg (by omega)]; exact b5.2.1
    · rw [hI_sI, if_neg (by omega)]; exact b6
    · rw [hI_sI, if_pos ⟨rfl, rfl⟩, hw556]
    · rw [hI_sI, if_neg q3]; exact b8 φ b q1 q2
  · rw [hI_sI, if_neg (by omega), b6, e152]
  · rw [hI_sI, if_neg (by omega)]
    exact b8 φ b (fun q => by unfold wdA at q; omega) (fun q => by unfold lpA at q; omega)
  · rw [hE_sI]
    exact b9 κ b j (fun q => by unfold wdA at q; omega) (fun q => by unfold lpA at q; omega)
/-! ===== fork ===== -/
def foF (f : Nat → Int32) (r t n : Nat) (g : Nat → Int32) : Prop := (∀ i, i < n → g (252 + (48 * t + i)) = f (252 + (48 * r + i)) ∧ ∀ k, k < 8 → g (444 + 8 * (48 * t + i) + k) = f (444 + 8 * (48 * r + i) + k)) ∧ (g (72 + t)).toInt = (n : Int) ∧ g 0 = f 0 + 1 ∧ g 4 = f 4 + 1 ∧ ∀ j, ¬ (252 + 48 * t ≤ j ∧ j < 252 + 48 * t + 48) → ¬ (444 + 8 * (48 * t) ≤ j ∧ j < 444 + 8 * (48 * t) + 384) → j ≠ 72 + t → j ≠ 0 → j ≠ 4 → g j = f j
/-- the cells while entries are copied -/
def fp (f : Nat → Int32) (r t : Nat) (i k : Nat) (g : Nat → Int32) : Prop := (∀ a, a < i → g (252 + (48 * t + a)) = f (252 + (48 * r + a)) ∧ ∀ b, b < 8 → g (444 + 8 * (48 * t + a) + b) = f (444 + 8 * (48 * r + a) + b)) ∧ (∀ b, b < k → g (444 + 8 * (48 * t + i) + b) = f (444 + 8 * (48 * r + i) + b)) ∧ ∀ j, ¬ (252 + 48 * t ≤ j ∧ j < 252 + 48 * t + 48) → ¬ (444 + 8 * (48 * t) ≤ j ∧ j < 444 + 8 * (48 * t) + 384) → g j = f j
theorem v_forks_L82 (n : Nat) (f : Nat → Int32) (r t : Nat) (hrt : r < t) (ht : t < 4) (i : Nat) (hi : i < 48) (rI tI iI nI : Int32) (hrI : rI.toInt = (r : Int)) (htI : tI.toInt = (t : Int)) (hiI : iI.toInt = (i : Int)) (rec41 : ms_T → Int32 → Int32 → Int32 → Int32 → Option (Int32 × ms_T)) (σ0 : ms_T) (P : Int32 × ms_T → Prop) (hrec : ∀ (τ : ms_T) (jI : Int32), jI.toInt = ((i + 1 : Nat) : Int) → fp f r t (i + 1) 0 (ms_E τ 40) → fr [] [40] σ0 τ → pr (rec41 τ rI nI tI jI) P) : ∀ (d k : Nat) (σ : ms_T) (kI : Int32), kI.toInt = (k : Int) → k ≤ 8 → fp f r t i k (ms_E σ 40) → ms_E σ 40 (252 + (48 * t + i)) = f (252 + (48 * r + i)) → fr [] [40] σ0 σ → pr (f_X12_forks_L82 n rec41 d σ rI nI tI iI kI) P := by
  intro d
  induction d with
  | zero => intro k σ kI h1 h2 h3 h4 h5; rw [f_X12_forks_L82.eq_1]; exact pr_0
  | succ d ih =>
    intro k σ kI h1 h2 h3 h4 h5
    have L8 := t_8
    have L48 := t_48
    have L444 : (444 : Int32).toInt = 444 := by decide
    have er : ((48 : Int32) * rI).toInt = ((48 * r : Nat) : Int) := by rw [ii_mul (by rw [L48]; omega) (by rw [L48]; omega), L48, hrI]; omega
    have et : ((48 : Int32) * tI).toInt = ((48 * t : Nat) : Int) := by rw [ii_mul (by rw [L48]; omega) (by rw [L48]; omega), L48, htI]; omega
    have er2 : ((48 : Int32) * rI + iI).toInt = ((48 * r + i : Nat) : Int) := by rw [ii_add (by omega) (by omega), er, hiI]; omega
    have et2 : ((48 : Int32) * tI + iI).toInt = ((48 * t + i : Nat) : Int) := by rw [ii_add (by omega) (by omega), et, hiI]; omega
    have er3 : ((8 : Int32) * ((48 : Int32) * rI + iI)).toInt = ((8 * (48 * r + i) : Nat) : Int) := by rw [ii_mul (by rw [L8]; omega) (by rw [L8]; omega), L8, er2]; omega
    have et3 : ((8 : Int32) * ((48 : Int32) * tI + iI)).toInt = ((8 * (48 * t + i) : Nat) : Int) := by rw [ii_mul (by rw [L8]; omega) (by rw [L8]; omega), L8, et2]; omega
    have er4 : ((444 : Int32) + (8 : Int32) * ((48 : Int32) * rI + iI)).toInt = ((444 + 8 * (48 * r + i) : Nat) : Int) := by rw [ii_add (by omega) (by omega), L444, er3]; omega
    have et4 : ((444 : Int32) + (8 : Int32) * ((48 : Int32) * tI + iI)).toInt = ((444 + 8 * (48 * t + i) : Nat) : Int) := by rw [ii_add (by omega) (by omega), L444, et3]; omega
    rw [f_X12_forks_L82.eq_2]
    refine pr_le (fun e => pr_l (hrec σ _ ?_ ⟨fun a ha => ?_, fun b hb => by omega, h3.2.2⟩ h5)) (fun e => ?_)
    · rw [ii_add (by rw [lt1]; omega) (by rw [lt1]; omega), hiI, lt1]; omega
    · by_cases hai : a = i
      · subst hai
        exact ⟨h4, fun b hb => h3.2.1 b (by omega)⟩
      · exact h3.1 a (by omega)
    · have er5 : (((444 : Int32) + (8 : Int32) * ((48 : Int32) * rI + iI)) + kI).toInt = ((444 + 8 * (48 * r + i) + k : Nat) : Int) := by rw [ii_add (by omega) (by omega), er4, h1]; omega
      have et5 : (((444 : Int32) + (8 : Int32) * ((48 : Int32) * tI + iI)) + kI).toInt = ((444 + 8 * (48 * t + i) + k : Nat) : Int) := by rw [ii_add (by omega) (by omega), et4, h1]; omega
      rw [cl_n er5, cl_n et5]
      have hsrc : ms_E σ 40 (444 + 8 * (48 * r + i) + k) = f (444 + 8 * (48 * r + i) + k) := h3.2.2 _ (by omega) (by omega)
      refine pr_g (fun _ _ => pr_g (fun _ _ => pr_l (pr_l (ih (k + 1) _ _ ?_ (by omega) ⟨fun a ha => ⟨?_, fun b hb => ?_⟩, fun b hb => ?_, fun j j1 j2 => ?_⟩ ?_ (fr_tr h5 (fr_sE (by decide)))))))
      · rw [ii_add (by rw [lt1]; omega) (by rw [lt1]; omega), h1, lt1]; omega
      · rw [mE_sE, if_neg (by omega)]; exact (h3.1 a ha).1
      · rw [mE_sE, if_neg (by omega)]; exact (h3.1 a ha).2 b hb
      · rw [mE_sE]
        by_cases hbk : b = k
        · rw [if_pos ⟨rfl, by omega⟩, hsrc, hbk]
        · rw [if_neg (by omega)]; exact h3.2.1 b (by omega)
      · rw [mE_sE, if_neg (by omega)]; exact h3.2.2 j j1 j2
      · rw [mE_sE, if_neg (by omega)]; exact h4
theorem v_forks_L41 (n : Nat) (f : Nat → Int32) (r t N : Nat) (hrt : r < t) (ht : t < 4) (hN : N ≤ 48) (rI tI nI : Int32) (hrI : rI.toInt = (r : Int)) (htI : tI.toInt = (t : Int)) (hnI : nI.toInt = (N : Int)) (σ0 : ms_T) : ∀ (d i : Nat) (σ : ms_T) (iI : Int32), iI.toInt = (i : Int) → i ≤ N → fp f r t i 0 (ms_E σ 40) → fr [] [40] σ0 σ → pr (f_X12_forks_L41 n d σ rI nI tI iI) (fun res => res.1 = tI ∧ foF f r t N (ms_E res.2 40) ∧ fr [] [40] σ0 res.2) := by
  intro d
  induction d with
  | zero => intro i σ iI h1 h2 h3 h4; rw [f_X12_forks_L41.eq_1]; exact pr_0
  | succ d ih =>
    intro i σ iI h1 h2 h3 h4
    have L72 := t_72
    have L48 := t_48
    have L252 : (252 : Int32).toInt = 252 := by decide
    rw [f_X12_forks_L41.eq_2]
    refine pr_le (fun e => ?_) (fun e => ?_)
    · have hiN : i = N := by omega
      have e72 : ((72 : Int32) + tI).toInt = ((72 + t : Nat) : Int) := by rw [ii_add (by omega) (by omega), L72, htI]; omega
      have f0 : ms_E σ 40 0 = f 0 := h3.2.2 _ (by omega) (by omega)
      have f4 : ms_E σ 40 4 = f 4 := h3.2.2 _ (by omega) (by omega)
      rw [cl_n e72]
      refine pr_g (fun _ _ => pr_l (pr_g (fun _ _ => pr_g (fun _ _ => pr_l (pr_g (fun _ _ => pr_g (fun _ _ => pr_l (pr_s ?_))))))))
      rw [c0, c4]
      refine ⟨rfl, ⟨fun a ha => ⟨?_, fun k hk => ?_⟩, ?_, ?_, ?_, fun j j1 j2 j3 j4 j5 => ?_⟩, fr_tr h4 (fr_tr (fr_sE (by decide)) (fr_tr (fr_sE (by decide)) (fr_sE (by decide))))⟩
      · rw [mE_sE, if_neg (by omega), mE_sE, if_neg (by omega), mE_sE, if_neg (by omega)]; exact (h3.1 a (by omega)).1
      · rw [mE_sE, if_neg (by omega), mE_sE, if_neg (by omega), mE_sE, if_neg (by omega)]; exact (h3.1 a (by omega)).2 k hk
      · rw [mE_sE, if_neg (by omega), mE_sE, if_neg (by omega), mE_sE, if_pos ⟨rfl, rfl⟩]; exact hnI
      · rw [mE_sE, if_neg (by omega), mE_sE, if_pos ⟨rfl, rfl⟩, mE_sE, if_neg (by omega), f0]
      · rw [mE_sE, if_pos ⟨rfl, rfl⟩, mE_sE, if_neg (by omega), mE_sE, if_neg (by omega), f4]
      · rw [mE_sE, if_neg (by omega), mE_sE, if_neg (by omega), mE_sE, if_neg (by omega)]; exact h3.2.2 j j1 j2
    · have hiN : i < N := by omega
      have er : ((48 : Int32) * rI).toInt = ((48 * r : Nat) : Int) := by rw [ii_mul (by rw [L48]; omega) (by rw [L48]; omega), L48, hrI]; omega
      have et : ((48 : Int32) * tI).toInt = ((48 * t : Nat) : Int) := by rw [ii_mul (by rw [L48]; omega) (by rw [L48]; omega), L48, htI]; omega
      have er2 : ((252 : Int32) + (48 : Int32) * rI).toInt = ((252 + 48 * r : Nat) : Int) := by rw [ii_add (by omega) (by omega), L252, er]; omega
      have et2 : ((252 : Int32) + (48 : Int32) * tI).toInt = ((252 + 48 * t : Nat) : Int) := by rw [ii_add (by omega) (by omega), L252, et]; omega
      have er3 : ((252 : Int32) + (48 : Int32) * rI + iI).toInt = ((252 + (48 * r + i) : Nat) : Int) := by rw [ii_add (by omega) (by omega), er2, h1]; omega
      have et3 : ((252 : Int32) + (48 : Int32) * tI + iI).toInt = ((252 + (48 * t + i) : Nat) : Int) := by rw [ii_add (by omega) (by omega), et2, h1]; omega
      rw [cl_n er3, cl_n et3]
      have hsrc : ms_E σ 40 (252 + (48 * r + i)) = f (252 + (48 * r + i)) := h3.2.2 _ (by omega) (by omega)
      refine pr_g (fun _ _ => pr_g (fun _ _ => pr_l (v_forks_L82 n f r t hrt ht i (by omega) rI tI iI nI hrI htI h1 _ σ0 _ (fun τ jI hj hp hf => ih (i + 1) τ jI hj (by omega) hp hf) n 0 _ 0 rfl (Nat.zero_le _) ⟨fun a ha => ⟨?_, fun b hb => ?_⟩, fun b hb => by omega, fun j j1 j2 => ?_⟩ ?_ (fr_tr h4 (fr_sE (by decide))))))
      · rw [mE_sE, if_neg (by omega)]; exact (h3.1 a ha).1
      · rw [mE_sE, if_neg (by omega)]; exact (h3.1 a ha).2 b hb
      · rw [mE_sE, if_neg (by omega)]; exact h3.2.2 j j1 j2
      · rw [mE_sE, if_pos ⟨rfl, rfl⟩, hsrc]
theorem v_forks (n : Nat) (σ : ms_T) (hC : rC (ms_E σ 40)) (r : Nat) (hr : r < (ms_E σ 40 0).toInt.toNat) (rI nI : Int32) (hrI : rI.toInt = (r : Int)) (hn0 : 0 ≤ nI.toInt) : pr (f_X12_forks n σ rI nI) (fun res => ((ms_E σ 40 (72 + r)).toInt < nI.toInt → res.1 = -1 ∧ res.2 = ms_sI σ 652 5) ∧ (nI.toInt ≤ (ms_E σ 40 (72 + r)).toInt → (ms_E σ 40 0).toInt = 4 → res.1 = -1 ∧ res.2 = ms_sI σ 652 3) ∧ (nI.toInt ≤ (ms_E σ 40 (72 + r)).toInt → (ms_E σ 40 0).toInt < 4 → res.1 = ms_E σ 40 0 ∧ foF (ms_E σ 40) r (ms_E σ 40 0).toInt.toNat nI.toInt.toNat (ms_E res.2 40) ∧ fr [] [40] σ res.2)) := by
  have h4 := hC.1
  have L4 := t_4
  have hs := hC.2.2.2.2.1 r (by omega)
  unfold f_X12_forks
  refine pr_b (v_sizeOf n σ r (by omega) rI hrI) (fun v hv => ?_)
  rw [hv, c0]
  have hre : ∀ w, pr (ms_c (f_X12_refuse n σ w) fun a τ => some (a, τ)) (fun res => res.1 = -1 ∧ res.2 = ms_sI σ 652 w) := by
    intro w
    unfold f_X12_refuse
    exact pr_c (T := fun res => res.1 = -1 ∧ res.2 = ms_sI σ 652 w) (pr_l (pr_s ⟨rfl, rfl⟩)) (fun a τ hτ => pr_s hτ)
  refine pr_le (fun e => pr_g (fun _ _ => pr_e (fun e4 => ?_) (fun e4 => pr_g (fun _ _ => pr_l ?_)))) (fun e => ?_)
  · have : (ms_E σ 40 0).toInt = 4 := by rw [e4]; exact L4
    exact pr_m (hre 3) (fun res hres => ⟨fun h => by omega, fun _ _ => hres, fun _ h => by omega⟩)
  · rw [L4] at e4
    refine pr_m (v_forks_L41 n (ms_E σ 40) r (ms_E σ 40 0).toInt.toNat nI.toInt.toNat hr (by omega) (by omega) rI _ nI hrI (by omega) (by omega) σ n 0 σ 0 rfl (Nat.zero_le _) ⟨fun a ha => by omega, fun b hb => by omega, fun _ _ _ => rfl⟩ fr_rf) (fun res hres => ⟨fun h => by omega, fun _ h => by omega, fun _ _ => hres⟩)
  · exact pr_m (hre 5) (fun res hres => ⟨fun _ => hres, fun h => by omega, fun h => by omega⟩)
/-- the class while entries are copied into record t -/
def fq (w t : Nat) (α β : hp_T) : Prop := hp_R β = hp_R α ∧ hp_K β = hp_K α ∧ hp_Q β = hp_Q α ∧ hp_N β = hp_N α ∧ (∀ φ b, ¬ (φ = 501 ∧ ∃ i, i < 48 ∧ b = wdA w t i) → ¬ (φ = 152 ∧ b = lpA w t) → hp_I β φ b = hp_I α φ b) ∧ ∀ κ b j, ¬ (κ = 27 ∧ ∃ i, i < 48 ∧ b = wdA w t i + 1) → ¬ (κ = 29 ∧ b = lpA w t + 2) → hp_E β κ b j = hp_E α κ b j
theorem fq_tr {w t : Nat} {α β γ : hp_T} (h : fq w t α β) (g : fq w t β γ) : fq w t α γ := by
  obtain ⟨h1, h2, h3, h4, h5, h6⟩ := h
  obtain ⟨g1, g2, g3, g4, g5, g6⟩ := g
  exact ⟨g1.trans h1, g2.trans h2, g3.trans h3, g4.trans h4, fun φ b q1 q2 => (g5 φ b q1 q2).trans (h5 φ b q1 q2), fun κ b j q1 q2 => (g6 κ b j q1 q2).trans (h6 κ b j q1 q2)⟩
theorem WD_fq {α β : hp_T} {w t a : Nat} {l : List Int32} (h : WD α a l) (f : fq w t α β) (ha : ∀ i, i < 48 → a ≠ wdA w t i) (hr : ∀ i, i < 48 → hp_R α 500 a ≠ wdA w t i + 1) : WD β a l := by
  obtain ⟨f1, -, -, -, f5, f6⟩ := f
  refine ⟨h.1, by rw [f5 501 a (fun q => by obtain ⟨i, hi, e⟩ := q.2; exact ha i hi e) (fun q => absurd q.1 (by decide))]; exact h.2.1, fun k hk => ?_, h.2.2.2⟩
  rw [f1, f6 27 _ _ (fun q => by obtain ⟨i, hi, e⟩ := q.2; exact hr i hi e) (fun q => absurd q.1 (by decide))]
  exact h.2.2.1 k hk
theorem k_wordAt (n : Nat) {α : hp_T} {w r s : Nat} (hS : SHW α w) (hr : r < 4) (hl : (hp_I α 152 (lpA w r)).toInt = (s : Int)) (hs : s ≤ 48) (i : Nat) (hi : i < s) (iI : Int32) (hiI : iI.toInt = (i : Int)) : ws (f_X2_wordAt n α (lpA w r) iI) (fun o => o = some (wdA w r i)) := by
  have L48 := t_48
  obtain ⟨g1, g2, g3⟩ := hS.2.2.2.2.2.2.2.2.2.2.2.1 r hr
  unfold f_X2_wordAt
  refine ws_lt (fun e => by rw [lt0] at e; omega) (fun _ => ws_l (ws_le (fun e => by omega) (fun _ => ws_l (ws_le (fun e => by omega) (fun _ => ws_l (ws_g (by omega) (by omega) ?_))))))
  rw [g1, cl_n hiI, (g3 i (by omega)).1]
  exact ws_s rfl
theorem k_forkLog_L (n : Nat) (hn : 70000 ≤ n) (α : hp_T) (w : Nat) (f : Nat → Int32) (h : WR α w f) (hC : rC f) (r t N : Nat) (hrt : r < t) (htm : t = (f 0).toInt.toNat) (ht4 : t < 4) (hN : (N : Int) ≤ (f (72 + r)).toInt) (nI : Int32) (hnI : nI.toInt = (N : Int)) : ∀ (d i : Nat) (β : hp_T) (iI : Int32), iI.toInt = (i : Int) → i ≤ N → fq w t α β → (hp_I β 152 (lpA w t)).toInt = (i : Int) → (∀ a, a < i → WD β (wdA w t a) (ltr f r a) ∧ hp_E β 29 (lpA w t + 2) a = EM f r a) → N + 1 - i ≤ d → ws (f_X10_forkLog_L51 n w d β (lpA w r) nI (lpA w t) iI) (fun res => res.1 = f 0 + 1 - 1 ∧ ∃ γ, fq w t α γ ∧ (hp_I γ 152 (lpA w t)).toInt = (N : Int) ∧ (∀ a, a < N → WD γ (wdA w t a) (ltr f r a) ∧ hp_E γ 29 (lpA w t + 2) a = EM f r a) ∧ res.2 = hp_sI (hp_sI γ 552 w (f 0 + 1)) 556 w (f 4 + 1)) := by
  have hs := hC.2.2.2.2.1 r (by omega)
  have hm := hC.2.1.1
  intro d
  induction d with
  | zero => intro i β iI h1 h2 hf h3 h4 h5; omega
  | succ d ih =>
    intro i β iI h1 h2 hf h3 h4 h5
    have hSβ : SHW β w := SHW_e h.1 hf.1 hf.2.2.1
    have i550 : hp_I β 550 w = f 1 := by rw [hf.2.2.2.2.1 550 w (by omega) (by omega)]; exact h.2.1.1
    have i552 : hp_I β 552 w = f 0 := by rw [hf.2.2.2.2.1 552 w (by omega) (by omega)]; exact h.2.1.2.1
    have i556 : hp_I β 556 w = f 4 := by rw [hf.2.2.2.2.1 556 w (by omega) (by omega)]; exact h.2.1.2.2.2
    have i152 : hp_I β 152 (lpA w r) = f (72 + r) := by rw [hf.2.2.2.2.1 152 _ (by omega) (fun q => by unfold lpA at q; omega)]; exact (h.2.2.1 r (by omega)).1
    rw [f_X10_forkLog_L51.eq_2]
    refine ws_le (fun e => ?_) (fun e => ?_)
    · have hiN : i = N := by omega
      refine ws_l (ws_l (ws_l (ws_l (ws_l (ws_s ⟨?_, β, hf, by rw [← hiN]; exact h3, by rw [← hiN]; exact h4, ?_⟩)))))
      · rw [hI_sI, if_neg (by omega), hI_sI, if_pos ⟨rfl, rfl⟩, i552]
      · have e9 : hp_I (hp_sI β 552 w (hp_I β 552 w + 1)) 556 w = f 4 := by rw [hI_sI, if_neg (by omega), i556]
        show hp_sI (hp_sI β 552 w (hp_I β 552 w + 1)) 556 w (hp_I (hp_sI β 552 w (hp_I β 552 w + 1)) 556 w + 1) = _
        rw [e9, i552]
    · refine ws_b (k_wordAt n hSβ (by omega) (s := (f (72 + r)).toInt.toNat) (by rw [i152]; omega) (by omega) i (by omega) iI h1) (fun o ho => ?_)
      subst ho
      show ws (ms_l _ _) _
      refine ws_l ?_
      rw [i550]
      obtain ⟨c1, c2⟩ := (h.2.2.1 r (by omega)).2 i (by omega)
      have hsh := (h.1.2.2.2.2.2.2.2.2.2.2.2.1 r (by omega)).2.2 i (by omega)
      have hWs : WD β (wdA w r i) (ltr f r i) := WD_fq c1 hf (fun a ha => by unfold wdA; omega) (fun a ha => by rw [hsh.2]; unfold wdA; omega)
      refine ws_b (k_putWord n hn β w hSβ t i (by omega) (by omega) h3 (wdA w r i) (ltr f r i) hWs (by unfold wdA; omega) (by rw [hf.1, hsh.2]; unfold wdA; omega) (f 1) (by omega)) (fun γ hγ => ?_)
      obtain ⟨b1, b2, b3, b4, b5, b6, b7, b8, b9⟩ := hγ
      have hfg : fq w t β γ := ⟨b1, b2, b3, b4, fun φ b q1 q2 => b8 φ b (fun q => q1 ⟨q.1, i, by omega, q.2⟩) q2, fun κ b j q1 q2 => b9 κ b j (fun q => q1 ⟨q.1, i, by omega, q.2⟩) (fun q => q2 ⟨q.1, q.2.1⟩)⟩
      unfold f_X10_forkLog_J80
      refine ws_l (ih (i + 1) γ _ ?_ (by omega) (fq_tr hf hfg) ?_ (fun a ha => ?_) (by omega))
      · rw [ii_add (by rw [lt1]; omega) (by rw [lt1]; omega), h1, lt1]; omega
      · rw [b6, ii_add (by rw [lt1]; omega) (by rw [lt1]; omega), h3, lt1]; omega
      · by_cases hai : a = i
        · subst hai
          refine ⟨b5, ?_⟩
          rw [b7, EM_l]
        · obtain ⟨⟨d1, d2, d3, d4⟩, d5⟩ := h4 a (by omega)
          have hsa := (hSβ.2.2.2.2.2.2.2.2.2.2.2.1 t (by omega)).2.2 a (by omega)
          refine ⟨⟨d1, by rw [b8 501 _ (fun q => by unfold wdA at q; omega) (by omega)]; exact d2, fun k hk => ?_, d4⟩, ?_⟩
          · rw [b1, hsa.2, b9 27 _ k (fun q => by unfold wdA at q; omega) (fun q => absurd q.1 (by decide)), ← hsa.2]
            exact d3 k hk
          · rw [b9 29 _ a (fun q => absurd q.1 (by decide)) (fun q => by omega)]; exact d5
theorem k_forkLog (n : Nat) (hn : 70000 ≤ n) (α : hp_T) (w : Nat) (f : Nat → Int32) (h : WR α w f) (hC : rC f) (r N : Nat) (hr : r < (f 0).toInt.toNat) (h0 : (f 0).toInt < 4) (hN : (N : Int) ≤ (f (72 + r)).toInt) (nI : Int32) (hnI : nI.toInt = (N : Int)) : ws (f_X10_forkLog n α w (lpA w r) nI) (fun res => res.1 = f 0 ∧ (∀ g, foF f r (f 0).toInt.toNat N g → WR res.2 w g) ∧ hp_I res.2 301 (w + 5) = hp_I α 301 (w + 5) ∧ hp_R res.2 = hp_R α ∧ hp_K res.2 = hp_K α ∧ hp_Q res.2 = hp_Q α ∧ hp_N res.2 = hp_N α ∧ (∀ φ b, b < w ∨ w + 459 ≤ b → hp_I res.2 φ b = hp_I α φ b) ∧ ∀ κ b j, b < w ∨ w + 459 ≤ b → hp_E res.2 κ b j = hp_E α κ b j) := by
  have hs := hC.2.2.2.2.1 r (by omega)
  have h16 := hC.2.2.2.1.2
  have L4 := t_4
  obtain ⟨t, ht⟩ : ∃ t, t = (f 0).toInt.toNat := ⟨_, rfl⟩
  have e552 := h.2.1.2.1
  have hcl : (hp_I α 552 w).toNatClampNeg = t := cl_n (by rw [e552]; omega)
  unfold f_X10_forkLog
  refine ws_l (ws_lt (fun e => by rw [lt0, e552] at e; omega) (fun _ => ws_l (ws_l (ws_le (fun e => by rw [e552] at e; omega) (fun _ => ws_l (ws_l (ws_g (by rw [e552]; omega) (by rw [e552]; omega) ?_)))))))
  rw [h.1.1, hcl, h.1.2.2.2.2.2.2.1 t (by omega)]
  show ws (ms_l _ _) _
  refine ws_l (ws_l (ws_g (by rw [e552]; omega) (by rw [e552]; omega) ?_))
  rw [hcl, h.1.2.2.2.2.2.2.1 t (by omega)]
  show ws (ms_l _ _) _
  have hf0 : fq w t α (hp_sI α 152 (lpA w t) 0) := ⟨rfl, rfl, rfl, rfl, fun φ b _ q2 => by rw [hI_sI, if_neg q2], fun _ _ _ _ _ => rfl⟩
  refine ws_l (ws_m (k_forkLog_L n hn α w f h hC r t N (by omega) ht (by omega) hN nI hnI n 0 _ 0 rfl (Nat.zero_le _) hf0 (by rw [hI_sI, if_pos ⟨rfl, rfl⟩]; rfl) (fun a ha => by omega) (by omega)) (fun res hres => ?_))
  obtain ⟨v1, γ, v2, v3, v4, v5⟩ := hres
  have e01 : (f 0 + 1 - 1 : Int32) = f 0 := by
    refine Int32.toInt_inj.mp ?_
    have e1 : (f 0 + 1).toInt = (f 0).toInt + 1 := by rw [ii_add (by rw [lt1]; omega) (by rw [lt1]; omega), lt1]
    rw [ii_sub (by rw [lt1]; omega) (by rw [lt1]; omega), e1, lt1]; omega
  rw [v5]
  have I2 : ∀ φ b, ¬ (φ = 552 ∧ b = w) → ¬ (φ = 556 ∧ b = w) → hp_I (hp_sI (hp_sI γ 552 w (f 0 + 1)) 556 w (f 4 + 1)) φ b = hp_I γ φ b := fun φ b q1 q2 => by rw [hI_sI, if_neg q2, hI_sI, if_neg q1]
  refine ⟨v1.trans e01, fun g hg => ?_, (I2 301 _ (by omega) (by omega)).trans (v2.2.2.2.2.1 301 _ (by omega) (by omega)), v2.1, v2.2.1, v2.2.2.1, v2.2.2.2.1, fun φ b hb => ?_, fun κ b j hb => ?_⟩
  · rw [← ht] at hg
    obtain ⟨a1, a2, a3, a4, a5⟩ := hg
    have g1 : g 1 = f 1 := a5 1 (by omega) (by omega) (by omega) (by omega) (by omega)
    have g3 : g 3 = f 3 := a5 3 (by omega) (by omega) (by omega) (by omega) (by omega)
    have hlenr : ∀ a, a < N → 0 ≤ (f (252 + (48 * r + a))).toInt ∧ (f (252 + (48 * r + a))).toInt ≤ 8 := fun a ha => hC.2.2.2.2.2.2.2.2 (48 * r + a) (by omega)
    have hltr : ∀ a, a < N → ltr g t a = ltr f r a := by
      intro a ha
      unfold ltr
      rw [(a1 a ha).1]
      have := hlenr a ha
      exact List.map_congr_left (fun k hk => (a1 a ha).2 k (by have := List.mem_range.mp hk; omega))
    have hEM : ∀ a, a < N → EM g t a = EM f r a := by
      intro a ha
      rw [EM_l, EM_l, hltr a ha, g1]
    refine ⟨SHW_e h.1 v2.1 v2.2.2.1, ⟨?_, ?_, ?_, ?_⟩, fun r' hr' => ?_, fun i hi => ?_, fun i hi => ?_, fun i hi => by rw [I2 301 _ (by omega) (by omega), v2.2.2.2.2.1 301 _ (by omega) (by omega)]; exact h.2.2.2.2.2 i hi⟩
    · rw [I2 550 w (by omega) (by omega), v2.2.2.2.2.1 550 w (by omega) (by omega), g1]; exact h.2.1.1
    · rw [hI_sI, if_neg (by omega), hI_sI, if_pos ⟨rfl, rfl⟩, a3]
    · rw [I2 554 w (by omega) (by omega), v2.2.2.2.2.1 554 w (by omega) (by omega), g3]; exact h.2.1.2.2.1
    · rw [hI_sI, if_pos ⟨rfl, rfl⟩, a4]
    · rw [a3, ii_add (by rw [lt1]; omega) (by rw [lt1]; omega), lt1] at hr'
      by_cases hrt : r' = t
      · subst hrt
        refine ⟨?_, fun i hi => ?_⟩
        · rw [I2 152 _ (by omega) (by omega)]
          exact Int32.toInt_inj.mp (by rw [v3, a2])
        · have hiN : i < N := by omega
          obtain ⟨w1, w2⟩ := v4 i hiN
          refine ⟨?_, ?_⟩
          · rw [hltr i hiN]
            exact ⟨w1.1, by rw [I2 501 _ (by omega) (by omega)]; exact w1.2.1, w1.2.2.1, w1.2.2.2⟩
          · rw [hEM i hiN]; exact w2
      · have hr2 : r' < (f 0).toInt.toNat := by omega
        obtain ⟨c1, c2⟩ := h.2.2.1 r' hr2
        have hs' := hC.2.2.2.2.1 r' (by omega)
        have e72 : g (72 + r') = f (72 + r') := a5 _ (by omega) (by omega) (by omega) (by omega) (by omega)
        refine ⟨by rw [I2 152 _ (by omega) (by omega), v2.2.2.2.2.1 152 _ (by omega) (fun q => by unfold lpA at q; omega), e72]; exact c1, fun i hi => ?_⟩
        rw [e72] at hi
        obtain ⟨d1, d2⟩ := c2 i hi
        have hlen := hC.2.2.2.2.2.2.2.2 (48 * r' + i) (by omega)
        have q1 : g (252 + (48 * r' + i)) = f (252 + (48 * r' + i)) := a5 _ (by omega) (by omega) (by omega) (by omega) (by omega)
        have q2 : ∀ k, k < (f (252 + (48 * r' + i))).toInt.toNat → g (444 + 8 * (48 * r' + i) + k) = f (444 + 8 * (48 * r' + i) + k) := fun k hk => a5 _ (by omega) (by omega) (by omega) (by omega) (by omega)
        have hsh := (h.1.2.2.2.2.2.2.2.2.2.2.2.1 r' (by omega)).2.2 i (by omega)
        refine ⟨?_, ?_⟩
        · rw [ltr_c q1 q2]
          have := WD_fq d1 v2 (fun a ha => by unfold wdA; omega) (fun a ha => by rw [hsh.2]; unfold wdA; omega)
          exact ⟨this.1, by rw [I2 501 _ (by omega) (by omega)]; exact this.2.1, this.2.2.1, this.2.2.2⟩
        · rw [EM_c g1 q1 q2]
          show hp_E γ 29 _ i = _
          rw [v2.2.2.2.2.2 29 _ i (fun q => absurd q.1 (by decide)) (fun q => by unfold lpA at q; omega)]
          exact d2
    · rw [g3] at hi
      obtain ⟨b1, b2, b3, b4, b5, b6⟩ := h.2.2.2.1 i hi
      have e : ∀ k, k < 10 → g (92 + 10 * i + k) = f (92 + 10 * i + k) := fun k hk => a5 _ (by omega) (by omega) (by omega) (by omega) (by omega)
      have e93 : g (93 + 10 * i) = f (93 + 10 * i) := by have := e 1 (by omega); rw [show 92 + 10 * i + 1 = 93 + 10 * i by omega] at this; exact this
      have hp : pkn (f (93 + 10 * i)).toInt.toNat ≤ 6 := by unfold pkn; omega
      have I3 : ∀ φ b, φ ≠ 501 → φ ≠ 152 → φ ≠ 552 → φ ≠ 556 → hp_I (hp_sI (hp_sI γ 552 w (f 0 + 1)) 556 w (f 4 + 1)) φ b = hp_I α φ b := fun φ b q1 q2 q3 q4 => by rw [I2 φ b (fun q => q3 q.1) (fun q => q4 q.1)]; exact v2.2.2.2.2.1 φ b (fun q => q1 q.1) (fun q => q2 q.1)
      refine ⟨?_, ?_, ?_, ?_, ?_, fun k hk hP => ?_⟩
      · rw [I3 100 _ (by decide) (by decide) (by decide) (by decide), b1]; exact (e 0 (by omega)).symm
      · rw [I3 101 _ (by decide) (by decide) (by decide) (by decide), b2, e93]
      · rw [I3 102 _ (by decide) (by decide) (by decide) (by decide), b3]
        have := e 2 (by omega); rw [show 92 + 10 * i + 2 = 94 + 10 * i by omega] at this; exact this.symm
      · rw [I3 103 _ (by decide) (by decide) (by decide) (by decide), b4]
        have := e 3 (by omega); rw [show 92 + 10 * i + 3 = 95 + 10 * i by omega] at this; exact this.symm
      · rw [I3 301 _ (by decide) (by decide) (by decide) (by decide), e93]; exact b5
      · rw [e93] at hk
        show hp_E γ 20 _ k = _
        rw [v2.2.2.2.2.2 20 _ k (fun q => absurd q.1 (by decide)) (fun q => absurd q.1 (by decide)), b6 k hk hP]
        have := e (4 + k) (by omega); rw [show 92 + 10 * i + (4 + k) = 96 + 10 * i + k by omega] at this; exact this.symm
    · obtain ⟨b1, b2, b3, b4⟩ := h.2.2.2.2.1 i hi
      have e : ∀ k, k < 4 → g (76 + 4 * i + k) = f (76 + 4 * i + k) := fun k hk => a5 _ (by omega) (by omega) (by omega) (by omega) (by omega)
      have I3 : ∀ φ b, φ ≠ 501 → φ ≠ 152 → φ ≠ 552 → φ ≠ 556 → hp_I (hp_sI (hp_sI γ 552 w (f 0 + 1)) 556 w (f 4 + 1)) φ b = hp_I α φ b := fun φ b q1 q2 q3 q4 => by rw [I2 φ b (fun q => q3 q.1) (fun q => q4 q.1)]; exact v2.2.2.2.2.1 φ b (fun q => q1 q.1) (fun q => q2 q.1)
      refine ⟨?_, ?_, ?_, ?_⟩
      · rw [I3 400 _ (by decide) (by decide) (by decide) (by decide), b1]; exact (e 0 (by omega)).symm
      · rw [I3 401 _ (by decide) (by decide) (by decide) (by decide), b2]
        have := e 1 (by omega); rw [show 76 + 4 * i + 1 = 77 + 4 * i by omega] at this; exact this.symm
      · rw [I3 403 _ (by decide) (by decide) (by decide) (by decide), b3]
        have := e 2 (by omega); rw [show 76 + 4 * i + 2 = 78 + 4 * i by omega] at this; exact this.symm
      · rw [I3 402 _ (by decide) (by decide) (by decide) (by decide), b4]
        have := e 3 (by omega); rw [show 76 + 4 * i + 3 = 79 + 4 * i by omega] at this; exact this.symm
  · rw [I2 φ b (by omega) (by omega)]
    exact v2.2.2.2.2.1 φ b (fun q => by obtain ⟨i, hi, e⟩ := q.2; unfold wdA at e; omega) (fun q => by unfold lpA at q; omega)
  · show hp_E γ κ b j = _
    exact v2.2.2.2.2.2 κ b j (fun q => by obtain ⟨i, hi, e⟩ := q.2; unfold wdA at e; omega) (fun q => by unfold lpA at q; omega)
