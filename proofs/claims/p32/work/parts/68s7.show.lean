set_option maxRecDepth 100000
/-! ===== show: the reference ===== -/
theorem WHY_rng (m : Int32) (xs : Nat → Int32) (c i : Nat) (old : Int32) (N : Nat) (new : Int32) : 0 ≤ (WHY m xs c i old N new).toInt ∧ (WHY m xs c i old N new).toInt ≤ 4 := by
  unfold WHY
  repeat' split
  all_goals decide
def shW (f : Nat → Int32) (w r N : Nat) : Int32 := if (f (76 + 4 * w)).toInt ≤ (N : Int) then WBR (f 1) (EL f r) (f (76 + 4 * w)).toInt.toNat (f (77 + 4 * w)) N (TMK (f 1) (EL f r) 0 N) else if (f (76 + 4 * w)).toInt ≤ (f (72 + r)).toInt then WBR (f 1) (EL f r) N (TMK (f 1) (EL f r) 0 N) (f (76 + 4 * w)).toInt.toNat (f (77 + 4 * w)) else 5
theorem shW_rng (f : Nat → Int32) (w r N : Nat) : 0 ≤ (shW f w r N).toInt ∧ (shW f w r N).toInt ≤ 5 := by
  unfold shW WBR
  split
  · have := WHY_rng (f 1) (fun k => (mkl (f 1) (EL f r) (wyH (f (76 + 4 * w)).toInt.toNat N).reverse).getD k 0) (wyH (f (76 + 4 * w)).toInt.toNat N).length (f (76 + 4 * w)).toInt.toNat (f (77 + 4 * w)) N (TMK (f 1) (EL f r) 0 N)
    omega
  · split
    · have := WHY_rng (f 1) (fun k => (mkl (f 1) (EL f r) (wyH N (f (76 + 4 * w)).toInt.toNat).reverse).getD k 0) (wyH N (f (76 + 4 * w)).toInt.toNat).length N (TMK (f 1) (EL f r) 0 N) (f (76 + 4 * w)).toInt.toNat (f (77 + 4 * w))
      omega
    · decide
def shF (f : Nat → Int32) (w r N : Nat) (g : Nat → Int32) : Prop := (if shW f w r N = 0 ∧ (f (76 + 4 * w)).toInt < (N : Int) then (g (76 + 4 * w)).toInt = (N : Int) ∧ g (77 + 4 * w) = TMK (f 1) (EL f r) 0 N else g (76 + 4 * w) = f (76 + 4 * w) ∧ g (77 + 4 * w) = f (77 + 4 * w)) ∧ g (78 + 4 * w) = (if shW f w r N = 0 ∨ shW f w r N = 5 then f (78 + 4 * w) else 1) ∧ g (79 + 4 * w) = f (79 + 4 * w) + 1 ∧ g 4 = f 4 + 1 ∧ ∀ j, ¬ (76 + 4 * w ≤ j ∧ j < 80 + 4 * w) → j ≠ 4 → g j = f j
theorem wtI (w : Nat) (hw : w < 4) (wI : Int32) (hwI : wI.toInt = (w : Int)) : ((76 : Int32) + (4 : Int32) * wI).toInt = ((76 + 4 * w : Nat) : Int) := by
  have L76 : (76 : Int32).toInt = 76 := by decide
  have L4 := t_4
  have e1 : ((4 : Int32) * wI).toInt = ((4 * w : Nat) : Int) := by rw [ii_mul (by rw [L4]; omega) (by rw [L4]; omega), L4, hwI]; omega
  rw [ii_add (by omega) (by omega), L76, e1]; omega
theorem wtI2 (w : Nat) (hw : w < 4) (wI : Int32) (hwI : wI.toInt = (w : Int)) (k : Nat) (hk : k < 4) (kI : Int32) (hkI : kI.toInt = (k : Int)) : ((76 : Int32) + (4 : Int32) * wI + kI).toInt = ((76 + 4 * w + k : Nat) : Int) := by
  have := wtI w hw wI hwI
  rw [ii_add (by omega) (by omega), this, hkI]; omega
theorem v_sh117 (n : Nat) (σ : ms_T) (w : Nat) (hw : w < 4) (wI : Int32) (hwI : wI.toInt = (w : Int)) (y : Int32) : pr (f_X12_shows_J117 n σ wI y) (fun res => res.1 = y ∧ ms_E res.2 40 (79 + 4 * w) = ms_E σ 40 (79 + 4 * w) + 1 ∧ ms_E res.2 40 4 = ms_E σ 40 4 + 1 ∧ (∀ j, j ≠ 79 + 4 * w → j ≠ 4 → ms_E res.2 40 j = ms_E σ 40 j) ∧ fr [] [40] σ res.2) := by
  have e3 := wtI2 w hw wI hwI 3 (by decide) 3 rfl
  rw [show 76 + 4 * w + 3 = 79 + 4 * w by omega] at e3
  unfold f_X12_shows_J117
  rw [c4]
  refine pr_ln (fun x hx => ?_)
  rw [← hx] at e3
  rw [cl_n e3]
  refine pr_g (fun _ _ => pr_g (fun _ _ => pr_l (pr_g (fun _ _ => pr_g (fun _ _ => pr_l (pr_s ⟨rfl, ?_, ?_, fun j j1 j2 => ?_, fr_tr (fr_sE (by decide)) (fr_sE (by decide))⟩))))))
  · rw [mE_sE, if_neg (by omega), mE_sE, if_pos ⟨rfl, rfl⟩]
  · rw [mE_sE, if_pos ⟨rfl, rfl⟩, mE_sE, if_neg (by omega)]
  · rw [mE_sE, if_neg (by omega), mE_sE, if_neg (by omega)]
theorem v_sh92 (n : Nat) (σ : ms_T) (w : Nat) (hw : w < 4) (wI : Int32) (hwI : wI.toInt = (w : Int)) (y : Int32) (hy : 0 ≤ y.toInt ∧ y.toInt ≤ 5) : pr (f_X12_shows_J92 n σ wI y) (fun res => res.1 = y ∧ ms_E res.2 40 (78 + 4 * w) = (if y = 0 ∨ y = 5 then ms_E σ 40 (78 + 4 * w) else 1) ∧ ms_E res.2 40 (79 + 4 * w) = ms_E σ 40 (79 + 4 * w) + 1 ∧ ms_E res.2 40 4 = ms_E σ 40 4 + 1 ∧ (∀ j, j ≠ 78 + 4 * w → j ≠ 79 + 4 * w → j ≠ 4 → ms_E res.2 40 j = ms_E σ 40 j) ∧ fr [] [40] σ res.2) := by
  have L5 : (5 : Int32).toInt = 5 := by decide
  have e2 := wtI2 w hw wI hwI 2 (by decide) 2 rfl
  rw [show 76 + 4 * w + 2 = 78 + 4 * w by omega] at e2
  unfold f_X12_shows_J92
  refine pr_le (fun e => ?_) (fun e => pr_le (fun e1 => ?_) (fun e1 => ?_))
  · rw [lt0] at e
    have h0 : y = 0 := Int32.toInt_inj.mp (by rw [lt0]; omega)
    rw [if_pos (Or.inl h0)]
    exact pr_m (v_sh117 n σ w hw wI hwI y) (fun res h => ⟨h.1, h.2.2.2.1 _ (by omega) (by omega), h.2.1, h.2.2.1, fun j j1 j2 j3 => h.2.2.2.1 j j2 j3, h.2.2.2.2⟩)
  · have h0 : y = 5 := Int32.toInt_inj.mp (by rw [L5]; omega)
    rw [if_pos (Or.inr h0)]
    exact pr_m (v_sh117 n σ w hw wI hwI y) (fun res h => ⟨h.1, h.2.2.2.1 _ (by omega) (by omega), h.2.1, h.2.2.1, fun j j1 j2 j3 => h.2.2.2.1 j j2 j3, h.2.2.2.2⟩)
  · rw [lt0] at e
    rw [if_neg (fun h => by rcases h with h | h <;> rw [h] at e e1 <;> first | exact absurd e (by decide) | exact absurd e1 (by decide)), cl_n e2]
    refine pr_g (fun _ _ => pr_ln (fun τ hτ => ?_))
    have q : ∀ j, j ≠ 78 + 4 * w → ms_E τ 40 j = ms_E σ 40 j := fun j hj => by rw [hτ, mE_sE, if_neg (by omega)]
    refine pr_m (v_sh117 n τ w hw wI hwI y) (fun res h => ⟨h.1, ?_, ?_, ?_, fun j j1 j2 j3 => ?_, ?_⟩)
    · rw [h.2.2.2.1 _ (by omega) (by omega), hτ, mE_sE, if_pos ⟨rfl, rfl⟩]
    · rw [h.2.1, q _ (by omega)]
    · rw [h.2.2.1, q _ (by omega)]
    · rw [h.2.2.2.1 j j2 j3, q j j1]
    · exact fr_tr (by rw [hτ]; exact fr_sE (by decide)) h.2.2.2.2
theorem v_trust (n : Nat) (σ : ms_T) (w : Nat) (hw : w < 4) (wI : Int32) (hwI : wI.toInt = (w : Int)) (k : Nat) (hk : k < 4) (kI : Int32) (hkI : kI.toInt = (k : Int)) : pr (f_X12_trust n σ wI kI) (fun v => v = ms_E σ 40 (76 + 4 * w + k)) := by
  unfold f_X12_trust
  rw [cl_n (wtI2 w hw wI hwI k hk kI hkI)]
  exact pr_g (fun _ _ => pr_s rfl)
theorem v_trusts (n : Nat) (σ : ms_T) (w : Nat) (hw : w < 4) (wI : Int32) (hwI : wI.toInt = (w : Int)) (x y : Int32) : pr (f_X12_trusts n σ wI x y) (fun τ => ms_E τ 40 (76 + 4 * w) = x ∧ ms_E τ 40 (77 + 4 * w) = y ∧ (∀ j, j ≠ 76 + 4 * w → j ≠ 77 + 4 * w → ms_E τ 40 j = ms_E σ 40 j) ∧ fr [] [40] σ τ) := by
  have e1 := wtI2 w hw wI hwI 1 (by decide) 1 rfl
  rw [show 76 + 4 * w + 1 = 77 + 4 * w by omega] at e1
  unfold f_X12_trusts
  rw [cl_n (wtI w hw wI hwI), cl_n e1]
  refine pr_g (fun _ _ => pr_l (pr_g (fun _ _ => pr_l (pr_s ⟨?_, ?_, fun j j1 j2 => ?_, fr_tr (fr_sE (by decide)) (fr_sE (by decide))⟩))))
  · rw [mE_sE, if_neg (by omega), mE_sE, if_pos ⟨rfl, rfl⟩]
  · rw [mE_sE, if_pos ⟨rfl, rfl⟩]
  · rw [mE_sE, if_neg (by omega), mE_sE, if_neg (by omega)]
theorem v_sh71 (n : Nat) (σ τ : ms_T) (e40 : ms_E τ 40 = ms_E σ 40) (hf : fr [657, 658, 659, 660] [42, 43, 44] σ τ) (w r N : Nat) (hw : w < 4) (wI : Int32) (hwI : wI.toInt = (w : Int)) (NI : Int32) (hNI : NI.toInt = (N : Int)) (s H y : Int32) (hs : s = ms_E σ 40 (76 + 4 * w)) (hH : H = TMK (ms_E σ 40 1) (EL (ms_E σ 40) r) 0 N) (hy : y = shW (ms_E σ 40) w r N) : pr (f_X12_shows_J71 n τ wI NI s H y) (fun res => res.1 = shW (ms_E σ 40) w r N ∧ shF (ms_E σ 40) w r N (ms_E res.2 40) ∧ fr [657, 658, 659, 660] [40, 42, 43, 44] σ res.2) := by
  have hy5 : 0 ≤ y.toInt ∧ y.toInt ≤ 5 := by rw [hy]; exact shW_rng _ _ _ _
  have hf' : fr [657, 658, 659, 660] [40, 42, 43, 44] σ τ := fr_sb hf (by decide) (by decide)
  unfold f_X12_shows_J71 shF
  rw [← hy]
  have hJ : ¬ (y = 0 ∧ (ms_E σ 40 (76 + 4 * w)).toInt < (N : Int)) → pr (f_X12_shows_J92 n τ wI y) (fun res => res.1 = y ∧ ((if y = 0 ∧ (ms_E σ 40 (76 + 4 * w)).toInt < (N : Int) then (ms_E res.2 40 (76 + 4 * w)).toInt = (N : Int) ∧ ms_E res.2 40 (77 + 4 * w) = TMK (ms_E σ 40 1) (EL (ms_E σ 40) r) 0 N else ms_E res.2 40 (76 + 4 * w) = ms_E σ 40 (76 + 4 * w) ∧ ms_E res.2 40 (77 + 4 * w) = ms_E σ 40 (77 + 4 * w)) ∧ ms_E res.2 40 (78 + 4 * w) = (if y = 0 ∨ y = 5 then ms_E σ 40 (78 + 4 * w) else 1) ∧ ms_E res.2 40 (79 + 4 * w) = ms_E σ 40 (79 + 4 * w) + 1 ∧ ms_E res.2 40 4 = ms_E σ 40 4 + 1 ∧ ∀ j, ¬ (76 + 4 * w ≤ j ∧ j < 80 + 4 * w) → j ≠ 4 → ms_E res.2 40 j = ms_E σ 40 j) ∧ fr [657, 658, 659, 660] [40, 42, 43, 44] σ res.2) := by
    intro hn
    refine pr_m (v_sh92 n τ w hw wI hwI y hy5) (fun res h => ?_)
    rw [e40] at h
    exact ⟨h.1, ⟨by rw [if_neg hn]; exact ⟨h.2.2.2.2.1 _ (by omega) (by omega) (by omega), h.2.2.2.2.1 _ (by omega) (by omega) (by omega)⟩, h.2.1, h.2.2.1, h.2.2.2.1, fun j j1 j2 => h.2.2.2.2.1 j (by omega) (by omega) j2⟩, fr_tr hf' (fr_sb h.2.2.2.2.2 (by decide) (by decide))⟩
  refine pr_i (fun e => pr_le (fun e1 => ?_) (fun e1 => ?_)) (fun e => hJ (fun h => e h.1))
  · exact hJ (fun h => by rw [hs, hNI] at e1; omega)
  · rw [hs, hNI] at e1
    refine pr_b (v_trusts n τ w hw wI hwI NI H) (fun υ hυ => ?_)
    rw [e40] at hυ
    obtain ⟨u1, u2, u3, u4⟩ := hυ
    refine pr_m (v_sh92 n υ w hw wI hwI y hy5) (fun res h => ?_)
    obtain ⟨h1, h2, h3, h4, h5, h6⟩ := h
    refine ⟨h1, ⟨?_, ?_, ?_, ?_, fun j j1 j2 => ?_⟩, fr_tr hf' (fr_tr (fr_sb u4 (by decide) (by decide)) (fr_sb h6 (by decide) (by decide)))⟩
    · rw [if_pos ⟨e, e1⟩]
      exact ⟨by rw [h5 _ (by omega) (by omega) (by omega), u1]; exact hNI, by rw [h5 _ (by omega) (by omega) (by omega), u2]; exact hH⟩
    · rw [h2, u3 _ (by omega) (by omega)]
    · rw [h3, u3 _ (by omega) (by omega)]
    · rw [h4, u3 _ (by omega) (by omega)]
    · rw [h5 j (by omega) (by omega) j2, u3 j (by omega) (by omega)]
theorem v_shows (n : Nat) (σ : ms_T) (hC : rC (ms_E σ 40)) (w r N : Nat) (hw : w < 4) (hr : r < 4) (hN : (N : Int) ≤ (ms_E σ 40 (72 + r)).toInt) (wI rI NI : Int32) (hwI : wI.toInt = (w : Int)) (hrI : rI.toInt = (r : Int)) (hNI : NI.toInt = (N : Int)) : pr (f_X12_shows n σ wI rI NI) (fun res => res.1 = shW (ms_E σ 40) w r N ∧ shF (ms_E σ 40) w r N (ms_E res.2 40) ∧ fr [657, 658, 659, 660] [40, 42, 43, 44] σ res.2) := by
  have hsz := hC.2.2.2.2.1 r hr
  have hwt := hC.2.2.2.2.2.1 w hw
  unfold f_X12_shows
  refine pr_b (v_trust n σ w hw wI hwI 0 (by decide) 0 rfl) (fun s hs => pr_b (v_headOf n σ hC r hr rI hrI N NI hNI (by rw [EL_len]; omega)) (fun H hH => ?_))
  rw [Nat.add_zero] at hs
  refine pr_le (fun e => ?_) (fun e => ?_)
  · refine pr_b (v_trust n σ w hw wI hwI 1 (by decide) 1 rfl) (fun h hh => ?_)
    rw [show 76 + 4 * w + 1 = 77 + 4 * w by omega] at hh
    refine pr_c (v_whyByRecord n σ hC r hr rI hrI (ms_E σ 40 (76 + 4 * w)).toInt.toNat N s NI h H (by rw [hs]; omega) hNI (by rw [hs, hNI] at e; omega) (by rw [EL_len]; omega)) (fun y τ hy => ?_)
    have e40 : ms_E τ 40 = ms_E σ 40 := funext (hy.2.2 40 (by decide))
    refine v_sh71 n σ τ e40 hy.2 w r N hw wI hwI NI hNI s H y hs hH ?_
    rw [hs, hNI] at e
    unfold shW
    rw [if_pos e, ← hH, ← hh]
    exact hy.1
  · refine pr_b (v_sizeOf n σ r hr rI hrI) (fun z hz => pr_le (fun e1 => ?_) (fun e1 => ?_))
    · refine pr_b (v_trust n σ w hw wI hwI 1 (by decide) 1 rfl) (fun h hh => ?_)
      rw [show 76 + 4 * w + 1 = 77 + 4 * w by omega] at hh
      rw [hs, hNI] at e
      rw [hs, hz] at e1
      refine pr_c (v_whyByRecord n σ hC r hr rI hrI N (ms_E σ 40 (76 + 4 * w)).toInt.toNat NI s H h hNI (by rw [hs]; omega) (by omega) (by rw [EL_len]; omega)) (fun y τ hy => ?_)
      have e40 : ms_E τ 40 = ms_E σ 40 := funext (hy.2.2 40 (by decide))
      refine v_sh71 n σ τ e40 hy.2 w r N hw wI hwI NI hNI s H y hs hH ?_
      unfold shW
      rw [if_neg (by omega), if_pos e1, ← hH, ← hh]
      exact hy.1
    · rw [hs, hNI] at e
      rw [hs, hz] at e1
      refine v_sh71 n σ σ rfl fr_rf w r N hw wI hwI NI hNI s H 5 hs hH ?_
      unfold shW
      rw [if_neg (by omega), if_neg (by omega)]
/-! ===== show: the class ===== -/
def rG (α : hp_T) (w : Nat) : Prop := 0 ≤ (hp_I α 301 (w + 5)).toInt ∧ (hp_I α 301 (w + 5)).toInt ≤ 64
theorem LM_gf {α β : hp_T} {w lg : Nat} {L : List Int32} (h : LM α lg L) (f : gf w α β) : LM β lg L := by
  obtain ⟨f1, -, -, -, f5, f6⟩ := f
  refine ⟨h.1, by rw [f5 152 lg (by omega) (by omega)]; exact h.2.1, fun j hj => ?_⟩
  rw [f1, f6 29 _ _ (by omega) (by omega) (by omega)]
  exact h.2.2 j hj
theorem k_whyGrown (n : Nat) (hn : 70000 ≤ n) (α : hp_T) (w : Nat) (f : Nat → Int32) (h : WR α w f) (hC : rC f) (hG : rG α w) (r : Nat) (hr : r < (f 0).toInt.toNat) (i N : Nat) (iI NI old new : Int32) (hi : iI.toInt = (i : Int)) (hN : NI.toInt = (N : Int)) (hiN : i ≤ N) : ws (f_X10_whyGrown n α w (some (lpA w r)) iI old NI new) (fun res => res.1 = (if (N : Int) ≤ (f (72 + r)).toInt then WBR (f 1) (EL f r) i old N new else 5) ∧ gf w α res.2 ∧ rG res.2 w) := by
  have h4 := hC.1.2
  have hsz := hC.2.2.2.2.1 r (by omega)
  have hm : 0 < (f 1).toInt := by have := hC.2.1; omega
  have q152 : hp_I α 152 (lpA w r) = f (72 + r) := (h.2.2.1 r hr).1
  have gf_rf : gf w α α := ⟨rfl, rfl, rfl, rfl, fun _ _ _ _ => rfl, fun _ _ _ _ _ _ => rfl⟩
  unfold f_X10_whyGrown
  refine ws_hS (ws_l (ws_le (fun e => ?_) (fun e => ws_s ⟨?_, gf_rf, hG⟩)))
  · rw [q152, hN] at e
    rw [if_pos e]
    refine ws_l ?_
    rw [h.1.2.2.2.2.2.1]
    refine ws_b (k_toGrowth2 n hn α (w + 7) i N iI NI hi hN hiN) (fun β hβ => ws_l (ws_l ?_))
    obtain ⟨⟨hW, hf⟩, -⟩ := hβ
    have g1 := gf_w h.1 hf
    have hWβ := WR_gf h hC g1
    rw [hWβ.1.2.2.2.2.2.1, hWβ.1.2.2.2.2.1]
    have L0 := LM_gf (WR_LM h hC hr) g1
    have hl32 := wyH_len i N
    obtain ⟨rl, hrl⟩ := RWL_any (α := β) (a := w + 5) (by rw [hf.2.2.2.2.1 301 _ (by omega)]; exact hG.1) (by rw [hf.2.2.2.2.1 301 _ (by omega)]; exact hG.2)
    refine ws_b (k_marksAlong n hn w (w + 5) (w + 7) β (f 1) hm hWβ.2.1.1 (lpA w r) (EL f r) L0 (wyH i N).reverse hW (by rw [List.length_reverse]; omega) (fun q hq => Nat.le_trans (wyH_in i N hiN q hq) (by rw [EL_len]; omega)) rl hrl) (fun γ hγ => ws_l (ws_l (ws_l ?_)))
    have g2 := gf_q hWβ.1 hγ.2
    have hWγ := WR_gf hWβ hC g2
    rw [hWγ.1.2.2.2.2.2.1, hWγ.1.2.2.2.2.1, hWγ.2.1.1]
    refine ws_hc (k_whyGrowth n hn γ (w + 7) (w + 5) _ hγ.1 (f 1) hm i N iI NI old new hi hN hiN) (fun y δ hy => ws_s ⟨?_, gf_tr g1 (gf_tr g2 (gf_w hWγ.1 hy.2)), RWL_m (RWL_wf hγ.1 hy.2)⟩)
    have hy1 := hy.1
    rw [mkl_len, List.length_reverse] at hy1
    exact hy1
  · rw [q152, hN] at e
    rw [if_neg (by omega)]
theorem k_sh88 (n : Nat) (w : Nat) (γ : hp_T) (wt : Nat) (hwt : wt ≠ w) (y : Int32) : ws (f_X10_showTos_J88 n w γ wt y) (fun res => res.1 = y ∧ hp_I res.2 403 wt = (if hp_I γ 403 wt = 0 then (if y = 0 ∨ y = 5 then 0 else 1) else 1) ∧ hp_I res.2 402 wt = hp_I γ 402 wt + 1 ∧ hp_I res.2 556 w = hp_I γ 556 w + 1 ∧ (∀ φ b, ¬ (b = wt ∧ (φ = 402 ∨ φ = 403)) → ¬ (b = w ∧ φ = 556) → hp_I res.2 φ b = hp_I γ φ b) ∧ hp_R res.2 = hp_R γ ∧ hp_K res.2 = hp_K γ ∧ hp_Q res.2 = hp_Q γ ∧ hp_N res.2 = hp_N γ ∧ hp_E res.2 = hp_E γ) := by
  have hH : ws (f_X7_hearWhy n γ wt y) (fun δ => δ = hp_sI γ 403 wt (if hp_I γ 403 wt = 0 then (if y = 0 ∨ y = 5 then 0 else 1) else 1)) := by
    unfold f_X7_hearWhy f_X7_hearWhy_J21 f_X7_hearWhy_J17
    refine ws_l (ws_i (fun e => ws_i (fun e1 => ws_l (ws_s ?_)) (fun e1 => ws_i (fun e2 => ws_l (ws_s ?_)) (fun e2 => ws_l (ws_s ?_)))) (fun e => ws_l (ws_s ?_)))
    · rw [if_pos e, if_pos (Or.inl e1)]
    · rw [if_pos e, if_pos (Or.inr e2)]
    · rw [if_pos e, if_neg (fun h => h.elim e1 e2)]
    · rw [if_neg e]
  unfold f_X10_showTos_J88
  refine ws_b hH (fun δ hδ => ws_l (ws_l (ws_l (ws_l (ws_s ⟨rfl, ?_, ?_, ?_, fun φ b q1 q2 => ?_, ?_, ?_, ?_, ?_, ?_⟩)))))
  · rw [hI_sI, if_neg (by omega), hI_sI, if_neg (by omega), hδ, hI_sI, if_pos ⟨rfl, rfl⟩]
  · rw [hI_sI, if_neg (by omega), hI_sI, if_pos ⟨rfl, rfl⟩, hδ, hI_sI, if_neg (by omega)]
  · rw [hI_sI, if_pos ⟨rfl, rfl⟩, hI_sI, if_neg (by omega), hδ, hI_sI, if_neg (by omega)]
  · rw [hI_sI, if_neg (by omega), hI_sI, if_neg (by omega), hδ, hI_sI, if_neg (by omega)]
  all_goals rw [hδ]; rfl
/-- a world whose watcher v changed -/
theorem WR_wt {α β : hp_T} {w : Nat} {f g : Nat → Int32} {v : Nat} (hv : v < 4) (h : WR α w f) (hC : rC f) (eR : hp_R β = hp_R α) (eQ : hp_Q β = hp_Q α) (eI : ∀ φ b, ¬ (b = wtA w v ∧ 400 ≤ φ ∧ φ ≤ 403) → ¬ (b = w ∧ φ = 556) → ¬ (b = w + 5 ∧ φ = 301) → ¬ (b = w + 7 ∧ (φ = 453 ∨ φ = 454)) → hp_I β φ b = hp_I α φ b) (eE : ∀ κ b j, ¬ (κ = 33 ∧ b = w + 4) → ¬ (κ = 20 ∧ b = w + 6) → ¬ ((κ = 21 ∧ b = w + 8) ∨ (κ = 22 ∧ b = w + 9) ∨ (κ = 23 ∧ b = w + 10)) → hp_E β κ b j = hp_E α κ b j) (e4 : hp_I β 556 w = g 4) (hw : WTN β w g v) (hg : ∀ j, ¬ (76 + 4 * v ≤ j ∧ j < 80 + 4 * v) → j ≠ 4 → g j = f j) : WR β w g := by
  obtain ⟨h1, h2, h3, hF, hW, hX⟩ := h
  have b4 := hC.1
  have b16 := hC.2.2.2.1
  have c0 : g 0 = f 0 := hg 0 (by omega) (by decide)
  have c1 : g 1 = f 1 := hg 1 (by omega) (by decide)
  have c3 : g 3 = f 3 := hg 3 (by omega) (by decide)
  have c252 : ∀ j, 252 ≤ j → g j = f j := fun j hj => hg j (by omega) (by omega)
  refine ⟨SHW_e h1 eR eQ, ⟨?_, ?_, ?_, e4⟩, fun q hq => ?_, fun q hq => ?_, fun q hq => ?_, fun q hq => ?_⟩
  · rw [eI 550 w (by omega) (by omega) (by omega) (by omega), c1]; exact h2.1
  · rw [eI 552 w (by omega) (by omega) (by omega) (by omega), c0]; exact h2.2.1
  · rw [eI 554 w (by omega) (by omega) (by omega) (by omega), c3]; exact h2.2.2.1
  · rw [c0] at hq
    have c72 : g (72 + q) = f (72 + q) := hg _ (by omega) (by omega)
    have hsq := hC.2.2.2.2.1 q (by omega)
    rw [c72]
    refine ⟨by rw [eI 152 _ (by omega) (by omega) (by omega) (by omega)]; exact (h3 q hq).1, fun e he => ?_⟩
    obtain ⟨⟨d1, d2, d3, d4⟩, d5⟩ := (h3 q hq).2 e he
    unfold EN
    rw [ltr_k c252, EM_c1 c1 c252]
    refine ⟨⟨d1, by rw [eI 501 _ (by omega) (by omega) (by omega) (by omega)]; exact d2, fun k hk => ?_, d4⟩, ?_⟩
    · rw [eR, eE 27 _ k (by omega) (by omega) (by omega)]; exact d3 k hk
    · rw [eE 29 _ e (by omega) (by omega) (by omega)]; exact d5
  · rw [c3] at hq
    obtain ⟨d1, d2, d3, d4, d5, d6⟩ := hF q hq
    have e93 : g (93 + 10 * q) = f (93 + 10 * q) := hg _ (by omega) (by omega)
    refine ⟨?_, ?_, ?_, ?_, ?_, fun k hk hP => ?_⟩
    · rw [eI 100 _ (by omega) (by omega) (by omega) (by omega), d1]; exact (hg _ (by omega) (by omega)).symm
    · rw [eI 101 _ (by omega) (by omega) (by omega) (by omega), d2, e93]
    · rw [eI 102 _ (by omega) (by omega) (by omega) (by omega), d3]; exact (hg _ (by omega) (by omega)).symm
    · rw [eI 103 _ (by omega) (by omega) (by omega) (by omega), d4]; exact (hg _ (by omega) (by omega)).symm
    · rw [eI 301 _ (by omega) (by omega) (by unfold fzA; omega) (by omega), e93]; exact d5
    · rw [e93] at hk
      rw [eE 20 _ k (by omega) (by unfold fzA; omega) (by omega), d6 k hk hP]; exact (hg _ (by omega) (by omega)).symm
  · by_cases hqv : q = v
    · rw [hqv]; exact hw
    · obtain ⟨d1, d2, d3, d4⟩ := hW q hq
      have hI : ∀ φ, 400 ≤ φ → φ ≤ 403 → hp_I β φ (wtA w q) = hp_I α φ (wtA w q) := fun φ _ _ => eI φ _ (by unfold wtA; omega) (by omega) (by omega) (by omega)
      refine ⟨?_, ?_, ?_, ?_⟩
      · rw [hI 400 (by decide) (by decide), d1]; exact (hg _ (by omega) (by omega)).symm
      · rw [hI 401 (by decide) (by decide), d2]; exact (hg _ (by omega) (by omega)).symm
      · rw [hI 403 (by decide) (by decide), d3]; exact (hg _ (by omega) (by omega)).symm
      · rw [hI 402 (by decide) (by decide), d4]; exact (hg _ (by omega) (by omega)).symm
  · rw [eI 301 _ (by omega) (by omega) (by unfold fzA; omega) (by omega)]; exact hX q hq
/-- alarms are 0 or 1; of each FROZEN HEAD the RECORD is there, and not shorter than its size -/
def ALW (f : Nat → Int32) : Prop := ∀ v, v < 4 → f (78 + 4 * v) = 0 ∨ f (78 + 4 * v) = 1
def FRI (f : Nat → Int32) : Prop := ∀ i, i < (f 3).toInt.toNat → (f (92 + 10 * i)).toInt < (f 0).toInt ∧ (f (93 + 10 * i)).toInt ≤ (f (72 + (f (92 + 10 * i)).toInt.toNat)).toInt
def AL01 (f : Nat → Int32) : Prop := ALW f ∧ FRI f
theorem FRI_e {f g : Nat → Int32} (hC : rC f) (h : FRI f) (e0 : (f 0).toInt ≤ (g 0).toInt) (e3 : g 3 = f 3) (e7 : ∀ r, r < (f 0).toInt.toNat → (f (72 + r)).toInt ≤ (g (72 + r)).toInt) (e9 : ∀ i, i < 16 → g (92 + 10 * i) = f (92 + 10 * i) ∧ g (93 + 10 * i) = f (93 + 10 * i)) : FRI g := by
  intro i hi
  rw [e3] at hi
  have h16 := hC.2.2.2.1
  obtain ⟨a1, a2⟩ := e9 i (by omega)
  obtain ⟨b1, b2⟩ := h i hi
  have b0 := (hC.2.2.2.2.2.2.1 i (by omega)).1
  rw [a1, a2]
  have := e7 (f (92 + 10 * i)).toInt.toNat (by omega)
  exact ⟨by omega, by omega⟩
theorem k_shZ (n : Nat) (α : hp_T) (w : Nat) (f : Nat → Int32) (h : WR α w f) (hC : rC f) (hA : AL01 f) (v r N : Nat) (hv : v < 4) (γ : hp_T) (eR : hp_R γ = hp_R α) (eK : hp_K γ = hp_K α) (eQ : hp_Q γ = hp_Q α) (eN : hp_N γ = hp_N α) (eI : ∀ φ b, ¬ (b = wtA w v ∧ (φ = 400 ∨ φ = 401)) → ¬ (b = w + 5 ∧ φ = 301) → ¬ (b = w + 7 ∧ (φ = 453 ∨ φ = 454)) → hp_I γ φ b = hp_I α φ b) (eE : ∀ κ b j, ¬ (κ = 33 ∧ b = w + 4) → ¬ (κ = 20 ∧ b = w + 6) → ¬ ((κ = 21 ∧ b = w + 8) ∨ (κ = 22 ∧ b = w + 9) ∨ (κ = 23 ∧ b = w + 10)) → hp_E γ κ b j = hp_E α κ b j) (hG : rG γ w) (hx : ∀ g, shF f v r N g → hp_I γ 400 (wtA w v) = g (76 + 4 * v) ∧ hp_I γ 401 (wtA w v) = g (77 + 4 * v)) : ws (f_X10_showTos_J88 n w γ (wtA w v) (shW f v r N)) (fun res => res.1 = shW f v r N ∧ (∀ g, shF f v r N g → WR res.2 w g) ∧ wfr w α res.2 ∧ rG res.2 w) := by
  have hwt : wtA w v ≠ w := by unfold wtA; omega
  obtain ⟨d1, d2, d3, d4⟩ := h.2.2.2.2.1 v hv
  refine ws_m (k_sh88 n w γ (wtA w v) hwt (shW f v r N)) (fun res hr => ?_)
  obtain ⟨r1, r2, r3, r4, r5, r6, r7, r8, r9, r10⟩ := hr
  have fI : ∀ φ b, ¬ (b = wtA w v ∧ 400 ≤ φ ∧ φ ≤ 403) → ¬ (b = w ∧ φ = 556) → ¬ (b = w + 5 ∧ φ = 301) → ¬ (b = w + 7 ∧ (φ = 453 ∨ φ = 454)) → hp_I res.2 φ b = hp_I α φ b := fun φ b q1 q2 q3 q4 => by rw [r5 φ b (by omega) q2]; exact eI φ b (by omega) q3 q4
  have fE : ∀ κ b j, ¬ (κ = 33 ∧ b = w + 4) → ¬ (κ = 20 ∧ b = w + 6) → ¬ ((κ = 21 ∧ b = w + 8) ∨ (κ = 22 ∧ b = w + 9) ∨ (κ = 23 ∧ b = w + 10)) → hp_E res.2 κ b j = hp_E α κ b j := fun κ b j q1 q2 q3 => by rw [r10]; exact eE κ b j q1 q2 q3
  refine ⟨r1, fun g hg => ?_, ⟨r6.trans eR, r7.trans eK, r8.trans eQ, r9.trans eN, fun φ b q => fI φ b (by unfold wtA; omega) (by omega) (by omega) (by omega), fun κ b j q => fE κ b j (by omega) (by omega) (by omega)⟩, ?_⟩
  · obtain ⟨x0, x1⟩ := hx g hg
    obtain ⟨-, g2, g3, g4, g5⟩ := hg
    refine WR_wt hv h hC (r6.trans eR) (r8.trans eQ) fI fE ?_ ⟨?_, ?_, ?_, ?_⟩ g5
    · rw [r4, eI 556 w (by omega) (by omega) (by omega), h.2.1.2.2.2, g4]
    · rw [r5 400 _ (by omega) (by omega)]; exact x0
    · rw [r5 401 _ (by omega) (by omega)]; exact x1
    · have e3 : hp_I γ 403 (wtA w v) = f (78 + 4 * v) := by rw [eI 403 _ (by omega) (by omega) (by omega)]; exact d3
      rw [r2, e3, g2]
      rcases hA.1 v hv with h0 | h0
      · rw [h0, if_pos rfl]
      · rw [h0, if_neg (by decide)]
        split <;> rfl
    · rw [r3, eI 402 _ (by omega) (by omega) (by omega), d4, g3]
  · unfold rG
    rw [r5 301 _ (by omega) (by omega)]
    exact hG
theorem shW_eq {f : Nat → Int32} {v r N : Nat} (h : shW f v r N = 0) (e : (f (76 + 4 * v)).toInt = (N : Int)) : f (77 + 4 * v) = TMK (f 1) (EL f r) 0 N := by
  unfold shW WBR WHY at h
  have e1 : (f (76 + 4 * v)).toInt.toNat = N := by omega
  rw [if_pos (by omega), e1, if_neg (Nat.lt_irrefl _), if_neg (Nat.lt_irrefl _), if_pos rfl] at h
  by_cases hc : f (77 + 4 * v) = TMK (f 1) (EL f r) 0 N
  · exact hc
  · rw [if_neg (fun q => hc q.1)] at h
    exact absurd h (by decide)
theorem k_sh69 (n : Nat) (α : hp_T) (w : Nat) (f : Nat → Int32) (h : WR α w f) (hC : rC f) (hA : AL01 f) (v r N : Nat) (hv : v < 4) (γ : hp_T) (hg : gf w α γ) (hG : rG γ w) (NI H w0 y : Int32) (hNI : NI.toInt = (N : Int)) (hH : H = TMK (f 1) (EL f r) 0 N) (hw0 : w0 = if (f (76 + 4 * v)).toInt ≤ (N : Int) then 1 else 0) (hy : y = shW f v r N) : ws (f_X10_showTos_J69 n w γ (wtA w v) NI H w0 y) (fun res => res.1 = shW f v r N ∧ (∀ g, shF f v r N g → WR res.2 w g) ∧ wfr w α res.2 ∧ rG res.2 w) := by
  obtain ⟨p1, p2, p3, p4, p5, p6⟩ := hg
  obtain ⟨d1, d2, d3, d4⟩ := h.2.2.2.2.1 v hv
  have i400 : hp_I γ 400 (wtA w v) = f (76 + 4 * v) := by rw [p5 400 _ (by omega) (by omega)]; exact d1
  have i401 : hp_I γ 401 (wtA w v) = f (77 + 4 * v) := by rw [p5 401 _ (by omega) (by omega)]; exact d2
  subst hy
  have hold : ¬ (shW f v r N = 0 ∧ (f (76 + 4 * v)).toInt < (N : Int)) → ws (f_X10_showTos_J88 n w γ (wtA w v) (shW f v r N)) (fun res => res.1 = shW f v r N ∧ (∀ g, shF f v r N g → WR res.2 w g) ∧ wfr w α res.2 ∧ rG res.2 w) := by
    intro hn
    refine k_shZ n α w f h hC hA v r N hv γ p1 p2 p3 p4 (fun φ b _ q2 q3 => p5 φ b q2 q3) p6 hG (fun g hg => ?_)
    obtain ⟨g1, -⟩ := hg
    rw [if_neg hn] at g1
    rw [i400, i401]
    exact ⟨g1.1.symm, g1.2.symm⟩
  unfold f_X10_showTos_J69
  refine ws_i (fun e => ws_i (fun e1 => ?_) (fun e1 => ?_)) (fun e => hold (fun q => e q.1))
  · refine hold (fun q => ?_)
    rw [hw0, if_pos (by omega)] at e1
    exact absurd e1 (by decide)
  · have hle : (f (76 + 4 * v)).toInt ≤ (N : Int) := by
      by_cases hc : (f (76 + 4 * v)).toInt ≤ (N : Int)
      · exact hc
      · rw [hw0, if_neg hc] at e1; exact absurd rfl e1
    refine ws_b (S := fun δ => δ = hp_sI (hp_sI γ 400 (wtA w v) NI) 401 (wtA w v) H) ?_ (fun δ hδ => ?_)
    · unfold f_X7_trust
      exact ws_l (ws_l (ws_s rfl))
    · have j5 : ∀ φ b, ¬ (b = wtA w v ∧ (φ = 400 ∨ φ = 401)) → hp_I δ φ b = hp_I γ φ b := fun φ b q => by rw [hδ, hI_sI, if_neg (by omega), hI_sI, if_neg (by omega)]
      have hs : hp_R δ = hp_R γ ∧ hp_K δ = hp_K γ ∧ hp_Q δ = hp_Q γ ∧ hp_N δ = hp_N γ ∧ hp_E δ = hp_E γ := by rw [hδ]; exact ⟨rfl, rfl, rfl, rfl, rfl⟩
      refine k_shZ n α w f h hC hA v r N hv δ (hs.1.trans p1) (hs.2.1.trans p2) (hs.2.2.1.trans p3) (hs.2.2.2.1.trans p4) (fun φ b q1 q2 q3 => by rw [j5 φ b q1]; exact p5 φ b q2 q3) (fun κ b j q1 q2 q3 => by rw [hs.2.2.2.2]; exact p6 κ b j q1 q2 q3) (by unfold rG; rw [j5 301 _ (by omega)]; exact hG) (fun g hg => ?_)
      have k0 : hp_I δ 400 (wtA w v) = NI := by rw [hδ, hI_sI, if_neg (by omega), hI_sI, if_pos ⟨rfl, rfl⟩]
      have k1 : hp_I δ 401 (wtA w v) = H := by rw [hδ, hI_sI, if_pos ⟨rfl, rfl⟩]
      rw [k0, k1]
      obtain ⟨g1, -⟩ := hg
      by_cases hlt : (f (76 + 4 * v)).toInt < (N : Int)
      · rw [if_pos ⟨e, hlt⟩] at g1
        exact ⟨Int32.toInt_inj.mp (by rw [hNI, g1.1]), by rw [hH, g1.2]⟩
      · rw [if_neg (fun q => hlt q.2)] at g1
        have he : (f (76 + 4 * v)).toInt = (N : Int) := by omega
        exact ⟨Int32.toInt_inj.mp (by rw [hNI, g1.1, he]), by rw [hH, g1.2, shW_eq e he]⟩
theorem k_showTo (n : Nat) (hn : 70000 ≤ n) (α : hp_T) (w : Nat) (f : Nat → Int32) (h : WR α w f) (hC : rC f) (hA : AL01 f) (hG : rG α w) (v r N : Nat) (hv : v < 4) (hr : r < (f 0).toInt.toNat) (hN : (N : Int) ≤ (f (72 + r)).toInt) (NI : Int32) (hNI : NI.toInt = (N : Int)) : ws (f_X10_showTo n α w (some (wtA w v)) (lpA w r) NI) (fun res => res.1 = shW f v r N ∧ (∀ g, shF f v r N g → WR res.2 w g) ∧ wfr w α res.2 ∧ rG res.2 w) := by
  have h4 := hC.1.2
  have hsz := hC.2.2.2.2.1 r (by omega)
  have hwt := hC.2.2.2.2.2.1 v hv
  have hm : 0 < (f 1).toInt := by have := hC.2.1; omega
  unfold f_X10_showTo
  refine ws_hS (ws_hc (k_headOf n hn w α (f 1) hm h.2.1.1 (lpA w r) (EL f r) (WR_LM h hC hr) N (by rw [EL_len]; omega) NI hNI) (fun H β hH => ?_))
  have g1 : gf w α β := gf_j h.1 hH.2
  have hWβ := WR_gf h hC g1
  have hGβ : rG β w := by unfold rG; rw [hH.2.2.2.2.2.1]; exact hG
  obtain ⟨d1, d2, d3, d4⟩ := hWβ.2.2.2.2.1 v hv
  have hH1 : H = TMK (f 1) (EL f r) 0 N := hH.1
  unfold f_X10_showTos_J27
  refine ws_l (ws_lt (fun e => ?_) (fun e => ?_))
  · rw [d1, hNI] at e
    refine ws_i (fun _ => ws_l (ws_l ?_)) (fun h => absurd rfl h)
    rw [d1, d2]
    refine ws_hc (k_whyGrown n hn β w f hWβ hC hGβ r hr N (f (76 + 4 * v)).toInt.toNat NI (f (76 + 4 * v)) H (f (77 + 4 * v)) hNI (by omega) (by omega)) (fun y γ hy => ?_)
    refine k_sh69 n α w f h hC hA v r N hv γ (gf_tr g1 hy.2.1) hy.2.2 NI H 0 y hNI hH1 (by rw [if_neg (by omega)]) ?_
    have hy1 : y = _ := hy.1
    rw [hy1]
    unfold shW
    rw [if_neg (show ¬ (f (76 + 4 * v)).toInt ≤ (N : Int) by omega), hH1, Int.toNat_of_nonneg hwt.1]
  · rw [d1, hNI] at e
    refine ws_i (fun h => absurd h (by decide)) (fun _ => ws_l (ws_l ?_))
    rw [d1, d2]
    refine ws_hc (k_whyGrown n hn β w f hWβ hC hGβ r hr (f (76 + 4 * v)).toInt.toNat N (f (76 + 4 * v)) NI (f (77 + 4 * v)) H (by omega) hNI (by omega)) (fun y γ hy => ?_)
    refine k_sh69 n α w f h hC hA v r N hv γ (gf_tr g1 hy.2.1) hy.2.2 NI H 1 y hNI hH1 (by rw [if_pos e]) ?_
    have hy1 : y = _ := hy.1
    rw [hy1]
    unfold shW
    rw [if_pos hN, if_pos e, hH1]
/-! ===== meet, side by side ===== -/
def meW (f : Nat → Int32) (a b r : Nat) : Int32 := if (f (76 + 4 * b)).toInt ≤ (f (72 + r)).toInt then WBR (f 1) (EL f r) (f (76 + 4 * a)).toInt.toNat (f (77 + 4 * a)) (f (76 + 4 * b)).toInt.toNat (f (77 + 4 * b)) else 5
theorem meW_rng (f : Nat → Int32) (a b r : Nat) : 0 ≤ (meW f a b r).toInt ∧ (meW f a b r).toInt ≤ 5 := by
  unfold meW WBR
  split
  · have := WHY_rng (f 1) (fun k => (mkl (f 1) (EL f r) (wyH (f (76 + 4 * a)).toInt.toNat (f (76 + 4 * b)).toInt.toNat).reverse).getD k 0) (wyH (f (76 + 4 * a)).toInt.toNat (f (76 + 4 * b)).toInt.toNat).length (f (76 + 4 * a)).toInt.toNat (f (77 + 4 * a)) (f (76 + 4 * b)).toInt.toNat (f (77 + 4 * b))
    omega
  · decide
def meF (f : Nat → Int32) (a b r : Nat) (g : Nat → Int32) : Prop := g (76 + 4 * a) = (if meW f a b r = 0 then f (76 + 4 * b) else f (76 + 4 * a)) ∧ g (77 + 4 * a) = (if meW f a b r = 0 then f (77 + 4 * b) else f (77 + 4 * a)) ∧ g (78 + 4 * a) = (if meW f a b r = 0 ∨ meW f a b r = 5 then f (78 + 4 * a) else 1) ∧ g (78 + 4 * b) = (if meW f a b r = 0 ∨ meW f a b r = 5 then f (78 + 4 * b) else 1) ∧ g 4 = f 4 + 1 ∧ ∀ j, j ≠ 76 + 4 * a → j ≠ 77 + 4 * a → j ≠ 78 + 4 * a → j ≠ 78 + 4 * b → j ≠ 4 → g j = f j
theorem v_m196 (n : Nat) (σ : ms_T) (y : Int32) : pr (f_X12_meet_J196 n σ y) (fun res => res.1 = y ∧ ms_E res.2 40 4 = ms_E σ 40 4 + 1 ∧ (∀ j, j ≠ 4 → ms_E res.2 40 j = ms_E σ 40 j) ∧ fr [] [40] σ res.2) := by
  unfold f_X12_meet_J196
  rw [c4]
  refine pr_g (fun _ _ => pr_g (fun _ _ => pr_l (pr_s ⟨rfl, ?_, fun j hj => ?_, fr_sE (by decide)⟩)))
  · rw [mE_sE, if_pos ⟨rfl, rfl⟩]
  · rw [mE_sE, if_neg (by omega)]
theorem v_m155 (n : Nat) (σ : ms_T) (a b : Nat) (ha : a < 4) (hb : b < 4) (aI bI : Int32) (haI : aI.toInt = (a : Int)) (hbI : bI.toInt = (b : Int)) (y : Int32) (hy : 0 ≤ y.toInt ∧ y.toInt ≤ 5) : pr (f_X12_meet_J155 n σ aI bI y) (fun res => res.1 = y ∧ ms_E res.2 40 (78 + 4 * a) = (if y = 0 ∨ y = 5 then ms_E σ 40 (78 + 4 * a) else 1) ∧ ms_E res.2 40 (78 + 4 * b) = (if y = 0 ∨ y = 5 then ms_E σ 40 (78 + 4 * b) else 1) ∧ ms_E res.2 40 4 = ms_E σ 40 4 + 1 ∧ (∀ j, j ≠ 78 + 4 * a → j ≠ 78 + 4 * b → j ≠ 4 → ms_E res.2 40 j = ms_E σ 40 j) ∧ fr [] [40] σ res.2) := by
  have L5 : (5 : Int32).toInt = 5 := by decide
  have ea := wtI2 a ha aI haI 2 (by decide) 2 rfl
  have eb := wtI2 b hb bI hbI 2 (by decide) 2 rfl
  rw [show 76 + 4 * a + 2 = 78 + 4 * a by omega] at ea
  rw [show 76 + 4 * b + 2 = 78 + 4 * b by omega] at eb
  unfold f_X12_meet_J155
  have hold : (y = 0 ∨ y = 5) → pr (f_X12_meet_J196 n σ y) (fun res => res.1 = y ∧ ms_E res.2 40 (78 + 4 * a) = (if y = 0 ∨ y = 5 then ms_E σ 40 (78 + 4 * a) else 1) ∧ ms_E res.2 40 (78 + 4 * b) = (if y = 0 ∨ y = 5 then ms_E σ 40 (78 + 4 * b) else 1) ∧ ms_E res.2 40 4 = ms_E σ 40 4 + 1 ∧ (∀ j, j ≠ 78 + 4 * a → j ≠ 78 + 4 * b → j ≠ 4 → ms_E res.2 40 j = ms_E σ 40 j) ∧ fr [] [40] σ res.2) := by
    intro h0
    rw [if_pos h0, if_pos h0]
    exact pr_m (v_m196 n σ y) (fun res h => ⟨h.1, h.2.2.1 _ (by omega), h.2.2.1 _ (by omega), h.2.1, fun j _ _ j3 => h.2.2.1 j j3, h.2.2.2⟩)
  refine pr_le (fun e => ?_) (fun e => pr_le (fun e1 => ?_) (fun e1 => ?_))
  · rw [lt0] at e
    exact hold (Or.inl (Int32.toInt_inj.mp (by rw [lt0]; omega)))
  · exact hold (Or.inr (Int32.toInt_inj.mp (by rw [L5]; omega)))
  · rw [lt0] at e
    have hno : ¬ (y = 0 ∨ y = 5) := fun h => by rcases h with h | h <;> rw [h] at e e1 <;> first | exact absurd e (by decide) | exact absurd e1 (by decide)
    rw [if_neg hno, if_neg hno, cl_n ea, cl_n eb]
    refine pr_g (fun _ _ => pr_l (pr_g (fun _ _ => pr_ln (fun τ hτ => ?_))))
    have q : ∀ j, j ≠ 78 + 4 * a → j ≠ 78 + 4 * b → ms_E τ 40 j = ms_E σ 40 j := fun j hj hj2 => by rw [hτ, mE_sE, if_neg (by omega), mE_sE, if_neg (by omega)]
    refine pr_m (v_m196 n τ y) (fun res h => ⟨h.1, ?_, ?_, ?_, fun j j1 j2 j3 => ?_, ?_⟩)
    · rw [h.2.2.1 _ (by omega), hτ, mE_sE]
      by_cases hab : a = b
      · rw [if_pos ⟨rfl, by rw [hab]⟩]
      · rw [if_neg (by omega), mE_sE, if_pos ⟨rfl, rfl⟩]
    · rw [h.2.2.1 _ (by omega), hτ, mE_sE, if_pos ⟨rfl, rfl⟩]
    · rw [h.2.1, q _ (by omega) (by omega)]
    · rw [h.2.2.1 j j3, q j j1 j2]
    · exact fr_tr (by rw [hτ]; exact fr_tr (fr_sE (by decide)) (fr_sE (by decide))) h.2.2.2
theorem v_m133 (n : Nat) (σ τ : ms_T) (e40 : ms_E τ 40 = ms_E σ 40) (hf : fr [657, 658, 659, 660] [42, 43, 44] σ τ) (a b r : Nat) (ha : a < 4) (hb : b < 4) (aI bI : Int32) (haI : aI.toInt = (a : Int)) (hbI : bI.toInt = (b : Int)) (s y : Int32) (hs : s = ms_E σ 40 (76 + 4 * b)) (hy : y = meW (ms_E σ 40) a b r) : pr (f_X12_meet_J133 n τ aI bI s y) (fun res => res.1 = meW (ms_E σ 40) a b r ∧ meF (ms_E σ 40) a b r (ms_E res.2 40) ∧ fr [657, 658, 659, 660] [40, 42, 43, 44] σ res.2) := by
  have hy5 : 0 ≤ y.toInt ∧ y.toInt ≤ 5 := by rw [hy]; exact meW_rng _ _ _ _
  have hf' : fr [657, 658, 659, 660] [40, 42, 43, 44] σ τ := fr_sb hf (by decide) (by decide)
  unfold f_X12_meet_J133 meF
  rw [← hy]
  refine pr_i (fun e => ?_) (fun e => ?_)
  · refine pr_b (v_trust n τ b hb bI hbI 1 (by decide) 1 rfl) (fun h1 hh1 => pr_b (v_trusts n τ a ha aI haI s h1) (fun υ hυ => ?_))
    rw [show 76 + 4 * b + 1 = 77 + 4 * b by omega, e40] at hh1
    rw [e40] at hυ
    obtain ⟨u1, u2, u3, u4⟩ := hυ
    refine pr_m (v_m155 n υ a b ha hb aI bI haI hbI y hy5) (fun res h => ?_)
    obtain ⟨h1, h2, h3, h4, h5, h6⟩ := h
    refine ⟨h1, ⟨?_, ?_, ?_, ?_, ?_, fun j j1 j2 j3 j4 j5 => ?_⟩, fr_tr hf' (fr_tr (fr_sb u4 (by decide) (by decide)) (fr_sb h6 (by decide) (by decide)))⟩
    · rw [if_pos e, h5 _ (by omega) (by omega) (by omega), u1, hs]
    · rw [if_pos e, h5 _ (by omega) (by omega) (by omega), u2, hh1]
    · rw [h2, u3 _ (by omega) (by omega)]
    · rw [h3, u3 _ (by omega) (by omega)]
    · rw [h4, u3 _ (by omega) (by omega)]
    · rw [h5 j j3 j4 j5, u3 j j1 j2]
  · refine pr_m (v_m155 n τ a b ha hb aI bI haI hbI y hy5) (fun res h => ?_)
    rw [e40] at h
    obtain ⟨h1, h2, h3, h4, h5, h6⟩ := h
    refine ⟨h1, ⟨?_, ?_, h2, h3, h4, fun j j1 j2 j3 j4 j5 => h5 j j3 j4 j5⟩, fr_tr hf' (fr_sb h6 (by decide) (by decide))⟩
    · rw [if_neg e]; exact h5 _ (by omega) (by omega) (by omega)
    · rw [if_neg e]; exact h5 _ (by omega) (by omega) (by omega)
theorem v_m80 (n : Nat) (σ : ms_T) (hC : rC (ms_E σ 40)) (a b r : Nat) (ha : a < 4) (hb : b < 4) (hr : r < 4) (aI bI rI : Int32) (haI : aI.toInt = (a : Int)) (hbI : bI.toInt = (b : Int)) (hrI : rI.toInt = (r : Int)) (hab : (ms_E σ 40 (76 + 4 * a)).toInt ≤ (ms_E σ 40 (76 + 4 * b)).toInt) : pr (f_X12_meet_J80 n σ rI aI bI) (fun res => res.1 = meW (ms_E σ 40) a b r ∧ meF (ms_E σ 40) a b r (ms_E res.2 40) ∧ fr [657, 658, 659, 660] [40, 42, 43, 44] σ res.2) := by
  have hsz := hC.2.2.2.2.1 r hr
  have hwa := hC.2.2.2.2.2.1 a ha
  have hwb := hC.2.2.2.2.2.1 b hb
  unfold f_X12_meet_J80
  refine pr_b (v_trust n σ b hb bI hbI 0 (by decide) 0 rfl) (fun s hs => pr_b (v_sizeOf n σ r hr rI hrI) (fun z hz => ?_))
  rw [Nat.add_zero] at hs
  refine pr_le (fun e => ?_) (fun e => ?_)
  · refine pr_b (v_trust n σ a ha aI haI 0 (by decide) 0 rfl) (fun t ht => pr_b (v_trust n σ a ha aI haI 1 (by decide) 1 rfl) (fun x hx => pr_b (v_trust n σ b hb bI hbI 1 (by decide) 1 rfl) (fun u hu => ?_)))
    rw [Nat.add_zero] at ht
    rw [show 76 + 4 * a + 1 = 77 + 4 * a by omega] at hx
    rw [show 76 + 4 * b + 1 = 77 + 4 * b by omega] at hu
    rw [hs, hz] at e
    refine pr_c (v_whyByRecord n σ hC r hr rI hrI (ms_E σ 40 (76 + 4 * a)).toInt.toNat (ms_E σ 40 (76 + 4 * b)).toInt.toNat t s x u (by rw [ht]; omega) (by rw [hs]; omega) (by omega) (by rw [EL_len]; omega)) (fun y τ hy => ?_)
    have e40 : ms_E τ 40 = ms_E σ 40 := funext (hy.2.2 40 (by decide))
    refine v_m133 n σ τ e40 hy.2 a b r ha hb aI bI haI hbI s y hs ?_
    unfold meW
    rw [if_pos e, ← hx, ← hu]
    exact hy.1
  · rw [hs, hz] at e
    refine v_m133 n σ σ rfl fr_rf a b r ha hb aI bI haI hbI s 5 hs ?_
    unfold meW
    rw [if_neg (by omega)]
theorem WR_wts {α β : hp_T} {w : Nat} {f g : Nat → Int32} (h : WR α w f) (hC : rC f) (eR : hp_R β = hp_R α) (eQ : hp_Q β = hp_Q α) (eI : ∀ φ b, ¬ ((w + 455 ≤ b ∧ b < w + 459) ∧ 400 ≤ φ ∧ φ ≤ 403) → ¬ (b = w ∧ φ = 556) → ¬ (b = w + 5 ∧ φ = 301) → ¬ (b = w + 7 ∧ (φ = 453 ∨ φ = 454)) → hp_I β φ b = hp_I α φ b) (eE : ∀ κ b j, ¬ (κ = 33 ∧ b = w + 4) → ¬ (κ = 20 ∧ b = w + 6) → ¬ ((κ = 21 ∧ b = w + 8) ∨ (κ = 22 ∧ b = w + 9) ∨ (κ = 23 ∧ b = w + 10)) → hp_E β κ b j = hp_E α κ b j) (e4 : hp_I β 556 w = g 4) (hw : ∀ v, v < 4 → WTN β w g v) (hg : ∀ j, ¬ (76 ≤ j ∧ j < 92) → j ≠ 4 → g j = f j) : WR β w g := by
  obtain ⟨h1, h2, h3, hF, hW, hX⟩ := h
  have b4 := hC.1
  have b16 := hC.2.2.2.1
  have c0 : g 0 = f 0 := hg 0 (by omega) (by decide)
  have c1 : g 1 = f 1 := hg 1 (by omega) (by decide)
  have c3 : g 3 = f 3 := hg 3 (by omega) (by decide)
  have c252 : ∀ j, 252 ≤ j → g j = f j := fun j hj => hg j (by omega) (by omega)
  refine ⟨SHW_e h1 eR eQ, ⟨?_, ?_, ?_, e4⟩, fun q hq => ?_, fun q hq => ?_, fun q hq => ?_, fun q hq => ?_⟩
  · rw [eI 550 w (by omega) (by omega) (by omega) (by omega), c1]; exact h2.1
  · rw [eI 552 w (by omega) (by omega) (by omega) (by omega), c0]; exact h2.2.1
  · rw [eI 554 w (by omega) (by omega) (by omega) (by omega), c3]; exact h2.2.2.1
  · rw [c0] at hq
    have c72 : g (72 + q) = f (72 + q) := hg _ (by omega) (by omega)
    have hsq := hC.2.2.2.2.1 q (by omega)
    rw [c72]
    refine ⟨by rw [eI 152 _ (by omega) (by omega) (by omega) (by omega)]; exact (h3 q hq).1, fun e he => ?_⟩
    obtain ⟨⟨d1, d2, d3, d4⟩, d5⟩ := (h3 q hq).2 e he
    unfold EN
    rw [ltr_k c252, EM_c1 c1 c252]
    refine ⟨⟨d1, by rw [eI 501 _ (by omega) (by omega) (by omega) (by omega)]; exact d2, fun k hk => ?_, d4⟩, ?_⟩
    · rw [eR, eE 27 _ k (by omega) (by omega) (by omega)]; exact d3 k hk
    · rw [eE 29 _ e (by omega) (by omega) (by omega)]; exact d5
  · rw [c3] at hq
    obtain ⟨d1, d2, d3, d4, d5, d6⟩ := hF q hq
    have e93 : g (93 + 10 * q) = f (93 + 10 * q) := hg _ (by omega) (by omega)
    refine ⟨?_, ?_, ?_, ?_, ?_, fun k hk hP => ?_⟩
    · rw [eI 100 _ (by omega) (by omega) (by omega) (by omega), d1]; exact (hg _ (by omega) (by omega)).symm
    · rw [eI 101 _ (by omega) (by omega) (by omega) (by omega), d2, e93]
    · rw [eI 102 _ (by omega) (by omega) (by omega) (by omega), d3]; exact (hg _ (by omega) (by omega)).symm
    · rw [eI 103 _ (by omega) (by omega) (by omega) (by omega), d4]; exact (hg _ (by omega) (by omega)).symm
    · rw [eI 301 _ (by omega) (by omega) (by unfold fzA; omega) (by omega), e93]; exact d5
    · rw [e93] at hk
      rw [eE 20 _ k (by omega) (by unfold fzA; omega) (by omega), d6 k hk hP]; exact (hg _ (by omega) (by omega)).symm
  · exact hw q hq
  · rw [eI 301 _ (by omega) (by omega) (by unfold fzA; omega) (by omega)]; exact hX q hq
theorem k_hear2 (n : Nat) (γ : hp_T) (wt : Nat) (y : Int32) (h : hp_I γ 403 wt = 0 ∨ hp_I γ 403 wt = 1) : ws (f_X7_hearWhy n γ wt y) (fun δ => δ = hp_sI γ 403 wt (if y = 0 ∨ y = 5 then hp_I γ 403 wt else 1)) := by
  unfold f_X7_hearWhy f_X7_hearWhy_J21 f_X7_hearWhy_J17
  refine ws_l (ws_i (fun e => ws_i (fun e1 => ws_l (ws_s ?_)) (fun e1 => ws_i (fun e2 => ws_l (ws_s ?_)) (fun e2 => ws_l (ws_s ?_)))) (fun e => ws_l (ws_s ?_)))
  · rw [if_pos (Or.inl e1), e]
  · rw [if_pos (Or.inr e2), e]
  · rw [if_neg (fun h => h.elim e1 e2)]
  · have h1 : hp_I γ 403 wt = 1 := h.resolve_left e
    rw [h1]
    split <;> rfl
theorem k_mZ (n : Nat) (α : hp_T) (w : Nat) (f : Nat → Int32) (h : WR α w f) (hC : rC f) (hA : AL01 f) (a b r : Nat) (ha : a < 4) (hb : b < 4) (γ : hp_T) (eR : hp_R γ = hp_R α) (eK : hp_K γ = hp_K α) (eQ : hp_Q γ = hp_Q α) (eN : hp_N γ = hp_N α) (eI : ∀ φ x, ¬ (x = wtA w a ∧ (φ = 400 ∨ φ = 401)) → ¬ (x = w + 5 ∧ φ = 301) → ¬ (x = w + 7 ∧ (φ = 453 ∨ φ = 454)) → hp_I γ φ x = hp_I α φ x) (eE : ∀ κ x j, ¬ (κ = 33 ∧ x = w + 4) → ¬ (κ = 20 ∧ x = w + 6) → ¬ ((κ = 21 ∧ x = w + 8) ∨ (κ = 22 ∧ x = w + 9) ∨ (κ = 23 ∧ x = w + 10)) → hp_E γ κ x j = hp_E α κ x j) (hG : rG γ w) (hx : ∀ g, meF f a b r g → hp_I γ 400 (wtA w a) = g (76 + 4 * a) ∧ hp_I γ 401 (wtA w a) = g (77 + 4 * a)) : ws (f_X10_meetBy_J89 n w γ (wtA w a) (wtA w b) (meW f a b r)) (fun res => res.1 = meW f a b r ∧ (∀ g, meF f a b r g → WR res.2 w g) ∧ wfr w α res.2 ∧ rG res.2 w) := by
  have hW := h.2.2.2.2.1
  have i403 : ∀ v, v < 4 → hp_I γ 403 (wtA w v) = f (78 + 4 * v) := fun v hv => by rw [eI 403 _ (by omega) (by omega) (by omega)]; exact (hW v hv).2.2.1
  obtain ⟨y, hy⟩ : ∃ y, y = meW f a b r := ⟨_, rfl⟩
  rw [← hy]
  unfold f_X10_meetBy_J89
  refine ws_b (k_hear2 n γ (wtA w a) y (by rw [i403 a ha]; exact hA.1 a ha)) (fun δ hδ => ?_)
  have d403 : ∀ v, v < 4 → hp_I δ 403 (wtA w v) = if v = a then (if y = 0 ∨ y = 5 then f (78 + 4 * a) else 1) else f (78 + 4 * v) := by
    intro v hv
    rw [hδ, hI_sI]
    by_cases hva : v = a
    · subst hva; rw [if_pos ⟨rfl, rfl⟩, if_pos rfl, i403 v hv]
    · rw [if_neg (fun q => hva (by have := q.2; unfold wtA at this; omega)), if_neg hva, i403 v hv]
  have hb01 : hp_I δ 403 (wtA w b) = 0 ∨ hp_I δ 403 (wtA w b) = 1 := by
    rw [d403 b hb]
    by_cases hba : b = a
    · rw [if_pos hba]
      split
      · exact hA.1 a ha
      · exact Or.inr rfl
    · rw [if_neg hba]; exact hA.1 b hb
  refine ws_b (k_hear2 n δ (wtA w b) y hb01) (fun ε hε => ws_l (ws_l (ws_s ?_)))
  have r5 : ∀ φ x, ¬ ((w + 455 ≤ x ∧ x < w + 459) ∧ φ = 403) → hp_I ε φ x = hp_I γ φ x := fun φ x q => by rw [hε, hI_sI, if_neg (fun e => q ⟨by rw [e.2]; unfold wtA; omega, e.1⟩), hδ, hI_sI, if_neg (fun e => q ⟨by rw [e.2]; unfold wtA; omega, e.1⟩)]
  have rs : hp_R ε = hp_R γ ∧ hp_K ε = hp_K γ ∧ hp_Q ε = hp_Q γ ∧ hp_N ε = hp_N γ ∧ hp_E ε = hp_E γ := by rw [hε, hδ]; exact ⟨rfl, rfl, rfl, rfl, rfl⟩
  have fI : ∀ φ x, ¬ ((w + 455 ≤ x ∧ x < w + 459) ∧ 400 ≤ φ ∧ φ ≤ 403) → ¬ (x = w ∧ φ = 556) → ¬ (x = w + 5 ∧ φ = 301) → ¬ (x = w + 7 ∧ (φ = 453 ∨ φ = 454)) → hp_I (hp_sI ε 556 w (hp_I ε 556 w + 1)) φ x = hp_I α φ x := fun φ x q1 q2 q3 q4 => by rw [hI_sI, if_neg (fun e => q2 ⟨e.2, e.1⟩), r5 φ x (by omega)]; exact eI φ x (fun q => q1 ⟨by rw [q.1]; unfold wtA; omega, by omega⟩) q3 q4
  have fE : ∀ κ x j, ¬ (κ = 33 ∧ x = w + 4) → ¬ (κ = 20 ∧ x = w + 6) → ¬ ((κ = 21 ∧ x = w + 8) ∨ (κ = 22 ∧ x = w + 9) ∨ (κ = 23 ∧ x = w + 10)) → hp_E (hp_sI ε 556 w (hp_I ε 556 w + 1)) κ x j = hp_E α κ x j := fun κ x j q1 q2 q3 => by show hp_E ε κ x j = _; rw [rs.2.2.2.2]; exact eE κ x j q1 q2 q3
  refine ⟨rfl, fun g hg => ?_, ⟨rs.1.trans eR, rs.2.1.trans eK, rs.2.2.1.trans eQ, rs.2.2.2.1.trans eN, fun φ x q => fI φ x (by omega) (by omega) (by omega) (by omega), fun κ x j q => fE κ x j (by omega) (by omega) (by omega)⟩, ?_⟩
  · obtain ⟨x0, x1⟩ := hx g hg
    obtain ⟨-, -, g3, g4, g5, g6⟩ := hg
    rw [← hy] at g3 g4
    refine WR_wts h hC (rs.1.trans eR) (rs.2.2.1.trans eQ) fI fE ?_ (fun v hv => ?_) (fun j j1 j2 => g6 j (by omega) (by omega) (by omega) (by omega) j2)
    · rw [hI_sI, if_pos ⟨rfl, rfl⟩, r5 556 w (by omega), eI 556 w (by omega) (by omega) (by omega), h.2.1.2.2.2, g5]
    · obtain ⟨d1, d2, d3, d4⟩ := hW v hv
      have hs : ∀ φ, 400 ≤ φ → φ ≤ 402 → hp_I (hp_sI ε 556 w (hp_I ε 556 w + 1)) φ (wtA w v) = hp_I γ φ (wtA w v) := fun φ _ _ => by rw [hI_sI, if_neg (by omega), r5 φ _ (by omega)]
      have h403 : hp_I (hp_sI ε 556 w (hp_I ε 556 w + 1)) 403 (wtA w v) = g (78 + 4 * v) := by
        rw [hI_sI, if_neg (by omega), hε, hI_sI]
        by_cases hvb : v = b
        · subst hvb
          rw [if_pos ⟨rfl, rfl⟩, g4, d403 v hv]
          by_cases hva : v = a
          · subst hva; rw [if_pos rfl]; split <;> rfl
          · rw [if_neg hva]
        · rw [if_neg (fun q => hvb (by have := q.2; unfold wtA at this; omega)), d403 v hv]
          by_cases hva : v = a
          · subst hva; rw [if_pos rfl, g3]
          · rw [if_neg hva]; exact (g6 _ (by omega) (by omega) (by omega) (by omega) (by omega)).symm
      refine ⟨?_, ?_, h403, ?_⟩
      · rw [hs 400 (by decide) (by decide)]
        by_cases hva : v = a
        · subst hva; exact x0
        · rw [eI 400 _ (fun q => hva (by have := q.1; unfold wtA at this; omega)) (by omega) (by omega), d1]; exact (g6 _ (by omega) (by omega) (by omega) (by omega) (by omega)).symm
      · rw [hs 401 (by decide) (by decide)]
        by_cases hva : v = a
        · subst hva; exact x1
        · rw [eI 401 _ (fun q => hva (by have := q.1; unfold wtA at this; omega)) (by omega) (by omega), d2]; exact (g6 _ (by omega) (by omega) (by omega) (by omega) (by omega)).symm
      · rw [hs 402 (by decide) (by decide), eI 402 _ (by omega) (by omega) (by omega), d4]; exact (g6 _ (by omega) (by omega) (by omega) (by omega) (by omega)).symm
  · unfold rG
    rw [hI_sI, if_neg (by omega), r5 301 _ (by omega)]
    exact hG
theorem k_m40 (n : Nat) (hn : 70000 ≤ n) (α : hp_T) (w : Nat) (f : Nat → Int32) (h : WR α w f) (hC : rC f) (hA : AL01 f) (hG : rG α w) (a b r : Nat) (ha : a < 4) (hb : b < 4) (hr : r < (f 0).toInt.toNat) (hab : (f (76 + 4 * a)).toInt ≤ (f (76 + 4 * b)).toInt) : ws (f_X10_meetBy_J40 n w α (lpA w r) (wtA w a) (wtA w b)) (fun res => res.1 = meW f a b r ∧ (∀ g, meF f a b r g → WR res.2 w g) ∧ wfr w α res.2 ∧ rG res.2 w) := by
  have hwa := hC.2.2.2.2.2.1 a ha
  have hwb := hC.2.2.2.2.2.1 b hb
  obtain ⟨a1, a2, a3, a4⟩ := h.2.2.2.2.1 a ha
  obtain ⟨b1, b2, b3, b4⟩ := h.2.2.2.2.1 b hb
  unfold f_X10_meetBy_J40
  refine ws_l (ws_l (ws_l (ws_l ?_)))
  rw [a1, a2, b1, b2]
  refine ws_hc (k_whyGrown n hn α w f h hC hG r hr (f (76 + 4 * a)).toInt.toNat (f (76 + 4 * b)).toInt.toNat (f (76 + 4 * a)) (f (76 + 4 * b)) (f (77 + 4 * a)) (f (77 + 4 * b)) (by omega) (by omega) (by omega)) (fun y γ hy => ?_)
  obtain ⟨hy1, ⟨p1, p2, p3, p4, p5, p6⟩, hGγ⟩ := hy
  rw [Int.toNat_of_nonneg hwb.1] at hy1
  have hy2 : y = meW f a b r := hy1
  subst hy2
  have g400 : ∀ v, v < 4 → hp_I γ 400 (wtA w v) = f (76 + 4 * v) := fun v hv => by rw [p5 400 _ (by omega) (by omega)]; exact (h.2.2.2.2.1 v hv).1
  have g401 : ∀ v, v < 4 → hp_I γ 401 (wtA w v) = f (77 + 4 * v) := fun v hv => by rw [p5 401 _ (by omega) (by omega)]; exact (h.2.2.2.2.1 v hv).2.1
  refine ws_i (fun e => ws_l (ws_l ?_)) (fun e => ?_)
  · rw [g400 b hb, g401 b hb]
    refine ws_b (S := fun δ => δ = hp_sI (hp_sI γ 400 (wtA w a) (f (76 + 4 * b))) 401 (wtA w a) (f (77 + 4 * b))) ?_ (fun δ hδ => ?_)
    · unfold f_X7_trust
      exact ws_l (ws_l (ws_s rfl))
    · have j5 : ∀ φ x, ¬ (x = wtA w a ∧ (φ = 400 ∨ φ = 401)) → hp_I δ φ x = hp_I γ φ x := fun φ x q => by rw [hδ, hI_sI, if_neg (by omega), hI_sI, if_neg (by omega)]
      have hs : hp_R δ = hp_R γ ∧ hp_K δ = hp_K γ ∧ hp_Q δ = hp_Q γ ∧ hp_N δ = hp_N γ ∧ hp_E δ = hp_E γ := by rw [hδ]; exact ⟨rfl, rfl, rfl, rfl, rfl⟩
      refine k_mZ n α w f h hC hA a b r ha hb δ (hs.1.trans p1) (hs.2.1.trans p2) (hs.2.2.1.trans p3) (hs.2.2.2.1.trans p4) (fun φ x q1 q2 q3 => by rw [j5 φ x q1]; exact p5 φ x q2 q3) (fun κ x j q1 q2 q3 => by rw [hs.2.2.2.2]; exact p6 κ x j q1 q2 q3) (by unfold rG; rw [j5 301 _ (by omega)]; exact hGγ) (fun g hg => ?_)
      obtain ⟨q1, q2, -⟩ := hg
      rw [if_pos e] at q1 q2
      refine ⟨?_, ?_⟩
      · rw [hδ, hI_sI, if_neg (by omega), hI_sI, if_pos ⟨rfl, rfl⟩, q1]
      · rw [hδ, hI_sI, if_pos ⟨rfl, rfl⟩, q2]
  · refine k_mZ n α w f h hC hA a b r ha hb γ p1 p2 p3 p4 (fun φ x _ q2 q3 => p5 φ x q2 q3) p6 hGγ (fun g hg => ?_)
    obtain ⟨q1, q2, -⟩ := hg
    rw [if_neg e] at q1 q2
    exact ⟨by rw [g400 a ha, q1], by rw [g401 a ha, q2]⟩
