set_option maxRecDepth 100000
/-! ===== entry ===== -/
abbrev enOK (f : Nat → Int32) (a b c : Int32) : Prop := 0 ≤ b.toInt ∧ 0 ≤ c.toInt ∧ (0 ≤ a.toInt ∧ a.toInt < (f 0).toInt) ∧ b.toInt < (f (72 + a.toInt.toNat)).toInt
def enA (f : Nat → Int32) (a b c : Int32) : Int32 := if enOK f a b c then (if c.toInt = 0 then f (252 + (48 * a.toInt.toNat + b.toInt.toNat)) else if c.toInt = 1 then EM f a.toInt.toNat b.toInt.toNat else if c.toInt - 2 < (f (252 + (48 * a.toInt.toNat + b.toInt.toNat))).toInt then f (444 + 8 * (48 * a.toInt.toNat + b.toInt.toNat) + (c.toInt - 2).toNat) else -1) else -1
theorem v_entry (n : Nat) (σ : ms_T) (hC : rC (ms_E σ 40)) (a b c : Int32) : pr (f_X12_entry n σ a b c) (fun res => res.1 = enA (ms_E σ 40) a b c) := by
  have h4 := hC.1
  have t2 := t_2
  have t48 := t_48
  have t252 := t_252
  have t444 := t_444
  have t8 := t_8
  have bad : ∀ v : Int32, ¬ v = 0 → ¬ enOK (ms_E σ 40) a b c → pr (f_X12_entry_J39 n σ a b c v) (fun res => res.1 = enA (ms_E σ 40) a b c) := fun v hv hno => by
    unfold f_X12_entry_J39 enA
    refine v_is1 n σ v hv (pr_s ?_)
    rw [if_neg hno]
  unfold f_X12_entry f_X12_entry_J9
  refine pr_lt (fun e => bad 1 (by decide) (fun q => by rw [lt0] at e; have := q.1; omega)) (fun e0 => pr_le (fun e1 => pr_bo (pr_w (s_isRecord hC a)) (fun h0 => bad 2 (by decide) (fun q => h0 q.2.2.1)) (fun h1 => ?_)) (fun e => bad 1 (by decide) (fun q => by rw [lt0] at e; have := q.2.1; omega)))
  rw [lt0] at e0 e1
  have hsz := hC.2.2.2.2.1 a.toInt.toNat (by omega)
  unfold f_X12_sizeOf
  refine pr_b (T := fun v => v = ms_E σ 40 (72 + a.toInt.toNat)) (pr_g (fun g0 g1 => pr_s ?_)) (fun v hv => ?_)
  · rw [cl_n (i := (72 : Int32) + a) (k := 72 + a.toInt.toNat) (by rw [iw_add, t_72]; omega)]
  · rw [hv]
    refine pr_lt (fun e2 => ?_) (fun e2 => bad 5 (by decide) (fun q => by have := q.2.2.2; omega))
    have ok : enOK (ms_E σ 40) a b c := ⟨e0, e1, h1, e2⟩
    have hq := hC.2.2.2.2.2.2.2.2 (48 * a.toInt.toNat + b.toInt.toNat) (by omega)
    unfold f_X12_entry_J39 enA
    rw [if_pos ok]
    refine v_is0 n σ (pr_ln (fun xx hxx => ?_))
    have hx : xx.toInt = ((48 * a.toInt.toNat + b.toInt.toNat : Nat) : Int) := by rw [hxx, iw_add, iw_mul, t48]; omega
    have e252 : ((252 : Int32) + xx).toNatClampNeg = 252 + (48 * a.toInt.toNat + b.toInt.toNat) := cl_n (by rw [iw_add, t252, hx]; omega)
    refine pr_le (fun c2 => pr_g (fun _ _ => ?_)) (fun c2 => pr_i (fun c0 => pr_g (fun _ _ => pr_s ?_)) (fun c0 => ?_))
    · rw [t2] at c2
      rw [e252, if_neg (show ¬ c.toInt = 0 by omega), if_neg (show ¬ c.toInt = 1 by omega)]
      have ec : (c - 2).toInt = c.toInt - 2 := by rw [iw_sub, t2]; have := ib_hi c; omega
      show pr (if ms_E σ 40 (252 + (48 * a.toInt.toNat + b.toInt.toNat)) ≤ c - 2 then _ else _) _
      refine pr_le (fun d => ?_) (fun d => ?_)
      · rw [ec] at d
        rw [if_neg (show ¬ c.toInt - 2 < (ms_E σ 40 (252 + (48 * a.toInt.toNat + b.toInt.toNat))).toInt by omega)]
        exact pr_c (v_refuse n _ 5) (fun r τ h => pr_s h)
      · rw [ec] at d
        rw [if_pos d]
        refine pr_g (fun _ _ => pr_s ?_)
        obtain ⟨K, hK⟩ : ∃ K, K = 48 * a.toInt.toNat + b.toInt.toNat := ⟨_, rfl⟩
        rw [← hK] at hx d hq ⊢
        have hK192 : K < 192 := by omega
        have s1 : ((8 : Int32) * xx).toInt = 8 * (K : Int) := by rw [iw_mul, t8, hx]; omega
        have s2 : ((444 : Int32) + 8 * xx).toInt = 444 + 8 * (K : Int) := by rw [iw_add, t444, s1]; omega
        have s3 : ((444 : Int32) + 8 * xx + c).toInt = 444 + 8 * (K : Int) + c.toInt := by rw [iw_add, s2]; omega
        have s4 : ((444 : Int32) + 8 * xx + c - 2).toInt = ((444 + 8 * K + (c.toInt - 2).toNat : Nat) : Int) := by rw [iw_sub, s3, t2]; omega
        rw [cl_n s4]
        rfl
    · have : c.toInt = 0 := by rw [c0]; rfl
      rw [if_pos this, e252]; rfl
    · rw [t2] at c2
      have n0 : ¬ c.toInt = 0 := fun q => c0 (Int32.toInt_inj.mp (by rw [q]; rfl))
      rw [if_neg n0, if_pos (show c.toInt = 1 by omega)]
      refine pr_b (v_entryMark n _ a.toInt.toNat b.toInt.toNat (by omega) (by omega) a b (by omega) (by omega) hq.1 hq.2) (fun v hv => pr_s hv)
theorem k_entry (n : Nat) (hn : 70000 ≤ n) (α : hp_T) (x : Nat) (f : Nat → Int32) (hC : rC f) (h : RWX α x f) (a b c : Int32) : ws (f_X11_entry n α x a b c) (fun res => res.1 = enA f a b c) := by
  have t2 := t_2
  have t1 := lt1
  have b4 := hC.1
  obtain ⟨w, u, h1, h2, h3, h4, -⟩ := h
  have bad : ∀ v : Int32, ¬ enOK f a b c → ws (hq_c (f_X11_refuse n α x v) fun r β => some (r, β)) (fun res => res.1 = enA f a b c) := fun v hno => by
    unfold enA
    rw [if_neg hno]
    exact ws_hc (k_refuse n α x v) (fun z γ hz => ws_s hz.1)
  unfold f_X11_entry f_X11_entry_J8
  refine ws_lt (fun e => bad 1 (fun q => by rw [lt0] at e; have := q.1; omega)) (fun e0 => ws_le (fun e1 => ws_l ?_) (fun e => bad 1 (fun q => by rw [lt0] at e; have := q.2.1; omega)))
  rw [lt0] at e0 e1
  rw [h1]
  refine ws_b (k_logAt n h4 hC a) (fun o ho => ?_)
  by_cases hr : 0 ≤ a.toInt ∧ a.toInt < (f 0).toInt
  · rw [if_pos hr] at ho
    subst ho
    have hsz := hC.2.2.2.2.1 a.toInt.toNat (by omega)
    have q152 := (h4.2.2.1 a.toInt.toNat (by omega)).1
    refine ws_hS (ws_b (k_wordAt2 n h4.1 (by omega) (s := (f (72 + a.toInt.toNat)).toInt.toNat) (by rw [q152]; omega) (by omega) b e0) (fun o ho => ?_))
    by_cases hb : b.toInt < (((f (72 + a.toInt.toNat)).toInt.toNat : Nat) : Int)
    · rw [if_pos hb] at ho
      subst ho
      have ok : enOK f a b c := ⟨e0, e1, hr, by omega⟩
      obtain ⟨hW, hmk⟩ := (h4.2.2.1 a.toInt.toNat (by omega)).2 b.toInt.toNat (by omega)
      have hll := ltr_len f a.toInt.toNat b.toInt.toNat
      have hle := hC.2.2.2.2.2.2.2.2 (48 * a.toInt.toNat + b.toInt.toNat) (by omega)
      have h501 := hW.2.1
      rw [hll] at h501
      have i501 : hp_I α 501 (wdA w a.toInt.toNat b.toInt.toNat) = f (252 + (48 * a.toInt.toNat + b.toInt.toNat)) := Int32.toInt_inj.mp (by rw [h501]; omega)
      have fin : ∀ v : Int32, v = enA f a b c → ws (hq_c (f_X11_answer n α x v) fun r β => some (r, β)) (fun res => res.1 = enA f a b c) := fun v hv => ws_hc (k_answer n α x v) (fun z γ hz => ws_s (hz.1.trans hv))
      have eA : enA f a b c = (if c.toInt = 0 then f (252 + (48 * a.toInt.toNat + b.toInt.toNat)) else if c.toInt = 1 then EM f a.toInt.toNat b.toInt.toNat else if c.toInt - 2 < (f (252 + (48 * a.toInt.toNat + b.toInt.toNat))).toInt then f (444 + 8 * (48 * a.toInt.toNat + b.toInt.toNat) + (c.toInt - 2).toNat) else -1) := by unfold enA; rw [if_pos ok]
      refine ws_hS (ws_i (fun c0 => ws_l (fin _ ?_)) (fun c0 => ws_i (fun c1 => ?_) (fun c1 => ws_l ?_)))
      · rw [i501, eA, if_pos (by rw [c0]; rfl)]
      · refine ws_b (k_markAt n (WR_LM h4 hC (by omega)) b.toInt.toNat b (by omega) (by rw [EL_len]; omega)) (fun v hv => fin v ?_)
        have hg := EL_get f a.toInt.toNat b.toInt.toNat (by omega)
        rw [List.getElem?_eq_getElem (by rw [EL_len]; omega)] at hg
        rw [hv, eA, if_neg (show ¬ c.toInt = 0 by rw [c1]; decide), if_pos (show c.toInt = 1 by rw [c1]; rfl)]
        exact Option.some.inj hg
      · have n0 : ¬ c.toInt = 0 := fun q => c0 (Int32.toInt_inj.mp (by rw [q]; rfl))
        have n1 : ¬ c.toInt = 1 := fun q => c1 (Int32.toInt_inj.mp (by rw [q]; rfl))
        have ec : (c - 2).toInt = c.toInt - 2 := by rw [iw_sub, t2]; have := ib_hi c; omega
        rw [i501]
        refine ws_le (fun d => ?_) (fun d => ?_)
        · rw [ec] at d
          refine ws_hc (k_refuse n α x 5) (fun z γ hz => ws_s (hz.1.trans ?_))
          rw [eA, if_neg n0, if_neg n1, if_neg (show ¬ c.toInt - 2 < (f (252 + (48 * a.toInt.toNat + b.toInt.toNat))).toInt by omega)]
        · rw [ec] at d
          have hk : (c.toInt - 2).toNat < (ltr f a.toInt.toNat b.toInt.toNat).length := by rw [hll]; omega
          refine ws_b (k_letterAt n hW (c.toInt - 2).toNat (c - 2) (by rw [ec]; omega) hk) (fun y hy => fin y ?_)
          have hg := ltr_get f a.toInt.toNat b.toInt.toNat (c.toInt - 2).toNat (by omega)
          rw [List.getElem?_eq_getElem hk] at hg
          rw [hy, eA, if_neg n0, if_neg n1, if_pos d]
          exact Option.some.inj hg
    · rw [if_neg hb] at ho
      subst ho
      exact ws_hN (bad 5 (fun q => hb (by have := q.2.2.2; omega)))
  · rw [if_neg hr] at ho
    subst ho
    exact ws_hN (bad 2 (fun q => hr q.2.2.1))
