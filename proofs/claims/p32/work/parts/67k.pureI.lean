/-! ===== hear ===== -/
def TM (σ τ : ms_T) : Prop := fr [670, 671, 672, 673, 674, 675] [44] σ τ ∧ PI τ ∧ ((ms_I τ 670).toInt = 0 → (ms_I σ 670).toInt = 0 ∧ (ms_I σ 673).toInt < (ms_I τ 673).toInt)
theorem TM_T {σ τ υ : ms_T} (h : T σ τ) (g : TM τ υ) : TM σ υ := by
  refine ⟨fr_tr (fr_sb h.1 (by decide) (by decide)) g.1, g.2.1, fun e => ?_⟩
  have a := g.2.2 e
  have b := h.2.2 a.1
  exact ⟨b.1, by omega⟩
theorem s_takesMarks_L (n : Nat) (hn : 70000 ≤ n) {σ0 : ms_T} (hC : rC (ms_E σ0 40)) : ∀ (k : Nat) (σ : ms_T) (v : Int32), TM σ0 σ → 0 ≤ v.toInt → v.toInt ≤ 64 → 66 - v.toInt ≤ (k : Int) → ws (f_X12_takesMarks_L8 n k σ v) (fun q => TM σ0 q.2) := by
  intro k
  induction k with
  | zero => intro σ v h g0 g1 g2; omega
  | succ k ih =>
    intro σ v h g0 g1 g2
    have l0 := lt0
    have t2 := t_2
    have t64 := t_64
    rw [f_X12_takesMarks_L8.eq_2]
    have h82 : ws (f_X12_takesMarks_J82 n σ v) (fun q => TM σ0 q.2) := by
      unfold f_X12_takesMarks_J82
      refine ws_b (s_takesEnd n hn h.2.1) (fun τ hτ => ws_s ⟨fr_tr h.1 (fr_sb hτ.1 (by decide) (by decide)), hτ.2.1, fun e => ?_⟩)
      have a := hτ.2.2 e
      have b := h.2.2 a.1
      exact ⟨b.1, by show _ < (ms_I τ 673).toInt; have := a.2; have := b.2; omega⟩
    refine ws_ee (fun _ e => ws_ee (fun _ e4 => ?_) (fun _ => h82)) (fun _ => h82)
    refine ws_b (s_isMark (rC_fr hC h.1 (by decide)) _) (fun r hr => ws_b (s_must n σ r 3 h.2.1.2.2.2.2 (by decide)) (fun τ hτ => ?_))
    have hPτ := PI_w h.2.1 hτ.1 hτ.2.1
    have hJ : ∀ w : Int32, (¬ w = 0 → v.toInt < 64) → ws (f_X12_takesMarks_J48 n (f_X12_takesMarks_L8 n k) τ v w) (fun q => TM σ0 q.2) := by
      intro w hw
      unfold f_X12_takesMarks_J48
      refine ws_b (s_must n τ w 6 hτ.2.1 (by decide)) (fun υ hυ => ?_)
      have f2 : fr [670, 671] [] σ υ := fr_tr hτ.1 hυ.1
      have hPυ := PI_w h.2.1 f2 hυ.2.1
      refine ws_le (fun e => ?_) (fun e => ws_s ⟨fr_tr h.1 (fr_sb f2 (by decide) (by decide)), hPυ, fun q => by have q : (ms_I υ 670).toInt = 0 := q; omega⟩)
      have hq := hυ.2.2 (by have := hυ.2.1; omega)
      have hv := hw hq.1
      have fe : fr [] [44] υ (ms_sE υ 44 v.toNatClampNeg (ms_I υ 675)) := fr_sE (by decide)
      have hPe := PI_fr hPυ fe (by decide) (by decide) (by decide) (by decide) (by decide)
      refine ws_g g0 (by omega) (ws_l (ws_l (ws_b (s_reads1 n hn hPe (by rw [fe.1 674 (by decide), f2.1 674 (by decide)]; omega)) (fun ρ hρ => ?_))))
      have fρ : fr [672, 673, 674, 675] [] _ ρ := hρ.1.1
      refine ih ρ (v + 1) ⟨fr_tr h.1 (fr_tr (fr_sb f2 (by decide) (by decide)) (fr_tr (fr_sb fe (by decide) (by decide)) (fr_sb fρ (by decide) (by decide)))), hρ.2.1, fun _ => ?_⟩ (by (try simp only [iw_add, iw_sub, iw_mul, t_m1, lt0, lt1, t_2, t_3, t_4, t_5, t_6, t_8, t_9, t_10, t_16, t_20, t_24, t_26, t_30, t_31, t_48, t_64, t_72, t_76, t_92, t_101, t_252, t_444, t_512, t_900, t_1980, t_65521, t_99999, t_mil]) <;> omega) (by (try simp only [iw_add, iw_sub, iw_mul, t_m1, lt0, lt1, t_2, t_3, t_4, t_5, t_6, t_8, t_9, t_10, t_16, t_20, t_24, t_26, t_30, t_31, t_48, t_64, t_72, t_76, t_92, t_101, t_252, t_444, t_512, t_900, t_1980, t_65521, t_99999, t_mil]) <;> omega) (by (try simp only [iw_add, iw_sub, iw_mul, t_m1, lt0, lt1, t_2, t_3, t_4, t_5, t_6, t_8, t_9, t_10, t_16, t_20, t_24, t_26, t_30, t_31, t_48, t_64, t_72, t_76, t_92, t_101, t_252, t_444, t_512, t_900, t_1980, t_65521, t_99999, t_mil]) <;> omega)
      have b := h.2.2 (by omega)
      have c := hρ.2.2
      rw [fe.1 673 (by decide), f2.1 673 (by decide)] at c
      exact ⟨b.1, by have := b.2; omega⟩
    exact ws_le (fun _ => hJ _ (fun q => absurd rfl q)) (fun g => hJ _ (fun _ => by omega))
theorem s_takesMarks (n : Nat) (hn : 70000 ≤ n) {σ : ms_T} (hC : rC (ms_E σ 40)) (h : PI σ) : ws (f_X12_takesMarks n σ) (fun q => TM σ q.2) := by
  unfold f_X12_takesMarks
  refine ws_b (s_takes n hn h 11 (by decide) (by decide)) (fun τ hτ => ?_)
  exact s_takesMarks_L n hn hC n τ 0 ⟨fr_sb hτ.1 (by decide) (by decide), hτ.2.1, hτ.2.2⟩ (by decide) (by decide) (by rw [lt0]; omega)
def HW : List Nat := [657, 658, 659, 660, 670, 671, 672, 673, 674, 675]
def HE : List Nat := [42, 43, 44]
def SI (σ : ms_T) (q : Int32 × ms_T) : Prop := fr HW HE σ q.2 ∧ PI q.2 ∧ ((ms_I q.2 670).toInt = 0 → (ms_I σ 673).toInt < (ms_I q.2 673).toInt)
theorem SI_w {σ τ υ : ms_T} {wI wE : List Nat} (h : TM σ τ) (f : fr wI wE τ υ) (k1 : ∀ x ∈ wI, x ∈ [657, 658, 659, 660]) (k2 : ∀ x ∈ wE, x ∈ HE) (r : Int32) : SI σ (r, υ) := by
  have f' : fr [657, 658, 659, 660] HE τ υ := fr_sb f k1 k2
  refine ⟨fr_tr (fr_sb h.1 (by decide) (by decide)) (fr_sb f' (by decide) (by decide)), PI_fr h.2.1 f' (by decide) (by decide) (by decide) (by decide) (by decide), fun e => ?_⟩
  have e : (ms_I υ 670).toInt = 0 := e
  show _ < (ms_I υ 673).toInt
  rw [f'.1 670 (by decide)] at e
  rw [f'.1 673 (by decide)]
  exact (h.2.2 e).2
theorem s_statementIn (n : Nat) (hn : 70000 ≤ n) {σ : ms_T} (hC : rC (ms_E σ 40)) (h : PI σ) (h0 : (ms_I σ 670).toInt = 0) (h4 : ¬ (ms_I σ 674).toInt = 0) : ws (f_X12_statementIn n σ) (SI σ) := by
  have l0 := lt0
  unfold f_X12_statementIn
  refine ws_b (s_reads1 n hn h h4) (fun σ1 h1 => ?_)
  have T1 : T σ σ1 := T_rd fr_rf h0 h1
  refine ws_c (s_takesNumber n hn T1.2.1 0 99999) (fun x σ2 h2 => ?_)
  have T2 := T_tr T1 h2.1
  refine ws_b (s_takes n hn T2.2.1 8 (by decide) (by decide)) (fun σ3 h3 => ?_)
  have T3 := T_tr T2 h3
  refine ws_c (s_takesNumber n hn T3.2.1 (x + 1) 99999) (fun y σ4 h4 => ?_)
  have T4 := T_tr T3 h4.1
  refine ws_b (s_takes n hn T4.2.1 9 (by decide) (by decide)) (fun σ5 h5 => ?_)
  have T5 := T_tr T4 h5
  refine ws_c (s_takesMark n hn T5.2.1) (fun u σ6 h6 => ?_)
  have T6 := T_tr T5 h6
  refine ws_b (s_takes n hn T6.2.1 10 (by decide) (by decide)) (fun σ7 h7 => ?_)
  have T7 := T_tr T6 h7
  refine ws_c (s_takesMark n hn T7.2.1) (fun w σ8 h8 => ?_)
  have T8 := T_tr T7 h8
  refine ws_c (s_takesMarks n hn (rC_fr hC T8.1 (by decide)) T8.2.1) (fun z σ9 h9 => ?_)
  have T9 := TM_T T8 h9
  have p9 := T9.2.1.2.2.2.2
  refine ws_le (fun e => ?_) (fun e => ws_s (SI_w T9 (wI := []) (wE := []) fr_rf (by simp) (by simp) 0))
  have e8 := (h9.2.2 (show (ms_I σ9 670).toInt = 0 by have : 0 ≤ (ms_I σ9 670).toInt := p9; omega)).1
  have e7 := (h8.2.2 e8).1
  have e6 := (h7.2.2 e7).1
  have e5 := (h6.2.2 e6).1
  have e4 := (h5.2.2 e5).1
  have q4 : (x + 1).toInt ≤ y.toInt ∧ y.toInt ≤ (99999 : Int32).toInt := h4.2 e4
  have e3 := (h4.1.2.2 e4).1
  have e2 := (h3.2.2 e3).1
  have q2 : (0 : Int32).toInt ≤ x.toInt ∧ x.toInt ≤ (99999 : Int32).toInt := h2.2 e2
  rw [t_99999] at q2
  have ex : (x + 1).toInt = x.toInt + 1 := by (try simp only [iw_add, iw_sub, iw_mul, t_m1, lt0, lt1, t_2, t_3, t_4, t_5, t_6, t_8, t_9, t_10, t_16, t_20, t_24, t_26, t_30, t_31, t_48, t_64, t_72, t_76, t_92, t_101, t_252, t_444, t_512, t_900, t_1980, t_65521, t_99999, t_mil]) <;> omega
  exact ws_c (s_whyIn n hn σ9 (rC_fr hC T9.1 (by decide)) z u x y w (by omega) (by omega)) (fun b ρ hρ => ws_s (SI_w T9 hρ (by decide) (by decide) b))
theorem s_statementGrow (n : Nat) (hn : 70000 ≤ n) {σ : ms_T} (hC : rC (ms_E σ 40)) (h : PI σ) : ws (f_X12_statementGrow n σ) (SI σ) := by
  have l0 := lt0
  unfold f_X12_statementGrow
  refine ws_b (s_takes n hn h 7 (by decide) (by decide)) (fun σ1 T1 => ?_)
  refine ws_c (s_takesNumber n hn T1.2.1 0 99999) (fun x σ2 h2 => ?_)
  have T2 := T_tr T1 h2.1
  refine ws_b (s_takes n hn T2.2.1 9 (by decide) (by decide)) (fun σ3 h3 => ?_)
  have T3 := T_tr T2 h3
  refine ws_c (s_takesMark n hn T3.2.1) (fun u σ4 h4 => ?_)
  have T4 := T_tr T3 h4
  refine ws_b (s_takes n hn T4.2.1 2 (by decide) (by decide)) (fun σ5 h5 => ?_)
  have T5 := T_tr T4 h5
  refine ws_c (s_takesNumber n hn T5.2.1 x 99999) (fun y σ6 h6 => ?_)
  have T6 := T_tr T5 h6.1
  refine ws_b (s_takes n hn T6.2.1 10 (by decide) (by decide)) (fun σ7 h7 => ?_)
  have T7 := T_tr T6 h7
  refine ws_c (s_takesMark n hn T7.2.1) (fun w σ8 h8 => ?_)
  have T8 := T_tr T7 h8
  refine ws_c (s_takesMarks n hn (rC_fr hC T8.1 (by decide)) T8.2.1) (fun z σ9 h9 => ?_)
  have T9 := TM_T T8 h9
  have p9 := T9.2.1.2.2.2.2
  refine ws_le (fun e => ?_) (fun e => ws_s (SI_w T9 (wI := []) (wE := []) fr_rf (by simp) (by simp) 0))
  have e8 := (h9.2.2 (show (ms_I σ9 670).toInt = 0 by have : 0 ≤ (ms_I σ9 670).toInt := p9; omega)).1
  have e7 := (h8.2.2 e8).1
  have e6 := (h7.2.2 e7).1
  have q6 : x.toInt ≤ y.toInt ∧ y.toInt ≤ (99999 : Int32).toInt := h6.2 e6
  have e5 := (h6.1.2.2 e6).1
  have e4 := (h5.2.2 e5).1
  have e3 := (h4.2.2 e4).1
  have e2 := (h3.2.2 e3).1
  have q2 : (0 : Int32).toInt ≤ x.toInt ∧ x.toInt ≤ (99999 : Int32).toInt := h2.2 e2
  exact ws_c (s_whyGrown n hn σ9 (rC_fr hC T9.1 (by decide)) z x u y w (by omega) (by omega)) (fun b ρ hρ => ws_s (SI_w T9 hρ (by decide) (by decide) b))
def KW : List Nat := [652, 653, 657, 658, 659, 660, 667, 668, 669, 670, 671, 672, 673, 674, 675, 676]
def KE : List Nat := [42, 43, 44, 49, 50]
theorem s_hear169 (n : Nat) {σ0 : ms_T} (hR : RI σ0) (m x : Int32) (h0 : 0 ≤ m.toInt) (h1 : m.toInt ≤ 20) : ∀ (k : Nat) (σ : ms_T) (v : Int32), fr KW KE σ0 σ → ms_I σ 667 = 0 → 0 ≤ v.toInt → v.toInt ≤ 20 → 21 - v.toInt ≤ (k : Int) → ws (f_X12_hear_L169 n k σ m x v) (fun q => RI q.2 ∧ ms_I q.2 667 = 0) := by
  intro k
  induction k with
  | zero => intro σ v hf h7 g0 g1 g2; omega
  | succ k ih =>
    intro σ v hf h7 g0 g1 g2
    rw [f_X12_hear_L169.eq_2]
    refine ws_le (fun _ => ws_l (ws_s ⟨⟨⟨?_, ?_, ?_, ?_⟩, rC_fr hR.2 (fr_tr (wI := 682 :: KW) (wE := KE) (fr_sb hf (by decide) (by decide)) (fr_sI (by decide))) (by decide)⟩, ?_⟩)) (fun _ => ?_)
    · show 0 ≤ (ms_I (ms_sI σ 682 m) 664).toInt ∧ _
      rw [mI_sI, if_neg (by decide), hf.1 664 (by decide)]; exact hR.1.1
    · show 0 ≤ (ms_I (ms_sI σ 682 m) 667).toInt ∧ _
      rw [mI_sI, if_neg (by decide), h7]; decide
    · show 0 ≤ (ms_I (ms_sI σ 682 m) 682).toInt ∧ _
      rw [mI_sI, if_pos rfl]; exact ⟨h0, h1⟩
    · show 0 ≤ (ms_I (ms_sI σ 682 m) 697).toInt ∧ _
      rw [mI_sI, if_neg (by decide), hf.1 697 (by decide)]; exact hR.1.2.2.2
    · show ms_I (ms_sI σ 682 m) 667 = 0
      rw [mI_sI, if_neg (by decide)]; exact h7
    · exact ws_g g0 (by omega) (ws_g g0 (by omega) (ws_l (ws_l (ih _ (v + 1) (fr_tr hf (fr_sE (by decide))) h7 (by (try simp only [iw_add, iw_sub, iw_mul, t_m1, lt0, lt1, t_2, t_3, t_4, t_5, t_6, t_8, t_9, t_10, t_16, t_20, t_24, t_26, t_30, t_31, t_48, t_64, t_72, t_76, t_92, t_101, t_252, t_444, t_512, t_900, t_1980, t_65521, t_99999, t_mil]) <;> omega) (by (try simp only [iw_add, iw_sub, iw_mul, t_m1, lt0, lt1, t_2, t_3, t_4, t_5, t_6, t_8, t_9, t_10, t_16, t_20, t_24, t_26, t_30, t_31, t_48, t_64, t_72, t_76, t_92, t_101, t_252, t_444, t_512, t_900, t_1980, t_65521, t_99999, t_mil]) <;> omega) (by (try simp only [iw_add, iw_sub, iw_mul, t_m1, lt0, lt1, t_2, t_3, t_4, t_5, t_6, t_8, t_9, t_10, t_16, t_20, t_24, t_26, t_30, t_31, t_48, t_64, t_72, t_76, t_92, t_101, t_252, t_444, t_512, t_900, t_1980, t_65521, t_99999, t_mil]) <;> omega)))))
theorem s_hear153 (n : Nat) (hn : 70000 ≤ n) {σ0 σ : ms_T} (hR : RI σ0) (hf : fr KW KE σ0 σ) (m x : Int32) (h0 : 0 ≤ m.toInt) (h1 : m.toInt ≤ 20) : ws (f_X12_hear_J153 n σ m x) (fun q => RI q.2 ∧ ms_I q.2 667 = 0) := by
  unfold f_X12_hear_J153
  refine ws_b (s_ends n σ) (fun τ hτ => ?_)
  have fτ : fr KW KE σ0 τ := fr_tr hf (fr_sb hτ.1 (by decide) (by decide))
  refine ws_i (fun _ => s_hear169 n hR m x h0 h1 n τ 0 fτ hτ.2 (by decide) (by decide) (by rw [lt0]; omega)) (fun _ => ws_s ⟨⟨⟨?_, ?_, ?_, ?_⟩, rC_fr hR.2 fτ (by decide)⟩, hτ.2⟩)
  · show 0 ≤ (ms_I τ 664).toInt ∧ _
    rw [fτ.1 664 (by decide)]; exact hR.1.1
  · show 0 ≤ (ms_I τ 667).toInt ∧ _
    rw [hτ.2]; decide
  · show 0 ≤ (ms_I τ 682).toInt ∧ _
    rw [fτ.1 682 (by decide)]; exact hR.1.2.2.1
  · show 0 ≤ (ms_I τ 697).toInt ∧ _
    rw [fτ.1 697 (by decide)]; exact hR.1.2.2.2
theorem s_hear35 (n : Nat) (hn : 70000 ≤ n) {σ0 : ms_T} (hR : RI σ0) : ∀ (k : Nat) (σ : ms_T) (m x : Int32), fr KW KE σ0 σ → PI σ → 0 ≤ m.toInt → m.toInt ≤ 20 → 1 ≤ k → ((ms_I σ 670).toInt = 0 → ¬ (ms_I σ 674).toInt = 0 → 902 - (ms_I σ 673).toInt ≤ (k : Int)) → ws (f_X12_hear_L35 n k σ m x) (fun q => RI q.2 ∧ ms_I q.2 667 = 0) := by
  intro k
  induction k with
  | zero => intro σ m x hf hP h0 h1 hk hm; omega
  | succ k ih =>
    intro σ m x hf hP h0 h1 hk hm
    have l0 := lt0
    have t20 := t_20
    rw [f_X12_hear_L35.eq_2]
    refine ws_ee (fun _ e => ws_ee (fun _ _ => s_hear153 n hn hR hf m x h0 h1) (fun e4 => ?_)) (fun _ => s_hear153 n hn hR hf m x h0 h1)
    have hm' := hm (by omega) (by omega)
    have hPP := hP
    unfold PI at hPP
    have h3 := hPP.2.2.2.1 (by omega)
    have hJ : ∀ w : Int32, ws (f_X12_hear_J73 n (f_X12_hear_L35 n k) σ m x w) (fun q => RI q.2 ∧ ms_I q.2 667 = 0) := by
      intro w
      unfold f_X12_hear_J73
      refine ws_b (s_must n σ w 2 hP.2.2.2.2 (by decide)) (fun τ hτ => ?_)
      have hJ8 : ∀ w : Int32, (¬ w = 0 → m.toInt < 20) → ws (f_X12_hear_J89 n (f_X12_hear_L35 n k) τ m x w) (fun q => RI q.2 ∧ ms_I q.2 667 = 0) := by
        intro w hw
        unfold f_X12_hear_J89
        refine ws_b (s_must n τ w 6 hτ.2.1 (by decide)) (fun υ hυ => ?_)
        have f2 : fr [670, 671] [] σ υ := fr_tr hτ.1 hυ.1
        have hPυ := PI_w hP f2 hυ.2.1
        have fυ : fr KW KE σ0 υ := fr_tr hf (fr_sb f2 (by decide) (by decide))
        refine ws_le (fun e => ?_) (fun _ => s_hear153 n hn hR fυ m x h0 h1)
        have hq := hυ.2.2 (by have := hυ.2.1; omega)
        have hv := hw hq.1
        have u0 : (ms_I υ 670).toInt = 0 := by have := hυ.2.1; omega
        have hJ9 : ∀ (r : Int32) (ρ : ms_T), SI υ (r, ρ) → ws (f_X12_hear_J129 n (f_X12_hear_L35 n k) ρ m x r m) (fun q => RI q.2 ∧ ms_I q.2 667 = 0) := by
          intro r ρ hs
          have fe : fr [] [50] ρ (ms_sE ρ 50 m.toNatClampNeg r) := fr_sE (by decide)
          have fρ : fr HW HE υ ρ := hs.1
          have hPρ : PI ρ := hs.2.1
          have hpr : (ms_I ρ 670).toInt = 0 → (ms_I υ 673).toInt < (ms_I ρ 673).toInt := hs.2.2
          have e7 := f2.1 673 (by decide)
          rw [e7] at hpr
          have hgo : ∀ z : Int32, ws (f_X12_hear_L35 n k (ms_sE ρ 50 m.toNatClampNeg r) (m + 1) z) (fun q => RI q.2 ∧ ms_I q.2 667 = 0) := by
            intro z
            refine ih _ (m + 1) z (fr_tr fυ (fr_tr (fr_sb fρ (by decide) (by decide)) (fr_sb fe (by decide) (by decide)))) (PI_fr hPρ fe (by decide) (by decide) (by decide) (by decide) (by decide)) (by (try simp only [iw_add, iw_sub, iw_mul, t_m1, lt0, lt1, t_2, t_3, t_4, t_5, t_6, t_8, t_9, t_10, t_16, t_20, t_24, t_26, t_30, t_31, t_48, t_64, t_72, t_76, t_92, t_101, t_252, t_444, t_512, t_900, t_1980, t_65521, t_99999, t_mil]) <;> omega) (by (try simp only [iw_add, iw_sub, iw_mul, t_m1, lt0, lt1, t_2, t_3, t_4, t_5, t_6, t_8, t_9, t_10, t_16, t_20, t_24, t_26, t_30, t_31, t_48, t_64, t_72, t_76, t_92, t_101, t_252, t_444, t_512, t_900, t_1980, t_65521, t_99999, t_mil]) <;> omega) (by omega) (fun q _ => ?_)
            have q' : (ms_I ρ 670).toInt = 0 := q
            have := hpr q'
            show 902 - (ms_I ρ 673).toInt ≤ _
            omega
          unfold f_X12_hear_J129 f_X12_hear_J145
          exact ws_g h0 (by omega) (ws_l (ws_g h0 (by omega) (ws_i (fun _ => ws_l (ws_l (hgo _))) (fun _ => ws_l (ws_l (hgo _))))))
        refine ws_b (s_isWord n υ 6 (by decide) (by decide)) (fun r hr => ws_i (fun _ => ?_) (fun q => ?_))
        · exact ws_c (s_statementGrow n hn (rC_fr hR.2 fυ (by decide)) hPυ) (fun a ρ hρ => hJ9 a ρ hρ)
        · exact ws_c (s_statementIn n hn (rC_fr hR.2 fυ (by decide)) hPυ u0 (by have := (hr q).2; omega)) (fun a ρ hρ => hJ9 a ρ hρ)
      exact ws_le (fun _ => hJ8 _ (fun q => absurd rfl q)) (fun g => hJ8 _ (fun _ => by omega))
    unfold f_X12_hear_J68
    exact ws_b (s_isWord n σ 6 (by decide) (by decide)) (fun _ _ => ws_i (fun _ => ws_b (s_isWord n σ 7 (by decide) (by decide)) (fun _ _ => ws_i (fun _ => hJ _) (fun _ => hJ _))) (fun _ => hJ _))
theorem s_hear (n : Nat) (hn : 70000 ≤ n) (σ : ms_T) (hR : RI σ) (a1 : Int32) : ws (f_X12_hear n σ a1) (fun res => RI res.2 ∧ ld_M σ a1 res.2) := by
  have l0 := lt0
  have h9 := hR.1.2.1
  unfold f_X12_hear f_X12_hear_J18
  refine ws_bo (s_isIn n _ _ _) (fun q => ?_) (fun q => ?_)
  · refine ws_is (fun τ h => ?_) (fun e => absurd e (by decide))
    obtain ⟨a, b, c⟩ := is_R hR h
    exact ⟨a, Or.inl ⟨by omega, b⟩⟩
  · refine ws_c (s_is n σ 0) (fun r τ h => ws_i (fun e => absurd rfl (bo_0 h.2 e)) (fun _ => ?_))
    obtain ⟨a, b, c⟩ := is_R hR h.1
    refine ws_b (s_begins n hn a1 (by omega) (by omega)) (fun υ hυ => ?_)
    have hPP := hυ.2.1
    unfold PI at hPP
    exact ws_m (s_hear35 n hn a n υ 0 0 (fr_sb hυ.1 (by decide) (by decide)) hυ.2.1 (by decide) (by decide) (by omega) (fun _ _ => by omega)) (fun res hres => ⟨hres.1, Or.inr ⟨by omega, hres.2⟩⟩)
