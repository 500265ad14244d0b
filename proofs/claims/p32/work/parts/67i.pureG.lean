/-! ===== lines, load ===== -/
theorem s_forkLine (n : Nat) (hn : 70000 ≤ n) {σ : ms_T} (hL : LI σ) (h4 : ¬ (ms_I σ 674).toInt = 0) : ws (f_X12_forkLine n σ) (lnP σ) := by
  have l0 := lt0
  have t4 := t_4
  have hJ : ∀ w : Int32, (¬ w = 0 → (ms_E σ 40 0).toInt ≤ 3) → ws (f_X12_forkLine_J16 n σ w) (lnP σ) := by
    intro w hw
    unfold f_X12_forkLine_J16
    refine ws_b (s_must n σ w 6 hL.1.2.2.2.2 (by decide)) (fun τ hτ => ?_)
    have hPτ := PI_w hL.1 hτ.1 hτ.2.1
    have hLτ : LI τ := ⟨hPτ, rC_fr hL.2.1 hτ.1 (by decide), by rw [hτ.1.1 679 (by decide)]; exact hL.2.2⟩
    have fτ : fr FW FE σ τ := fr_sb hτ.1 (by decide) (by decide)
    refine ws_le (fun e => ?_) (fun e => ws_s ⟨fτ, hLτ, fun q => by omega⟩)
    have hk : (ms_E σ 40 0).toInt ≤ 3 := hw (hτ.2.2 (by have := hτ.2.1; omega)).1
    refine ws_b (s_reads1 n hn hPτ (by rw [hτ.1.1 674 (by decide)]; exact h4)) (fun υ hυ => ?_)
    have fυ : fr [672, 673, 674, 675] [] τ υ := hυ.1.1
    have hLυ : LI υ := ⟨hυ.2.1, rC_fr hLτ.2.1 fυ (by decide), by rw [fυ.1 679 (by decide)]; exact hLτ.2.2⟩
    have fσ : fr FW FE σ υ := fr_tr fτ (fr_sb fυ (by decide) (by decide))
    refine ws_b (s_sizeOf hLυ.2.1 _ hLυ.2.2.1 hLυ.2.2.2) (fun r hr => ws_c (s_takesNumber n hn hυ.2.1 0 r) (fun x ρ hρ => ?_))
    have hLρ := LI_T hLυ hρ.1
    refine ws_b (s_takesEnd n hn hLρ.1) (fun φ hφ => ?_)
    have hT := T_tr hρ.1 hφ
    have hLφ := LI_T hLρ hφ
    have fφ : fr FW FE σ φ := fr_tr fσ (fr_sb hT.1 (by decide) (by decide))
    refine ws_ee (fun _ e => ?_) (fun e => ws_s ⟨fφ, hLφ, fun q => by omega⟩)
    have q1 := hφ.2.2 (by omega)
    have q2 := hρ.2 q1.1
    have q3 := hT.2.2 (by omega)
    have hx : (x, ρ).1 = x := rfl
    have q2' : (0 : Int32).toInt ≤ x.toInt ∧ x.toInt ≤ r.toInt := q2
    have e9 : ms_I φ 679 = ms_I υ 679 := hT.1.1 679 (by decide)
    have eE : ∀ j, ms_E φ 40 j = ms_E σ 40 j := fun j => by rw [hT.1.2 40 (by decide), fυ.2 40 (by decide), hτ.1.2 40 (by decide)]
    refine ws_c (s_forks n hn φ hLφ.2.1 (ms_I φ 679) x hLφ.2.2.1 hLφ.2.2.2 (by omega)) (fun y ψ hψ => ws_l (ws_s ?_))
    have fψ : fr [652, 653] [40] φ ψ := hψ.1.1
    have hy : 0 ≤ y.toInt ∧ y.toInt ≤ 3 := hψ.2 (by rw [eE]; exact hk) (by
      have h2 := hr.1
      rw [eE, e9]
      rw [h2] at q2'
      have h3 : ∀ j, ms_E υ 40 j = ms_E σ 40 j := fun j => by rw [fυ.2 40 (by decide), hτ.1.2 40 (by decide)]
      rw [h3] at q2'
      exact q2'.2)
    have gψ : fr [679] [] ψ (ms_sI ψ 679 y) := fr_sI (by decide)
    have fall : fr FW FE φ (ms_sI ψ 679 y) := fr_tr (fr_sb fψ (by decide) (by decide)) (fr_sb gψ (by decide) (by decide))
    refine ⟨fr_tr fφ fall, ⟨PI_fr (PI_fr hLφ.1 fψ (by decide) (by decide) (by decide) (by decide) (by decide)) gψ (by decide) (by decide) (by decide) (by decide) (by decide), rC_fr hψ.1.2 gψ (by decide), by rw [mI_sI, if_pos rfl]; exact hy⟩, fun _ => ?_⟩
    rw [gψ.1 673 (by decide), fψ.1 673 (by decide)]
    have a1 := q3.2
    have a2 := hυ.2.2
    have a3 := hτ.1.1 673 (by decide)
    rw [a3] at a2
    omega
  unfold f_X12_forkLine
  rw [c0]
  exact ws_g (by decide) (by decide) (ws_le (fun _ => hJ _ (fun q => absurd rfl q)) (fun g => hJ _ (fun _ => by omega)))
theorem lnP_T {σ τ : ms_T} (hL : LI σ) (t : T σ τ) : lnP σ τ := ⟨fr_sb t.1 (by decide) (by decide), LI_T hL t, fun e => (t.2.2 e).2⟩
theorem lnP_st {σ τ ρ : ms_T} {wI wE : List Nat} (h : lnP σ τ) (f : fr wI wE τ ρ) (hC : rC (ms_E ρ 40)) (k1 : ∀ x ∈ wI, x ∈ FW) (k2 : ∀ x ∈ wE, x ∈ FE) (k : wI = [652, 653, 657, 658, 659, 660] ∨ wI = [652, 653]) : lnP σ ρ := by
  obtain ⟨h1, h2, h3⟩ := h
  have kk : ∀ x ∈ [676, 672, 673, 674, 670, 679], x ∉ wI := by
    rcases k with k | k <;> subst k <;> decide
  refine ⟨fr_tr h1 (fr_sb f k1 k2), ⟨PI_fr h2.1 f (kk _ (by decide)) (kk _ (by decide)) (kk _ (by decide)) (kk _ (by decide)) (kk _ (by decide)), hC, by rw [f.1 679 (kk _ (by decide))]; exact h2.2.2⟩, fun e => ?_⟩
  rw [f.1 673 (kk _ (by decide))]
  rw [f.1 670 (kk _ (by decide))] at e
  exact h3 e
theorem s_line (n : Nat) (hn : 70000 ≤ n) {σ : ms_T} (hL : LI σ) (h4 : ¬ (ms_I σ 674).toInt = 0) : ws (f_X12_line n σ) (lnP σ) := by
  have l0 := lt0
  have hC0 := hL.2.1.1
  unfold f_X12_line
  refine ws_b (s_isWord n σ 1 (by decide) (by decide)) (fun _ _ => ws_i (fun _ => ?_) (fun _ => ws_b (s_addLine n hn hL h4) (fun τ hτ => ws_s hτ)))
  refine ws_b (s_isWord n σ 2 (by decide) (by decide)) (fun _ _ => ws_i (fun _ => ?_) (fun _ => ?_))
  · refine ws_b (s_isWord n σ 3 (by decide) (by decide)) (fun _ _ => ws_i (fun _ => ?_) (fun _ => ws_b (s_forkLine n hn hL h4) (fun τ hτ => ws_s hτ)))
    refine ws_b (s_isWord n σ 4 (by decide) (by decide)) (fun _ _ => ws_i (fun _ => ?_) (fun _ => ?_))
    · refine ws_b (s_takes n hn hL.1 5 (by decide) (by decide)) (fun τ hτ => ws_c (s_takesNumber n hn hτ.2.1 0 3) (fun x υ hυ => ?_))
      have hT := T_tr hτ hυ.1
      have hLυ := LI_T hL hT
      refine ws_b (s_sizeOf hLυ.2.1 _ hLυ.2.2.1 hLυ.2.2.2) (fun r hr => ws_c (s_takesNumber n hn hLυ.1 0 r) (fun y ρ hρ => ?_))
      have hT2 := T_tr hT hρ.1
      refine ws_b (s_takesEnd n hn hρ.1.2.1) (fun φ hφ => ?_)
      have hT3 := T_tr hT2 hφ
      have hP := lnP_T hL hT3
      have hLφ := hP.2.1
      refine ws_ee (fun _ e => ?_) (fun _ => ws_s hP)
      have q1 := hφ.2.2 (by omega)
      have q2 : (0 : Int32).toInt ≤ y.toInt ∧ y.toInt ≤ r.toInt := hρ.2 q1.1
      have q3 := hρ.1.2.2 q1.1
      have q4 : (0 : Int32).toInt ≤ x.toInt ∧ x.toInt ≤ (3 : Int32).toInt := hυ.2 q3.1
      rw [t_3] at q4
      refine ws_c (s_shows n hn φ hLφ.2.1 x _ y (by omega) (by omega) hLφ.2.2.1 hLφ.2.2.2 (by omega) (by omega)) (fun z ψ hψ => ws_s ?_)
      exact lnP_st hP hψ.1 hψ.2 (by decide) (by decide) (Or.inl rfl)
    · have hJ3 : ∀ τ : ms_T, fr FW FE σ τ → LI τ → (ms_I σ 673).toInt ≤ (ms_I τ 673).toInt → ws (f_X12_line_J123 n τ) (lnP σ) := by
        intro τ fτ hLτ hle
        unfold f_X12_line_J123
        refine ws_b (s_takesEnd n hn hLτ.1) (fun υ hυ => ?_)
        have hP : lnP σ υ := ⟨fr_tr fτ (fr_sb hυ.1 (by decide) (by decide)), LI_T hLτ hυ, fun e => by have := (hυ.2.2 e).2; omega⟩
        refine ws_ee (fun _ e => ?_) (fun _ => ws_s hP)
        exact ws_c (s_freezes n hn υ hP.2.1.2.1 _ hP.2.1.2.2.1 hP.2.1.2.2.2) (fun z ψ hψ => ws_s (lnP_st hP hψ.1 hψ.2 (by decide) (by decide) (Or.inl rfl)))
      have hJ7 : ∀ w : Int32, ws (f_X12_line_J107 n σ w) (lnP σ) := by
        intro w
        unfold f_X12_line_J107
        refine ws_b (s_must n σ w 6 hL.1.2.2.2.2 (by decide)) (fun τ hτ => ?_)
        have hPτ := PI_w hL.1 hτ.1 hτ.2.1
        have hLτ : LI τ := ⟨hPτ, rC_fr hL.2.1 hτ.1 (by decide), by rw [hτ.1.1 679 (by decide)]; exact hL.2.2⟩
        have fτ : fr FW FE σ τ := fr_sb hτ.1 (by decide) (by decide)
        have e3 := hτ.1.1 673 (by decide)
        refine ws_i (fun _ => ?_) (fun _ => hJ3 τ fτ hLτ (by rw [e3]; omega))
        refine ws_b (s_reads1 n hn hPτ (by rw [hτ.1.1 674 (by decide)]; exact h4)) (fun υ hυ => ?_)
        have fυ : fr [672, 673, 674, 675] [] τ υ := hυ.1.1
        exact hJ3 υ (fr_tr fτ (fr_sb fυ (by decide) (by decide))) ⟨hυ.2.1, rC_fr hLτ.2.1 fυ (by decide), by rw [fυ.1 679 (by decide)]; exact hLτ.2.2⟩ (by have := hυ.2.2; rw [e3] at this; omega)
      exact ws_g (by decide) (by decide) (ws_i (fun _ => hJ7 _) (fun _ => hJ7 _))
  · refine ws_b (s_reads1 n hn hL.1 h4) (fun τ hτ => ?_)
    have fτ : fr [672, 673, 674, 675] [] σ τ := hτ.1.1
    have hLτ : LI τ := ⟨hτ.2.1, rC_fr hL.2.1 fτ (by decide), by rw [fτ.1 679 (by decide)]; exact hL.2.2⟩
    have hc := hLτ.2.1.1
    rw [c0]
    have e1 : (ms_E τ 40 0 - 1).toInt = (ms_E τ 40 0).toInt - 1 := by (try simp only [iw_add, iw_sub, iw_mul, t_m1, lt0, lt1, t_2, t_3, t_4, t_5, t_6, t_8, t_9, t_10, t_16, t_20, t_24, t_26, t_30, t_31, t_48, t_64, t_72, t_76, t_92, t_101, t_252, t_444, t_512, t_900, t_1980, t_65521, t_99999, t_mil]) <;> omega
    refine ws_g (by decide) (by decide) (ws_c (s_takesNumber n hn hτ.2.1 0 _) (fun x υ hυ => ?_))
    have hLυ := LI_T hLτ hυ.1
    have hJ5 : ∀ w : Int32, 0 ≤ w.toInt → w.toInt ≤ 3 → ws (f_X12_line_J57 n υ w) (lnP σ) := by
      intro w w0 w1
      unfold f_X12_line_J57
      have g : fr [679] [] υ (ms_sI υ 679 w) := fr_sI (by decide)
      have hL1 : LI (ms_sI υ 679 w) := ⟨PI_fr hLυ.1 g (by decide) (by decide) (by decide) (by decide) (by decide), rC_fr hLυ.2.1 g (by decide), by rw [mI_sI, if_pos rfl]; exact ⟨w0, w1⟩⟩
      refine ws_l (ws_b (s_takesEnd n hn hL1.1) (fun φ hφ => ws_s ?_))
      refine ⟨fr_tr (fr_sb fτ (by decide) (by decide)) (fr_tr (fr_sb hυ.1.1 (by decide) (by decide)) (fr_tr (fr_sb g (by decide) (by decide)) (fr_sb hφ.1 (by decide) (by decide)))), LI_T hL1 hφ, fun e => ?_⟩
      have a1 := hφ.2.2 e
      rw [g.1 670 (by decide), g.1 673 (by decide)] at a1
      have a2 := hυ.1.2.2 a1.1
      have a3 := hτ.2.2
      have a4 : (ms_I τ 673).toInt < (ms_I υ 673).toInt := a2.2
      omega
    refine ws_ee (fun _ e => ?_) (fun _ => hJ5 _ hLυ.2.2.1 hLυ.2.2.2)
    have q : (0 : Int32).toInt ≤ x.toInt ∧ x.toInt ≤ (ms_E τ 40 0 - 1).toInt := hυ.2 (by show (ms_I υ 670).toInt = 0; omega)
    exact hJ5 x (by omega) (by omega)
