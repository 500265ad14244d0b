set_option maxRecDepth 100000
/-! ===== what acts leave of the reference: the tape's bytes, the word typed ===== -/
def kt (σ τ : ms_T) : Prop := (∀ φ, (φ == 664) = true → ms_I τ φ = ms_I σ φ) ∧ (∀ κ, (κ == 45 || κ == 47) = true → ∀ j, ms_E τ κ j = ms_E σ κ j)
theorem kt_rf {σ : ms_T} : kt σ σ := ⟨fun _ _ => rfl, fun _ _ _ => rfl⟩
theorem kt_sI {σ0 σ : ms_T} {φ : Nat} {v : Int32} (hφ : (φ == 664) = false) (h : kt σ0 σ) : kt σ0 (ms_sI σ φ v) := by
  refine ⟨fun ψ hψ => ?_, h.2⟩
  rw [mI_sI, if_neg (fun e => by rw [e, hφ] at hψ; cases hψ)]
  exact h.1 ψ hψ
theorem kt_sE {σ0 σ : ms_T} {κ i : Nat} {v : Int32} (hκ : (κ == 45 || κ == 47) = false) (h : kt σ0 σ) : kt σ0 (ms_sE σ κ i v) := by
  refine ⟨h.1, fun ψ hψ j => ?_⟩
  rw [mE_sE, if_neg (fun e => by rw [e.1, hκ] at hψ; cases hψ)]
  exact h.2 ψ hψ j
theorem y_X12_refuse {n : Nat} {σ : ms_T} {a1 : Int32} {σ0 : ms_T} (h0 : kt σ0 σ)  : pr (f_X12_refuse n σ a1) (fun res => kt σ0 res.2) := by
  unfold f_X12_refuse
  refine pr_ln (fun σh1 e1 => ?_)
  have h_1 : kt σ0 σh1 := by rw [e1]; exact kt_sI rfl h0
  exact pr_s h_1
theorem y_X12_is {n : Nat} {σ : ms_T} {a1 : Int32} {σ0 : ms_T} (h0 : kt σ0 σ)  : pr (f_X12_is n σ a1) (fun res => kt σ0 res.2) := by
  unfold f_X12_is
  refine pr_ln (fun σh1 e1 => ?_)
  have h_1 : kt σ0 σh1 := by rw [e1]; exact kt_sI rfl h0
  refine pr_ln (fun σh2 e2 => ?_)
  have h_2 : kt σ0 σh2 := by rw [e2]; exact kt_sI rfl h_1
  refine pr_i (fun _ => ?_) (fun _ => ?_)
  ·
    exact pr_s h_2
  ·
    exact pr_s h_2
theorem y_X12_asks {n : Nat} {σ : ms_T} {a1 : Int32} {a2 : Int32} {σ0 : ms_T} (h0 : kt σ0 σ)  : pr (f_X12_asks n σ a1 a2) (fun res => kt σ0 res) := by
  unfold f_X12_asks
  refine pr_g (fun _ _ => ?_)
  refine pr_ln (fun σh2 e1 => ?_)
  have h_1 : kt σ0 σh2 := by rw [e1]; exact kt_sE rfl h0
  refine pr_g (fun _ _ => ?_)
  refine pr_ln (fun σh4 e2 => ?_)
  have h_2 : kt σ0 σh4 := by rw [e2]; exact kt_sE rfl h_1
  refine pr_ln (fun σh5 e3 => ?_)
  have h_3 : kt σ0 σh5 := by rw [e3]; exact kt_sI rfl h_2
  exact pr_s h_3
theorem y_X12_growsIn {n : Nat} {σ0 : ms_T}  : ∀ (d : Nat) {σ : ms_T} {a1 : Int32} {a2 : Int32} {a3 : Int32} {a4 : Int32}, kt σ0 σ → pr (f_X12_growsIn n d σ a1 a2 a3 a4) (fun res => kt σ0 res) := by
  intro d
  induction d with
  | zero => intro σ a1 a2 a3 a4 h0; rw [f_X12_growsIn.eq_1]; exact pr_0
  | succ d ih =>
    intro σ a1 a2 a3 a4 h0
    rw [f_X12_growsIn.eq_2]
    refine pr_i (fun _ => ?_) (fun _ => ?_)
    ·
      refine pr_i (fun _ => ?_) (fun _ => ?_)
      ·
        refine pr_b (y_X12_asks h0 ) (fun σh9 h_1 => ?_)
        replace h_1 : kt σ0 σh9 := h_1
        exact pr_s h_1
      ·
        exact pr_s h0
    ·
      refine pr_b pr_any (fun rh2 _ => ?_)
      refine pr_i (fun _ => ?_) (fun _ => ?_)
      ·
        refine pr_b (ih h0) (fun σh4 h_2 => ?_)
        replace h_2 : kt σ0 σh4 := h_2
        refine pr_b (y_X12_asks h_2 ) (fun σh5 h_3 => ?_)
        replace h_3 : kt σ0 σh5 := h_3
        exact pr_s h_3
      ·
        refine pr_b (ih h0) (fun σh6 h_4 => ?_)
        replace h_4 : kt σ0 σh6 := h_4
        refine pr_b (y_X12_asks h_4 ) (fun σh7 h_5 => ?_)
        replace h_5 : kt σ0 σh7 := h_5
        exact pr_s h_5
theorem y_X12_growth {n : Nat} {σ : ms_T} {a1 : Int32} {a2 : Int32} {σ0 : ms_T} (h0 : kt σ0 σ)  : pr (f_X12_growth n σ a1 a2) (fun res => kt σ0 res) := by
  unfold f_X12_growth
  refine pr_ln (fun σh1 e1 => ?_)
  have h_1 : kt σ0 σh1 := by rw [e1]; exact kt_sI rfl h0
  refine pr_i (fun _ => ?_) (fun _ => ?_)
  ·
    exact pr_s h_1
  ·
    refine pr_i (fun _ => ?_) (fun _ => ?_)
    ·
      exact pr_s h_1
    ·
      refine pr_b (y_X12_growsIn  _ h_1) (fun σh4 h_2 => ?_)
      replace h_2 : kt σ0 σh4 := h_2
      exact pr_s h_2
theorem y_X12_peaksOf_J35 {n : Nat} {rec10 : ms_T → Int32 → Int32 → Int32 → Option ms_T} {σh5 : ms_T} {v1_h5 : Int32} {v2_h5 : Int32} {v3_h5 : Int32} {σ0 : ms_T} (h0 : kt σ0 σh5) (hrec10 : ∀ {y0 : ms_T} {y1 : Int32} {y2 : Int32} {y3 : Int32}, kt σ0 y0 → pr (rec10 y0 y1 y2 y3) (fun res => kt σ0 res)) : pr (f_X12_peaksOf_J35 n rec10 σh5 v1_h5 v2_h5 v3_h5) (fun res => kt σ0 res) := by
  unfold f_X12_peaksOf_J35
  refine pr_ln (fun x6 _ => ?_)
  exact hrec10 h0
theorem y_X12_peaksOf_L10 {n : Nat} {σ0 : ms_T}  : ∀ (k10 : Nat) {σh2 : ms_T} {v1_h2 : Int32} {v2_h2 : Int32} {v3_h2 : Int32}, kt σ0 σh2 → pr (f_X12_peaksOf_L10 n k10 σh2 v1_h2 v2_h2 v3_h2) (fun res => kt σ0 res) := by
  intro k10
  induction k10 with
  | zero => intro σh2 v1_h2 v2_h2 v3_h2 h0; rw [f_X12_peaksOf_L10.eq_1]; exact pr_0
  | succ k10 ih =>
    intro σh2 v1_h2 v2_h2 v3_h2 h0
    rw [f_X12_peaksOf_L10.eq_2]
    refine pr_i (fun _ => ?_) (fun _ => ?_)
    ·
      exact pr_s h0
    ·
      refine pr_n (fun _ => ?_)
      refine pr_i (fun _ => ?_) (fun _ => ?_)
      ·
        exact y_X12_peaksOf_J35 h0 (fun h => ih h)
      ·
        refine pr_b (y_X12_asks h0 ) (fun σh8 h_1 => ?_)
        replace h_1 : kt σ0 σh8 := h_1
        refine pr_ln (fun x9 _ => ?_)
        exact y_X12_peaksOf_J35 h_1 (fun h => ih h)
theorem y_X12_peaksOf {n : Nat} {σ : ms_T} {a1 : Int32} {σ0 : ms_T} (h0 : kt σ0 σ)  : pr (f_X12_peaksOf n σ a1) (fun res => kt σ0 res) := by
  unfold f_X12_peaksOf
  refine pr_ln (fun σh1 e1 => ?_)
  have h_1 : kt σ0 σh1 := by rw [e1]; exact kt_sI rfl h0
  exact y_X12_peaksOf_L10  _ h_1
theorem y_X12_fetches_L2 {n : Nat} {σ0 : ms_T}  : ∀ (k2 : Nat) {σh1 : ms_T} {v1_h1 : Int32} {v2_h1 : Int32}, kt σ0 σh1 → pr (f_X12_fetches_L2 n k2 σh1 v1_h1 v2_h1) (fun res => kt σ0 res) := by
  intro k2
  induction k2 with
  | zero => intro σh1 v1_h1 v2_h1 h0; rw [f_X12_fetches_L2.eq_1]; exact pr_0
  | succ k2 ih =>
    intro σh1 v1_h1 v2_h1 h0
    rw [f_X12_fetches_L2.eq_2]
    refine pr_i (fun _ => ?_) (fun _ => ?_)
    ·
      exact pr_s h0
    ·
      refine pr_g (fun _ _ => ?_)
      refine pr_g (fun _ _ => ?_)
      refine pr_b pr_any (fun rh5 _ => ?_)
      refine pr_g (fun _ _ => ?_)
      refine pr_ln (fun σh7 e1 => ?_)
      have h_1 : kt σ0 σh7 := by rw [e1]; exact kt_sE rfl h0
      refine pr_ln (fun x8 _ => ?_)
      exact ih h_1
theorem y_X12_fetches {n : Nat} {σ : ms_T} {a1 : Int32} {σ0 : ms_T} (h0 : kt σ0 σ)  : pr (f_X12_fetches n σ a1) (fun res => kt σ0 res) := by
  unfold f_X12_fetches
  exact y_X12_fetches_L2  _ h0
theorem y_X12_foldsGrowth_J157 {n : Nat} {recM : ms_T → Int32 → Int32 → Int32 → Int32 → Option ms_T} {σh3 : ms_T} {σ0 : ms_T} (h0 : kt σ0 σh3) (hrecM : ∀ {y0 : ms_T} {y1 : Int32} {y2 : Int32} {y3 : Int32} {y4 : Int32}, kt σ0 y0 → pr (recM y0 y1 y2 y3 y4) (fun res => kt σ0 res)) : pr (f_X12_foldsGrowth_J157 n recM σh3) (fun res => kt σ0 res) := by
  unfold f_X12_foldsGrowth_J157
  refine pr_ln (fun σh4 e1 => ?_)
  have h_1 : kt σ0 σh4 := by rw [e1]; exact kt_sI rfl h0
  exact pr_s h_1
theorem y_X12_foldsGrowth_J50 {n : Nat} {recM : ms_T → Int32 → Int32 → Int32 → Int32 → Option ms_T} {σh20 : ms_T} {w0_h20 : Int32} {w1_h20 : Int32} {σ0 : ms_T} (h0 : kt σ0 σh20) (hrecM : ∀ {y0 : ms_T} {y1 : Int32} {y2 : Int32} {y3 : Int32} {y4 : Int32}, kt σ0 y0 → pr (recM y0 y1 y2 y3 y4) (fun res => kt σ0 res)) : pr (f_X12_foldsGrowth_J50 n recM σh20 w0_h20 w1_h20) (fun res => kt σ0 res) := by
  unfold f_X12_foldsGrowth_J50
  refine pr_ln (fun σh21 e1 => ?_)
  have h_1 : kt σ0 σh21 := by rw [e1]; exact kt_sI rfl h0
  exact pr_s h_1
theorem y_X12_foldsGrowth_J24 {n : Nat} {recM : ms_T → Int32 → Int32 → Int32 → Int32 → Option ms_T} {σh17 : ms_T} {v4_h17 : Int32} {w0_h17 : Int32} {σ0 : ms_T} (h0 : kt σ0 σh17) (hrecM : ∀ {y0 : ms_T} {y1 : Int32} {y2 : Int32} {y3 : Int32} {y4 : Int32}, kt σ0 y0 → pr (recM y0 y1 y2 y3 y4) (fun res => kt σ0 res)) : pr (f_X12_foldsGrowth_J24 n recM σh17 v4_h17 w0_h17) (fun res => kt σ0 res) := by
  unfold f_X12_foldsGrowth_J24
  refine pr_ln (fun σh18 e1 => ?_)
  have h_1 : kt σ0 σh18 := by rw [e1]; exact kt_sI rfl h0
  refine pr_ln (fun σh19 e2 => ?_)
  have h_2 : kt σ0 σh19 := by rw [e2]; exact kt_sI rfl h_1
  refine pr_i (fun _ => ?_) (fun _ => ?_)
  ·
    exact y_X12_foldsGrowth_J50 h_2 (fun h => hrecM h)
  ·
    exact y_X12_foldsGrowth_J50 h_2 (fun h => hrecM h)
theorem y_X12_foldsGrowth {n : Nat} {σ0 : ms_T}  : ∀ (d : Nat) {σ : ms_T} {a1 : Int32} {a2 : Int32} {a3 : Int32} {a4 : Int32}, kt σ0 σ → pr (f_X12_foldsGrowth n d σ a1 a2 a3 a4) (fun res => kt σ0 res) := by
  intro d
  induction d with
  | zero => intro σ a1 a2 a3 a4 h0; rw [f_X12_foldsGrowth.eq_1]; exact pr_0
  | succ d ih =>
    intro σ a1 a2 a3 a4 h0
    rw [f_X12_foldsGrowth.eq_2]
    refine pr_i (fun _ => ?_) (fun _ => ?_)
    ·
      refine pr_i (fun _ => ?_) (fun _ => ?_)
      ·
        refine pr_g (fun _ _ => ?_)
        exact y_X12_foldsGrowth_J24 h0 (fun h => ih h)
      ·
        exact y_X12_foldsGrowth_J24 h0 (fun h => ih h)
    ·
      refine pr_b pr_any (fun rh2 _ => ?_)
      refine pr_i (fun _ => ?_) (fun _ => ?_)
      ·
        refine pr_b (ih h0) (fun σh6 h_1 => ?_)
        replace h_1 : kt σ0 σh6 := h_1
        refine pr_g (fun _ _ => ?_)
        refine pr_b pr_any (fun rh8 _ => ?_)
        refine pr_ln (fun σh9 e2 => ?_)
        have h_2 : kt σ0 σh9 := by rw [e2]; exact kt_sI rfl h_1
        refine pr_g (fun _ _ => ?_)
        refine pr_b pr_any (fun rh11 _ => ?_)
        refine pr_ln (fun σh12 e3 => ?_)
        have h_3 : kt σ0 σh12 := by rw [e3]; exact kt_sI rfl h_2
        exact y_X12_foldsGrowth_J157 h_3 (fun h => ih h)
      ·
        refine pr_b (ih h0) (fun σh13 h_4 => ?_)
        replace h_4 : kt σ0 σh13 := h_4
        refine pr_g (fun _ _ => ?_)
        refine pr_b pr_any (fun rh15 _ => ?_)
        refine pr_ln (fun σh16 e5 => ?_)
        have h_5 : kt σ0 σh16 := by rw [e5]; exact kt_sI rfl h_4
        exact y_X12_foldsGrowth_J157 h_5 (fun h => ih h)
theorem y_X12_whyGrown_J39 {n : Nat} {σh3 : ms_T} {v2_h3 : Int32} {v3_h3 : Int32} {v4_h3 : Int32} {v5_h3 : Int32} {σ0 : ms_T} (h0 : kt σ0 σh3)  : pr (f_X12_whyGrown_J39 n σh3 v2_h3 v3_h3 v4_h3 v5_h3) (fun res => kt σ0 res.2) := by
  unfold f_X12_whyGrown_J39
  refine pr_i (fun _ => ?_) (fun _ => ?_)
  ·
    refine pr_i (fun _ => ?_) (fun _ => ?_)
    ·
      exact pr_s h0
    ·
      exact pr_s h0
  ·
    refine pr_i (fun _ => ?_) (fun _ => ?_)
    ·
      exact pr_s h0
    ·
      refine pr_ln (fun σh6 e1 => ?_)
      have h_1 : kt σ0 σh6 := by rw [e1]; exact kt_sI rfl h0
      refine pr_b (y_X12_foldsGrowth  _ h_1) (fun σh7 h_2 => ?_)
      replace h_2 : kt σ0 σh7 := h_2
      refine pr_i (fun _ => ?_) (fun _ => ?_)
      ·
        refine pr_i (fun _ => ?_) (fun _ => ?_)
        ·
          exact pr_s h_2
        ·
          exact pr_s h_2
      ·
        exact pr_s h_2
theorem y_X12_whyGrown {n : Nat} {σ : ms_T} {a1 : Int32} {a2 : Int32} {a3 : Int32} {a4 : Int32} {a5 : Int32} {σ0 : ms_T} (h0 : kt σ0 σ)  : pr (f_X12_whyGrown n σ a1 a2 a3 a4 a5) (fun res => kt σ0 res.2) := by
  unfold f_X12_whyGrown
  refine pr_b (y_X12_growth h0 ) (fun σh1 h_1 => ?_)
  replace h_1 : kt σ0 σh1 := h_1
  refine pr_i (fun _ => ?_) (fun _ => ?_)
  ·
    refine pr_i (fun _ => ?_) (fun _ => ?_)
    ·
      refine pr_i (fun _ => ?_) (fun _ => ?_)
      ·
        exact y_X12_whyGrown_J39 h_1 
      ·
        exact pr_s h_1
    ·
      exact y_X12_whyGrown_J39 h_1 
  ·
    refine pr_i (fun _ => ?_) (fun _ => ?_)
    ·
      exact pr_s h_1
    ·
      exact pr_s h_1
theorem y_X12_whyByRecord {n : Nat} {σ : ms_T} {a1 : Int32} {a2 : Int32} {a3 : Int32} {a4 : Int32} {a5 : Int32} {σ0 : ms_T} (h0 : kt σ0 σ)  : pr (f_X12_whyByRecord n σ a1 a2 a3 a4 a5) (fun res => kt σ0 res.2) := by
  unfold f_X12_whyByRecord
  refine pr_b (y_X12_growth h0 ) (fun σh1 h_1 => ?_)
  replace h_1 : kt σ0 σh1 := h_1
  refine pr_b (y_X12_fetches h_1 ) (fun σh2 h_2 => ?_)
  replace h_2 : kt σ0 σh2 := h_2
  refine pr_c (y_X12_whyGrown h_2 ) (fun rh3 σh3 h_3 => ?_)
  replace h_3 : kt σ0 σh3 := h_3
  exact pr_s h_3
theorem y_X12_hand_L2 {n : Nat} {σ0 : ms_T}  : ∀ (k2 : Nat) {σh1 : ms_T} {v1_h1 : Int32}, kt σ0 σh1 → pr (f_X12_hand_L2 n k2 σh1 v1_h1) (fun res => kt σ0 res) := by
  intro k2
  induction k2 with
  | zero => intro σh1 v1_h1 h0; rw [f_X12_hand_L2.eq_1]; exact pr_0
  | succ k2 ih =>
    intro σh1 v1_h1 h0
    rw [f_X12_hand_L2.eq_2]
    refine pr_i (fun _ => ?_) (fun _ => ?_)
    ·
      refine pr_ln (fun σh3 e1 => ?_)
      have h_1 : kt σ0 σh3 := by rw [e1]; exact kt_sI rfl h0
      exact pr_s h_1
    ·
      refine pr_g (fun _ _ => ?_)
      refine pr_g (fun _ _ => ?_)
      refine pr_ln (fun σh6 e2 => ?_)
      have h_2 : kt σ0 σh6 := by rw [e2]; exact kt_sE rfl h0
      refine pr_ln (fun x7 _ => ?_)
      exact ih h_2
theorem y_X12_hand {n : Nat} {σ : ms_T} {σ0 : ms_T} (h0 : kt σ0 σ)  : pr (f_X12_hand n σ) (fun res => kt σ0 res) := by
  unfold f_X12_hand
  exact y_X12_hand_L2  _ h0
theorem y_X12_adds_L43 {n : Nat} {σ0 : ms_T}  : ∀ (k43 : Nat) {σh7 : ms_T} {v1_h7 : Int32} {v2_h7 : Int32} {v3_h7 : Int32}, kt σ0 σh7 → pr (f_X12_adds_L43 n k43 σh7 v1_h7 v2_h7 v3_h7) (fun res => kt σ0 res.2) := by
  intro k43
  induction k43 with
  | zero => intro σh7 v1_h7 v2_h7 v3_h7 h0; rw [f_X12_adds_L43.eq_1]; exact pr_0
  | succ k43 ih =>
    intro σh7 v1_h7 v2_h7 v3_h7 h0
    rw [f_X12_adds_L43.eq_2]
    refine pr_i (fun _ => ?_) (fun _ => ?_)
    ·
      refine pr_ln (fun x9 _ => ?_)
      refine pr_g (fun _ _ => ?_)
      refine pr_g (fun _ _ => ?_)
      refine pr_ln (fun σh12 e1 => ?_)
      have h_1 : kt σ0 σh12 := by rw [e1]; exact kt_sE rfl h0
      refine pr_g (fun _ _ => ?_)
      refine pr_g (fun _ _ => ?_)
      refine pr_ln (fun σh15 e2 => ?_)
      have h_2 : kt σ0 σh15 := by rw [e2]; exact kt_sE rfl h_1
      refine pr_b pr_any (fun rh16 _ => ?_)
      exact pr_s h_2
    ·
      refine pr_g (fun _ _ => ?_)
      refine pr_g (fun _ _ => ?_)
      refine pr_ln (fun σh19 e3 => ?_)
      have h_3 : kt σ0 σh19 := by rw [e3]; exact kt_sE rfl h0
      refine pr_ln (fun x20 _ => ?_)
      exact ih h_3
theorem y_X12_adds {n : Nat} {σ : ms_T} {a1 : Int32} {σ0 : ms_T} (h0 : kt σ0 σ)  : pr (f_X12_adds n σ a1) (fun res => kt σ0 res.2) := by
  unfold f_X12_adds
  refine pr_b pr_any (fun rh1 _ => ?_)
  refine pr_i (fun _ => ?_) (fun _ => ?_)
  ·
    refine pr_c (y_X12_refuse h0 ) (fun rh21 σh21 h_1 => ?_)
    replace h_1 : kt σ0 σh21 := h_1
    exact pr_s h_1
  ·
    refine pr_b pr_any (fun rh3 _ => ?_)
    refine pr_ln (fun x4 _ => ?_)
    refine pr_g (fun _ _ => ?_)
    refine pr_ln (fun σh6 e2 => ?_)
    have h_2 : kt σ0 σh6 := by rw [e2]; exact kt_sE rfl h0
    exact y_X12_adds_L43  _ h_2
theorem y_X12_forks_L82 {n : Nat} {rec41 : ms_T → Int32 → Int32 → Int32 → Int32 → Option (Int32 × ms_T)} {σ0 : ms_T} (hrec41 : ∀ {y0 : ms_T} {y1 : Int32} {y2 : Int32} {y3 : Int32} {y4 : Int32}, kt σ0 y0 → pr (rec41 y0 y1 y2 y3 y4) (fun res => kt σ0 res.2)) : ∀ (k82 : Nat) {σh20 : ms_T} {v1_h20 : Int32} {v2_h20 : Int32} {v3_h20 : Int32} {v4_h20 : Int32} {v5_h20 : Int32}, kt σ0 σh20 → pr (f_X12_forks_L82 n rec41 k82 σh20 v1_h20 v2_h20 v3_h20 v4_h20 v5_h20) (fun res => kt σ0 res.2) := by
  intro k82
  induction k82 with
  | zero => intro σh20 v1_h20 v2_h20 v3_h20 v4_h20 v5_h20 h0; rw [f_X12_forks_L82.eq_1]; exact pr_0
  | succ k82 ih =>
    intro σh20 v1_h20 v2_h20 v3_h20 v4_h20 v5_h20 h0
    rw [f_X12_forks_L82.eq_2]
    refine pr_i (fun _ => ?_) (fun _ => ?_)
    ·
      refine pr_ln (fun x22 _ => ?_)
      exact hrec41 h0
    ·
      refine pr_g (fun _ _ => ?_)
      refine pr_g (fun _ _ => ?_)
      refine pr_ln (fun σh25 e1 => ?_)
      have h_1 : kt σ0 σh25 := by rw [e1]; exact kt_sE rfl h0
      refine pr_ln (fun x26 _ => ?_)
      exact ih h_1
theorem y_X12_forks_L41 {n : Nat} {σ0 : ms_T}  : ∀ (k41 : Nat) {σh7 : ms_T} {v1_h7 : Int32} {v2_h7 : Int32} {v3_h7 : Int32} {v4_h7 : Int32}, kt σ0 σh7 → pr (f_X12_forks_L41 n k41 σh7 v1_h7 v2_h7 v3_h7 v4_h7) (fun res => kt σ0 res.2) := by
  intro k41
  induction k41 with
  | zero => intro σh7 v1_h7 v2_h7 v3_h7 v4_h7 h0; rw [f_X12_forks_L41.eq_1]; exact pr_0
  | succ k41 ih =>
    intro σh7 v1_h7 v2_h7 v3_h7 v4_h7 h0
    rw [f_X12_forks_L41.eq_2]
    refine pr_i (fun _ => ?_) (fun _ => ?_)
    ·
      refine pr_g (fun _ _ => ?_)
      refine pr_ln (fun σh10 e1 => ?_)
      have h_1 : kt σ0 σh10 := by rw [e1]; exact kt_sE rfl h0
      refine pr_g (fun _ _ => ?_)
      refine pr_g (fun _ _ => ?_)
      refine pr_ln (fun σh13 e2 => ?_)
      have h_2 : kt σ0 σh13 := by rw [e2]; exact kt_sE rfl h_1
      refine pr_g (fun _ _ => ?_)
      refine pr_g (fun _ _ => ?_)
      refine pr_ln (fun σh16 e3 => ?_)
      have h_3 : kt σ0 σh16 := by rw [e3]; exact kt_sE rfl h_2
      exact pr_s h_3
    ·
      refine pr_g (fun _ _ => ?_)
      refine pr_g (fun _ _ => ?_)
      refine pr_ln (fun σh19 e4 => ?_)
      have h_4 : kt σ0 σh19 := by rw [e4]; exact kt_sE rfl h0
      exact y_X12_forks_L82 (fun h => ih h) _ h_4
theorem y_X12_forks {n : Nat} {σ : ms_T} {a1 : Int32} {a2 : Int32} {σ0 : ms_T} (h0 : kt σ0 σ)  : pr (f_X12_forks n σ a1 a2) (fun res => kt σ0 res.2) := by
  unfold f_X12_forks
  refine pr_b pr_any (fun rh1 _ => ?_)
  refine pr_i (fun _ => ?_) (fun _ => ?_)
  ·
    refine pr_g (fun _ _ => ?_)
    refine pr_i (fun _ => ?_) (fun _ => ?_)
    ·
      refine pr_c (y_X12_refuse h0 ) (fun rh27 σh27 h_1 => ?_)
      replace h_1 : kt σ0 σh27 := h_1
      exact pr_s h_1
    ·
      refine pr_g (fun _ _ => ?_)
      refine pr_ln (fun x6 _ => ?_)
      exact y_X12_forks_L41  _ h0
  ·
    refine pr_c (y_X12_refuse h0 ) (fun rh28 σh28 h_2 => ?_)
    replace h_2 : kt σ0 σh28 := h_2
    exact pr_s h_2
theorem y_X12_freezes_L98 {n : Nat} {σ0 : ms_T}  : ∀ (k98 : Nat) {σh20 : ms_T} {v2_h20 : Int32} {v3_h20 : Int32}, kt σ0 σh20 → pr (f_X12_freezes_L98 n k98 σh20 v2_h20 v3_h20) (fun res => kt σ0 res.2) := by
  intro k98
  induction k98 with
  | zero => intro σh20 v2_h20 v3_h20 h0; rw [f_X12_freezes_L98.eq_1]; exact pr_0
  | succ k98 ih =>
    intro σh20 v2_h20 v3_h20 h0
    rw [f_X12_freezes_L98.eq_2]
    refine pr_i (fun _ => ?_) (fun _ => ?_)
    ·
      refine pr_g (fun _ _ => ?_)
      refine pr_g (fun _ _ => ?_)
      refine pr_ln (fun σh24 e1 => ?_)
      have h_1 : kt σ0 σh24 := by rw [e1]; exact kt_sE rfl h0
      refine pr_g (fun _ _ => ?_)
      refine pr_g (fun _ _ => ?_)
      refine pr_ln (fun σh27 e2 => ?_)
      have h_2 : kt σ0 σh27 := by rw [e2]; exact kt_sE rfl h_1
      refine pr_g (fun _ _ => ?_)
      exact pr_s h_2
    ·
      refine pr_g (fun _ _ => ?_)
      refine pr_g (fun _ _ => ?_)
      refine pr_ln (fun σh31 e3 => ?_)
      have h_3 : kt σ0 σh31 := by rw [e3]; exact kt_sE rfl h0
      refine pr_ln (fun x32 _ => ?_)
      exact ih h_3
theorem y_X12_freezes {n : Nat} {σ : ms_T} {a1 : Int32} {σ0 : ms_T} (h0 : kt σ0 σ)  : pr (f_X12_freezes n σ a1) (fun res => kt σ0 res.2) := by
  unfold f_X12_freezes
  refine pr_g (fun _ _ => ?_)
  refine pr_i (fun _ => ?_) (fun _ => ?_)
  ·
    refine pr_c (y_X12_refuse h0 ) (fun rh33 σh33 h_1 => ?_)
    replace h_1 : kt σ0 σh33 := h_1
    exact pr_s h_1
  ·
    refine pr_g (fun _ _ => ?_)
    refine pr_ln (fun x4 _ => ?_)
    refine pr_g (fun _ _ => ?_)
    refine pr_ln (fun σh6 e2 => ?_)
    have h_2 : kt σ0 σh6 := by rw [e2]; exact kt_sE rfl h0
    refine pr_b pr_any (fun rh7 _ => ?_)
    refine pr_g (fun _ _ => ?_)
    refine pr_ln (fun σh9 e3 => ?_)
    have h_3 : kt σ0 σh9 := by rw [e3]; exact kt_sE rfl h_2
    refine pr_b pr_any (fun rh10 _ => ?_)
    refine pr_b pr_any (fun rh11 _ => ?_)
    refine pr_g (fun _ _ => ?_)
    refine pr_ln (fun σh13 e4 => ?_)
    have h_4 : kt σ0 σh13 := by rw [e4]; exact kt_sE rfl h_3
    refine pr_g (fun _ _ => ?_)
    refine pr_g (fun _ _ => ?_)
    refine pr_ln (fun σh16 e5 => ?_)
    have h_5 : kt σ0 σh16 := by rw [e5]; exact kt_sE rfl h_4
    refine pr_b pr_any (fun rh17 _ => ?_)
    refine pr_b (y_X12_peaksOf h_5 ) (fun σh18 h_6 => ?_)
    replace h_6 : kt σ0 σh18 := h_6
    refine pr_b (y_X12_fetches h_6 ) (fun σh19 h_7 => ?_)
    replace h_7 : kt σ0 σh19 := h_7
    exact y_X12_freezes_L98  _ h_7
theorem y_X12_trusts {n : Nat} {σ : ms_T} {a1 : Int32} {a2 : Int32} {a3 : Int32} {σ0 : ms_T} (h0 : kt σ0 σ)  : pr (f_X12_trusts n σ a1 a2 a3) (fun res => kt σ0 res) := by
  unfold f_X12_trusts
  refine pr_g (fun _ _ => ?_)
  refine pr_ln (fun σh2 e1 => ?_)
  have h_1 : kt σ0 σh2 := by rw [e1]; exact kt_sE rfl h0
  refine pr_g (fun _ _ => ?_)
  refine pr_ln (fun σh4 e2 => ?_)
  have h_2 : kt σ0 σh4 := by rw [e2]; exact kt_sE rfl h_1
  exact pr_s h_2
theorem y_X12_shows_J117 {n : Nat} {σh5 : ms_T} {v1_h5 : Int32} {v6_h5 : Int32} {σ0 : ms_T} (h0 : kt σ0 σh5)  : pr (f_X12_shows_J117 n σh5 v1_h5 v6_h5) (fun res => kt σ0 res.2) := by
  unfold f_X12_shows_J117
  refine pr_ln (fun x6 _ => ?_)
  refine pr_g (fun _ _ => ?_)
  refine pr_g (fun _ _ => ?_)
  refine pr_ln (fun σh9 e1 => ?_)
  have h_1 : kt σ0 σh9 := by rw [e1]; exact kt_sE rfl h0
  refine pr_g (fun _ _ => ?_)
  refine pr_g (fun _ _ => ?_)
  refine pr_ln (fun σh12 e2 => ?_)
  have h_2 : kt σ0 σh12 := by rw [e2]; exact kt_sE rfl h_1
  exact pr_s h_2
theorem y_X12_shows_J92 {n : Nat} {σh4 : ms_T} {v1_h4 : Int32} {v6_h4 : Int32} {σ0 : ms_T} (h0 : kt σ0 σh4)  : pr (f_X12_shows_J92 n σh4 v1_h4 v6_h4) (fun res => kt σ0 res.2) := by
  unfold f_X12_shows_J92
  refine pr_i (fun _ => ?_) (fun _ => ?_)
  ·
    exact y_X12_shows_J117 h0 
  ·
    refine pr_i (fun _ => ?_) (fun _ => ?_)
    ·
      exact y_X12_shows_J117 h0 
    ·
      refine pr_g (fun _ _ => ?_)
      refine pr_ln (fun σh16 e1 => ?_)
      have h_1 : kt σ0 σh16 := by rw [e1]; exact kt_sE rfl h0
      exact y_X12_shows_J117 h_1 
theorem y_X12_shows_J71 {n : Nat} {σh3 : ms_T} {v1_h3 : Int32} {v3_h3 : Int32} {v4_h3 : Int32} {v5_h3 : Int32} {w0_h3 : Int32} {σ0 : ms_T} (h0 : kt σ0 σh3)  : pr (f_X12_shows_J71 n σh3 v1_h3 v3_h3 v4_h3 v5_h3 w0_h3) (fun res => kt σ0 res.2) := by
  unfold f_X12_shows_J71
  refine pr_i (fun _ => ?_) (fun _ => ?_)
  ·
    refine pr_i (fun _ => ?_) (fun _ => ?_)
    ·
      exact y_X12_shows_J92 h0 
    ·
      refine pr_b (y_X12_trusts h0 ) (fun σh19 h_1 => ?_)
      replace h_1 : kt σ0 σh19 := h_1
      exact y_X12_shows_J92 h_1 
  ·
    exact y_X12_shows_J92 h0 
theorem y_X12_shows {n : Nat} {σ : ms_T} {a1 : Int32} {a2 : Int32} {a3 : Int32} {σ0 : ms_T} (h0 : kt σ0 σ)  : pr (f_X12_shows n σ a1 a2 a3) (fun res => kt σ0 res.2) := by
  unfold f_X12_shows
  refine pr_b pr_any (fun rh1 _ => ?_)
  refine pr_b pr_any (fun rh2 _ => ?_)
  refine pr_i (fun _ => ?_) (fun _ => ?_)
  ·
    refine pr_b pr_any (fun rh21 _ => ?_)
    refine pr_c (y_X12_whyByRecord h0 ) (fun rh22 σh22 h_1 => ?_)
    replace h_1 : kt σ0 σh22 := h_1
    exact y_X12_shows_J71 h_1 
  ·
    refine pr_b pr_any (fun rh23 _ => ?_)
    refine pr_i (fun _ => ?_) (fun _ => ?_)
    ·
      refine pr_b pr_any (fun rh25 _ => ?_)
      refine pr_c (y_X12_whyByRecord h0 ) (fun rh26 σh26 h_2 => ?_)
      replace h_2 : kt σ0 σh26 := h_2
      exact y_X12_shows_J71 h_2 
    ·
      exact y_X12_shows_J71 h0 
theorem y_X12_add_J14 {n : Nat} {σh2 : ms_T} {v1_h2 : Int32} {w0_h2 : Int32} {σ0 : ms_T} (h0 : kt σ0 σh2)  : pr (f_X12_add_J14 n σh2 v1_h2 w0_h2) (fun res => kt σ0 res.2) := by
  unfold f_X12_add_J14
  refine pr_c (y_X12_is h0 ) (fun rh3 σh3 h_1 => ?_)
  replace h_1 : kt σ0 σh3 := h_1
  refine pr_i (fun _ => ?_) (fun _ => ?_)
  ·
    exact pr_s h_1
  ·
    refine pr_b (y_X12_hand h_1 ) (fun σh5 h_2 => ?_)
    replace h_2 : kt σ0 σh5 := h_2
    refine pr_c (y_X12_adds h_2 ) (fun rh6 σh6 h_3 => ?_)
    replace h_3 : kt σ0 σh6 := h_3
    exact pr_s h_3
theorem y_X12_add {n : Nat} {σ : ms_T} {a1 : Int32} {σ0 : ms_T} (h0 : kt σ0 σ)  : pr (f_X12_add n σ a1) (fun res => kt σ0 res.2) := by
  unfold f_X12_add
  refine pr_b pr_any (fun rh1 _ => ?_)
  refine pr_i (fun _ => ?_) (fun _ => ?_)
  ·
    exact y_X12_add_J14 h0 
  ·
    exact y_X12_add_J14 h0 
theorem y_X12_fork_J22 {n : Nat} {σh1 : ms_T} {v1_h1 : Int32} {v2_h1 : Int32} {w0_h1 : Int32} {σ0 : ms_T} (h0 : kt σ0 σh1)  : pr (f_X12_fork_J22 n σh1 v1_h1 v2_h1 w0_h1) (fun res => kt σ0 res.2) := by
  unfold f_X12_fork_J22
  refine pr_c (y_X12_is h0 ) (fun rh2 σh2 h_1 => ?_)
  replace h_1 : kt σ0 σh2 := h_1
  refine pr_i (fun _ => ?_) (fun _ => ?_)
  ·
    exact pr_s h_1
  ·
    refine pr_c (y_X12_forks h_1 ) (fun rh4 σh4 h_2 => ?_)
    replace h_2 : kt σ0 σh4 := h_2
    exact pr_s h_2
theorem y_X12_fork {n : Nat} {σ : ms_T} {a1 : Int32} {a2 : Int32} {σ0 : ms_T} (h0 : kt σ0 σ)  : pr (f_X12_fork n σ a1 a2) (fun res => kt σ0 res.2) := by
  unfold f_X12_fork
  refine pr_i (fun _ => ?_) (fun _ => ?_)
  ·
    refine pr_b pr_any (fun rh6 _ => ?_)
    refine pr_i (fun _ => ?_) (fun _ => ?_)
    ·
      exact y_X12_fork_J22 h0 
    ·
      exact y_X12_fork_J22 h0 
  ·
    exact y_X12_fork_J22 h0 
theorem y_X12_freeze_J14 {n : Nat} {σh2 : ms_T} {v1_h2 : Int32} {w0_h2 : Int32} {σ0 : ms_T} (h0 : kt σ0 σh2)  : pr (f_X12_freeze_J14 n σh2 v1_h2 w0_h2) (fun res => kt σ0 res.2) := by
  unfold f_X12_freeze_J14
  refine pr_c (y_X12_is h0 ) (fun rh3 σh3 h_1 => ?_)
  replace h_1 : kt σ0 σh3 := h_1
  refine pr_i (fun _ => ?_) (fun _ => ?_)
  ·
    exact pr_s h_1
  ·
    refine pr_c (y_X12_freezes h_1 ) (fun rh5 σh5 h_2 => ?_)
    replace h_2 : kt σ0 σh5 := h_2
    exact pr_s h_2
theorem y_X12_freeze {n : Nat} {σ : ms_T} {a1 : Int32} {σ0 : ms_T} (h0 : kt σ0 σ)  : pr (f_X12_freeze n σ a1) (fun res => kt σ0 res.2) := by
  unfold f_X12_freeze
  refine pr_b pr_any (fun rh1 _ => ?_)
  refine pr_i (fun _ => ?_) (fun _ => ?_)
  ·
    exact y_X12_freeze_J14 h0 
  ·
    exact y_X12_freeze_J14 h0 
theorem y_X12_show_J42 {n : Nat} {σh1 : ms_T} {v1_h1 : Int32} {v2_h1 : Int32} {v3_h1 : Int32} {w0_h1 : Int32} {σ0 : ms_T} (h0 : kt σ0 σh1)  : pr (f_X12_show_J42 n σh1 v1_h1 v2_h1 v3_h1 w0_h1) (fun res => kt σ0 res.2) := by
  unfold f_X12_show_J42
  refine pr_c (y_X12_is h0 ) (fun rh2 σh2 h_1 => ?_)
  replace h_1 : kt σ0 σh2 := h_1
  refine pr_i (fun _ => ?_) (fun _ => ?_)
  ·
    exact pr_s h_1
  ·
    refine pr_c (y_X12_shows h_1 ) (fun rh4 σh4 h_2 => ?_)
    replace h_2 : kt σ0 σh4 := h_2
    exact pr_s h_2
theorem y_X12_show_J24 {n : Nat} {σh7 : ms_T} {v1_h7 : Int32} {v2_h7 : Int32} {v3_h7 : Int32} {σ0 : ms_T} (h0 : kt σ0 σh7)  : pr (f_X12_show_J24 n σh7 v1_h7 v2_h7 v3_h7) (fun res => kt σ0 res.2) := by
  unfold f_X12_show_J24
  exact y_X12_show_J42 h0 
theorem y_X12_show {n : Nat} {σ : ms_T} {a1 : Int32} {a2 : Int32} {a3 : Int32} {σ0 : ms_T} (h0 : kt σ0 σ)  : pr (f_X12_show n σ a1 a2 a3) (fun res => kt σ0 res.2) := by
  unfold f_X12_show
  refine pr_i (fun _ => ?_) (fun _ => ?_)
  ·
    refine pr_b pr_any (fun rh6 _ => ?_)
    refine pr_i (fun _ => ?_) (fun _ => ?_)
    ·
      exact y_X12_show_J24 h0 
    ·
      refine pr_b pr_any (fun rh9 _ => ?_)
      refine pr_i (fun _ => ?_) (fun _ => ?_)
      ·
        exact y_X12_show_J24 h0 
      ·
        refine pr_b pr_any (fun rh11 _ => ?_)
        refine pr_i (fun _ => ?_) (fun _ => ?_)
        ·
          exact y_X12_show_J42 h0 
        ·
          exact y_X12_show_J42 h0 
  ·
    exact y_X12_show_J42 h0 
theorem y_X12_meet_J196 {n : Nat} {σh14 : ms_T} {v8_h14 : Int32} {σ0 : ms_T} (h0 : kt σ0 σh14)  : pr (f_X12_meet_J196 n σh14 v8_h14) (fun res => kt σ0 res.2) := by
  unfold f_X12_meet_J196
  refine pr_g (fun _ _ => ?_)
  refine pr_g (fun _ _ => ?_)
  refine pr_ln (fun σh17 e1 => ?_)
  have h_1 : kt σ0 σh17 := by rw [e1]; exact kt_sE rfl h0
  exact pr_s h_1
theorem y_X12_meet_J155 {n : Nat} {σh13 : ms_T} {v5_h13 : Int32} {v6_h13 : Int32} {v8_h13 : Int32} {σ0 : ms_T} (h0 : kt σ0 σh13)  : pr (f_X12_meet_J155 n σh13 v5_h13 v6_h13 v8_h13) (fun res => kt σ0 res.2) := by
  unfold f_X12_meet_J155
  refine pr_i (fun _ => ?_) (fun _ => ?_)
  ·
    exact y_X12_meet_J196 h0 
  ·
    refine pr_i (fun _ => ?_) (fun _ => ?_)
    ·
      exact y_X12_meet_J196 h0 
    ·
      refine pr_g (fun _ _ => ?_)
      refine pr_ln (fun σh21 e1 => ?_)
      have h_1 : kt σ0 σh21 := by rw [e1]; exact kt_sE rfl h0
      refine pr_g (fun _ _ => ?_)
      refine pr_ln (fun σh23 e2 => ?_)
      have h_2 : kt σ0 σh23 := by rw [e2]; exact kt_sE rfl h_1
      exact y_X12_meet_J196 h_2 
theorem y_X12_meet_J133 {n : Nat} {σh12 : ms_T} {v5_h12 : Int32} {v6_h12 : Int32} {v7_h12 : Int32} {w0_h12 : Int32} {σ0 : ms_T} (h0 : kt σ0 σh12)  : pr (f_X12_meet_J133 n σh12 v5_h12 v6_h12 v7_h12 w0_h12) (fun res => kt σ0 res.2) := by
  unfold f_X12_meet_J133
  refine pr_i (fun _ => ?_) (fun _ => ?_)
  ·
    refine pr_b pr_any (fun rh25 _ => ?_)
    refine pr_b (y_X12_trusts h0 ) (fun σh26 h_1 => ?_)
    replace h_1 : kt σ0 σh26 := h_1
    exact y_X12_meet_J155 h_1 
  ·
    exact y_X12_meet_J155 h0 
theorem y_X12_meet_J80 {n : Nat} {σh9 : ms_T} {v3_h9 : Int32} {v5_h9 : Int32} {w0_h9 : Int32} {σ0 : ms_T} (h0 : kt σ0 σh9)  : pr (f_X12_meet_J80 n σh9 v3_h9 v5_h9 w0_h9) (fun res => kt σ0 res.2) := by
  unfold f_X12_meet_J80
  refine pr_b pr_any (fun rh10 _ => ?_)
  refine pr_b pr_any (fun rh11 _ => ?_)
  refine pr_i (fun _ => ?_) (fun _ => ?_)
  ·
    refine pr_b pr_any (fun rh28 _ => ?_)
    refine pr_b pr_any (fun rh29 _ => ?_)
    refine pr_b pr_any (fun rh30 _ => ?_)
    refine pr_c (y_X12_whyByRecord h0 ) (fun rh31 σh31 h_1 => ?_)
    replace h_1 : kt σ0 σh31 := h_1
    exact y_X12_meet_J133 h_1 
  ·
    exact y_X12_meet_J133 h0 
theorem y_X12_meet_J68 {n : Nat} {σh8 : ms_T} {v1_h8 : Int32} {v2_h8 : Int32} {v3_h8 : Int32} {v4_h8 : Int32} {w0_h8 : Int32} {σ0 : ms_T} (h0 : kt σ0 σh8)  : pr (f_X12_meet_J68 n σh8 v1_h8 v2_h8 v3_h8 v4_h8 w0_h8) (fun res => kt σ0 res.2) := by
  unfold f_X12_meet_J68
  refine pr_i (fun _ => ?_) (fun _ => ?_)
  ·
    exact y_X12_meet_J80 h0 
  ·
    exact y_X12_meet_J80 h0 
theorem y_X12_meet_J56 {n : Nat} {σh7 : ms_T} {v1_h7 : Int32} {v2_h7 : Int32} {v3_h7 : Int32} {w0_h7 : Int32} {σ0 : ms_T} (h0 : kt σ0 σh7)  : pr (f_X12_meet_J56 n σh7 v1_h7 v2_h7 v3_h7 w0_h7) (fun res => kt σ0 res.2) := by
  unfold f_X12_meet_J56
  refine pr_i (fun _ => ?_) (fun _ => ?_)
  ·
    exact y_X12_meet_J68 h0 
  ·
    exact y_X12_meet_J68 h0 
theorem y_X12_meet_J28 {n : Nat} {σh2 : ms_T} {v1_h2 : Int32} {v2_h2 : Int32} {v3_h2 : Int32} {w0_h2 : Int32} {σ0 : ms_T} (h0 : kt σ0 σh2)  : pr (f_X12_meet_J28 n σh2 v1_h2 v2_h2 v3_h2 w0_h2) (fun res => kt σ0 res.2) := by
  unfold f_X12_meet_J28
  refine pr_c (y_X12_is h0 ) (fun rh3 σh3 h_1 => ?_)
  replace h_1 : kt σ0 σh3 := h_1
  refine pr_i (fun _ => ?_) (fun _ => ?_)
  ·
    exact pr_s h_1
  ·
    refine pr_b pr_any (fun rh5 _ => ?_)
    refine pr_b pr_any (fun rh6 _ => ?_)
    refine pr_i (fun _ => ?_) (fun _ => ?_)
    ·
      exact y_X12_meet_J56 h_1 
    ·
      exact y_X12_meet_J56 h_1 
theorem y_X12_meet_J27 {n : Nat} {σh35 : ms_T} {v1_h35 : Int32} {v2_h35 : Int32} {v3_h35 : Int32} {σ0 : ms_T} (h0 : kt σ0 σh35)  : pr (f_X12_meet_J27 n σh35 v1_h35 v2_h35 v3_h35) (fun res => kt σ0 res.2) := by
  unfold f_X12_meet_J27
  exact y_X12_meet_J28 h0 
theorem y_X12_meet {n : Nat} {σ : ms_T} {a1 : Int32} {a2 : Int32} {a3 : Int32} {σ0 : ms_T} (h0 : kt σ0 σ)  : pr (f_X12_meet n σ a1 a2 a3) (fun res => kt σ0 res.2) := by
  unfold f_X12_meet
  refine pr_b pr_any (fun rh1 _ => ?_)
  refine pr_i (fun _ => ?_) (fun _ => ?_)
  ·
    exact y_X12_meet_J27 h0 
  ·
    refine pr_b pr_any (fun rh37 _ => ?_)
    refine pr_i (fun _ => ?_) (fun _ => ?_)
    ·
      exact y_X12_meet_J27 h0 
    ·
      refine pr_b pr_any (fun rh39 _ => ?_)
      refine pr_i (fun _ => ?_) (fun _ => ?_)
      ·
        exact y_X12_meet_J27 h0 
      ·
        exact y_X12_meet_J28 h0 
theorem y_X12_spoil_J69 {n : Nat} {σh1 : ms_T} {v1_h1 : Int32} {v2_h1 : Int32} {v3_h1 : Int32} {v4_h1 : Int32} {w0_h1 : Int32} {σ0 : ms_T} (h0 : kt σ0 σh1)  : pr (f_X12_spoil_J69 n σh1 v1_h1 v2_h1 v3_h1 v4_h1 w0_h1) (fun res => kt σ0 res.2) := by
  unfold f_X12_spoil_J69
  refine pr_c (y_X12_is h0 ) (fun rh2 σh2 h_1 => ?_)
  replace h_1 : kt σ0 σh2 := h_1
  refine pr_i (fun _ => ?_) (fun _ => ?_)
  ·
    exact pr_s h_1
  ·
    refine pr_ln (fun x4 _ => ?_)
    refine pr_g (fun _ _ => ?_)
    refine pr_ln (fun x6 _ => ?_)
    refine pr_i (fun _ => ?_) (fun _ => ?_)
    ·
      refine pr_c (y_X12_refuse h_1 ) (fun rh13 σh13 h_2 => ?_)
      replace h_2 : kt σ0 σh13 := h_2
      exact pr_s h_2
    ·
      refine pr_g (fun _ _ => ?_)
      refine pr_ln (fun σh9 e3 => ?_)
      have h_3 : kt σ0 σh9 := by rw [e3]; exact kt_sE rfl h_1
      refine pr_g (fun _ _ => ?_)
      refine pr_g (fun _ _ => ?_)
      refine pr_ln (fun σh12 e4 => ?_)
      have h_4 : kt σ0 σh12 := by rw [e4]; exact kt_sE rfl h_3
      exact pr_s h_4
theorem y_X12_spoil_J20 {n : Nat} {σh14 : ms_T} {v1_h14 : Int32} {v2_h14 : Int32} {v3_h14 : Int32} {v4_h14 : Int32} {σ0 : ms_T} (h0 : kt σ0 σh14)  : pr (f_X12_spoil_J20 n σh14 v1_h14 v2_h14 v3_h14 v4_h14) (fun res => kt σ0 res.2) := by
  unfold f_X12_spoil_J20
  exact y_X12_spoil_J69 h0 
theorem y_X12_spoil_J64 {n : Nat} {σh22 : ms_T} {v1_h22 : Int32} {v2_h22 : Int32} {v3_h22 : Int32} {v4_h22 : Int32} {σ0 : ms_T} (h0 : kt σ0 σh22)  : pr (f_X12_spoil_J64 n σh22 v1_h22 v2_h22 v3_h22 v4_h22) (fun res => kt σ0 res.2) := by
  unfold f_X12_spoil_J64
  exact y_X12_spoil_J69 h0 
theorem y_X12_spoil {n : Nat} {σ : ms_T} {a1 : Int32} {a2 : Int32} {a3 : Int32} {a4 : Int32} {σ0 : ms_T} (h0 : kt σ0 σ)  : pr (f_X12_spoil n σ a1 a2 a3 a4) (fun res => kt σ0 res.2) := by
  unfold f_X12_spoil
  refine pr_i (fun _ => ?_) (fun _ => ?_)
  ·
    exact y_X12_spoil_J20 h0 
  ·
    refine pr_i (fun _ => ?_) (fun _ => ?_)
    ·
      exact y_X12_spoil_J20 h0 
    ·
      refine pr_b pr_any (fun rh17 _ => ?_)
      refine pr_i (fun _ => ?_) (fun _ => ?_)
      ·
        exact y_X12_spoil_J20 h0 
      ·
        refine pr_b pr_any (fun rh19 _ => ?_)
        refine pr_i (fun _ => ?_) (fun _ => ?_)
        ·
          exact y_X12_spoil_J69 h0 
        ·
          refine pr_b pr_any (fun rh21 _ => ?_)
          refine pr_i (fun _ => ?_) (fun _ => ?_)
          ·
            exact y_X12_spoil_J64 h0 
          ·
            refine pr_g (fun _ _ => ?_)
            refine pr_i (fun _ => ?_) (fun _ => ?_)
            ·
              exact y_X12_spoil_J69 h0 
            ·
              exact y_X12_spoil_J64 h0 
/-! ===== acts keep LX ===== -/
theorem LX_act {α β : hp_T} {x : Nat} {σ τ : ms_T} (h : LX α x σ) (hRW : RWX β x (ms_E τ 40)) (hC : rC (ms_E τ 40)) (hA : AL01 (ms_E τ 40)) (eR : keR x α β) (eK : hp_K β (x + 921) = hp_K α (x + 921)) (e6 : hp_I β 605 x = hp_I α 605 x) (e24 : ∀ j, hp_E β 24 (x + 921) j = hp_E α 24 (x + 921) j) (e5 : ∀ b, x + 922 ≤ b → b < x + 926 → hp_I β 501 b = hp_I α 501 b) (e27 : ∀ b j, x + 922 ≤ b → b < x + 926 → hp_E β 27 b j = hp_E α 27 b j) (k : kt σ τ) (e7 : ms_I τ 667 = ms_I σ 667) : LX β x τ := by
  obtain ⟨h0, h1, h2, h3, ⟨t1, t2⟩, l, h5, h6⟩ := h
  refine ⟨hC, XSH_f h1 eR eK, RWZ_X hRW, hA, ⟨by rw [e6, e7]; exact t1, fun j hj => ?_⟩, l, TYS_e h5 (k.1 664 rfl) (fun j => k.2 45 rfl j), TYC_f h6 eR e5 e27⟩
  rw [e7] at hj
  rw [e24, k.2 47 rfl]; exact t2 j hj
theorem LX_wfs {α β : hp_T} {x : Nat} {σ τ : ms_T} (h : LX α x σ) (hRW : RWX β x (ms_E τ 40)) (hC : rC (ms_E τ 40)) (hA : AL01 (ms_E τ 40)) (w : wfs x α β) (k : kt σ τ) (e7 : ms_I τ 667 = ms_I σ 667) : LX β x τ := by
  obtain ⟨w1, w2, w3, w4, w5, w6⟩ := w
  exact LX_act h hRW hC hA (fun φ b _ _ => by rw [w1]) (by rw [w2]) (w5 605 x (by omega) (fun q => absurd q.1 (by decide))) (fun j => w6 24 _ j (by omega)) (fun b p q => w5 501 b (by omega) (fun q => absurd q.1 (by decide))) (fun b j p q => w6 27 b j (by omega)) k e7
/-! alarms -/
theorem AL_ad {f g : Nat → Int32} {l : List Int32} {a : Int32} (hC : rC f) (h : AL01 f) (hg : adG f l a g) : AL01 g := by
  have h4 := hC.1
  unfold adG at hg
  by_cases ok : adOK f a
  · rw [if_pos ok] at hg
    have hr := ok.1
    exact AL_adF hC h (by omega) ok.2 (by have := ok.2; omega) hg
  · rw [if_neg ok] at hg
    rw [hg]; exact h
theorem AL_fo {f g : Nat → Int32} {a b : Int32} (hC : rC f) (h : AL01 f) (hg : foG f a b g) : AL01 g := by
  have h4 := hC.1
  unfold foG at hg
  by_cases ok : foOK f a b
  · rw [if_pos ok] at hg
    have h3 := ok.2.2.2
    exact AL_foF hC h (by omega) (by omega) hg
  · rw [if_neg ok] at hg
    rw [hg]; exact h
theorem AL_fz {f g : Nat → Int32} {a : Int32} (hC : rC f) (h : AL01 f) (hg : fzG f a g) : AL01 g := by
  unfold fzG at hg
  by_cases ok : (0 ≤ a.toInt ∧ a.toInt < (f 0).toInt) ∧ (f 3).toInt < 16
  · rw [if_pos ok] at hg
    exact AL_fzF hC h (by have := ok.1; omega) ok.2 hg
  · rw [if_neg ok] at hg
    rw [hg]; exact h
theorem AL_sp {f g : Nat → Int32} {a b c d : Int32} (hC : rC f) (h : AL01 f) (hg : spG f a b c d g) : AL01 g := by
  unfold spG at hg
  by_cases ok : spOK f a b c d
  · rw [if_pos ok] at hg
    exact AL_eq hC h (hg.2.2 0 (by omega) (by omega)) (hg.2.2 3 (by omega) (by omega)) (fun j _ _ => hg.2.2 j (by omega) (by omega))
  · rw [if_neg ok] at hg
    rw [hg]; exact h
theorem AL_meF {f g : Nat → Int32} {a b r : Nat} (hC : rC f) (h : AL01 f) (ha : a < 4) (hb : b < 4) (hg : meF f a b r g) : AL01 g := by
  obtain ⟨-, -, h3, h4, -, h6⟩ := hg
  have hc4 := hC.1
  have h60 : ∀ j, j < 76 ∨ 92 ≤ j → j ≠ 4 → g j = f j := fun j p q => h6 j (by omega) (by omega) (by omega) (by omega) q
  refine ⟨?_, FRI_e hC h.2 (by rw [h60 0 (by omega) (by omega)]; omega) (h60 3 (by omega) (by omega)) (fun q hq => by rw [h60 (72 + q) (by omega) (by omega)]; omega) (fun i hi => ⟨h60 _ (by omega) (by omega), h60 _ (by omega) (by omega)⟩)⟩
  intro v hv
  by_cases e : v = a
  · subst e
    rw [h3]
    by_cases c : meW f v b r = 0 ∨ meW f v b r = 5
    · rw [if_pos c]; exact h.1 v hv
    · rw [if_neg c]; exact Or.inr rfl
  · by_cases e2 : v = b
    · subst e2
      rw [h4]
      by_cases c : meW f a v r = 0 ∨ meW f a v r = 5
      · rw [if_pos c]; exact h.1 v hv
      · rw [if_neg c]; exact Or.inr rfl
    · rw [h6 _ (by omega) (by omega) (by omega) (by omega) (by omega)]; exact h.1 v hv
theorem AL_me {f g : Nat → Int32} {a b c : Int32} (hC : rC f) (h : AL01 f) (hg : meG f a b c g) : AL01 g := by
  unfold meG at hg
  by_cases ok : meOK f a b c
  · rw [if_pos ok] at hg
    have h1 := ok.1
    have h2 := ok.2.1
    by_cases q : (f (76 + 4 * b.toInt.toNat)).toInt < (f (76 + 4 * a.toInt.toNat)).toInt
    · rw [if_pos q] at hg
      exact AL_meF hC h (by omega) (by omega) hg
    · rw [if_neg q] at hg
      exact AL_meF hC h (by omega) (by omega) hg
  · rw [if_neg ok] at hg
    rw [hg]; exact h
/-! ===== the tape ===== -/
theorem byte_sh (a : Int32) (v : Int32) (hv : v = 24 ∨ v = 16 ∨ v = 8 ∨ v = 0) : ((a.toUInt32 >>> (v.toUInt32 &&& Int32.toUInt32 31)).toInt32).toInt8 = (a >>> (v &&& 31)).toInt8 := by
  have key : ∀ k : Nat, k ≤ 24 → BitVec.signExtend 8 (a.toBitVec >>> k) = BitVec.signExtend 8 (a.toBitVec.sshiftRight k) := by
    intro k hk
    rw [BitVec.signExtend_eq_setWidth_of_le _ (by decide), BitVec.signExtend_eq_setWidth_of_le _ (by decide)]
    apply BitVec.eq_of_getLsbD_eq
    intro i hi
    rw [BitVec.getLsbD_setWidth, BitVec.getLsbD_setWidth, BitVec.getLsbD_ushiftRight, BitVec.getLsbD_sshiftRight]
    have h1 : ¬ 32 ≤ i := by omega
    have h2 : k + i < 32 := by omega
    simp [h1, h2]
  rw [← Int8.toBitVec_inj]
  rcases hv with e | e | e | e <;> subst e
  · have h1 : (UInt32.mod (Int32.toUInt32 24 &&& Int32.toUInt32 31) 32).toBitVec.toNat = 24 := by decide
    have h2 : (((24 : Int32) &&& 31).toBitVec.smod 32).toNat = 24 := by decide
    show BitVec.signExtend 8 (a.toBitVec >>> (UInt32.mod (Int32.toUInt32 24 &&& Int32.toUInt32 31) 32).toBitVec.toNat) = BitVec.signExtend 8 (a.toBitVec.sshiftRight (((24 : Int32) &&& 31).toBitVec.smod 32).toNat)
    rw [h1, h2]
    exact key 24 (by omega)
  · have h1 : (UInt32.mod (Int32.toUInt32 16 &&& Int32.toUInt32 31) 32).toBitVec.toNat = 16 := by decide
    have h2 : (((16 : Int32) &&& 31).toBitVec.smod 32).toNat = 16 := by decide
    show BitVec.signExtend 8 (a.toBitVec >>> (UInt32.mod (Int32.toUInt32 16 &&& Int32.toUInt32 31) 32).toBitVec.toNat) = BitVec.signExtend 8 (a.toBitVec.sshiftRight (((16 : Int32) &&& 31).toBitVec.smod 32).toNat)
    rw [h1, h2]
    exact key 16 (by omega)
  · have h1 : (UInt32.mod (Int32.toUInt32 8 &&& Int32.toUInt32 31) 32).toBitVec.toNat = 8 := by decide
    have h2 : (((8 : Int32) &&& 31).toBitVec.smod 32).toNat = 8 := by decide
    show BitVec.signExtend 8 (a.toBitVec >>> (UInt32.mod (Int32.toUInt32 8 &&& Int32.toUInt32 31) 32).toBitVec.toNat) = BitVec.signExtend 8 (a.toBitVec.sshiftRight (((8 : Int32) &&& 31).toBitVec.smod 32).toNat)
    rw [h1, h2]
    exact key 8 (by omega)
  · have h1 : (UInt32.mod (Int32.toUInt32 0 &&& Int32.toUInt32 31) 32).toBitVec.toNat = 0 := by decide
    have h2 : (((0 : Int32) &&& 31).toBitVec.smod 32).toNat = 0 := by decide
    show BitVec.signExtend 8 (a.toBitVec >>> (UInt32.mod (Int32.toUInt32 0 &&& Int32.toUInt32 31) 32).toBitVec.toNat) = BitVec.signExtend 8 (a.toBitVec.sshiftRight (((0 : Int32) &&& 31).toBitVec.smod 32).toNat)
    rw [h1, h2]
    exact key 0 (by omega)
/-- bytes come behind those on the tape -/
def tfr (x : Nat) (α β : hp_T) : Prop := hp_R β = hp_R α ∧ hp_K β = hp_K α ∧ hp_Q β = hp_Q α ∧ hp_N β = hp_N α ∧ (∀ φ b, ¬ (φ = 605 ∧ b = x) → hp_I β φ b = hp_I α φ b) ∧ ∀ κ b j, ¬ (κ = 24 ∧ b = x + 921) → hp_E β κ b j = hp_E α κ b j
theorem tfr_rf {x : Nat} {α : hp_T} : tfr x α α := ⟨rfl, rfl, rfl, rfl, fun _ _ _ => rfl, fun _ _ _ _ => rfl⟩
theorem tfr_tr {x : Nat} {α β γ : hp_T} (h : tfr x α β) (g : tfr x β γ) : tfr x α γ := by
  obtain ⟨h1, h2, h3, h4, h5, h6⟩ := h
  obtain ⟨g1, g2, g3, g4, g5, g6⟩ := g
  exact ⟨g1.trans h1, g2.trans h2, g3.trans h3, g4.trans h4, fun φ b q => (g5 φ b q).trans (h5 φ b q), fun κ b j q => (g6 κ b j q).trans (h6 κ b j q)⟩
def k5 (σ τ : ms_T) : Prop := ms_I τ 664 = ms_I σ 664 ∧ ∀ κ, (κ == 40 || κ == 45) = true → ∀ j, ms_E τ κ j = ms_E σ κ j
theorem k5_tr {σ τ υ : ms_T} (h : k5 σ τ) (g : k5 τ υ) : k5 σ υ := ⟨g.1.trans h.1, fun κ hκ j => (g.2 κ hκ j).trans (h.2 κ hκ j)⟩
theorem r_puts (n : Nat) (x : Nat) (a : Int32) : ∀ (d : Nat) (vI : Int32) (α : hp_T) (σ τ : ms_T) (m : Nat), (∃ q : Nat, q ≤ 4 ∧ q + 1 ≤ m ∧ vI.toInt = 8 * (q : Int) - 8) → hp_R α 604 x = x + 921 → TPX α x σ → 0 ≤ (ms_I σ 667).toInt → (ms_I σ 667).toInt ≤ 900 → f_X12_puts_L3 n d σ a vI = some τ → ws (f_X11_putOnTape_L3 n x m α a vI) (fun β => TPX β x τ ∧ tfr x α β ∧ k5 σ τ ∧ 0 ≤ (ms_I τ 667).toInt ∧ (ms_I τ 667).toInt ≤ 900) := by
  intro d
  induction d with
  | zero => intro vI α σ τ m hq hR hT h0 h9 e; rw [f_X12_puts_L3.eq_1] at e; cases e
  | succ d ih =>
    intro vI α σ τ m hq hR hT h0 h9 e
    obtain ⟨q, hq4, hqm, hvq⟩ := hq
    obtain ⟨m, rfl⟩ : ∃ k, m = k + 1 := ⟨m - 1, by omega⟩
    rw [f_X12_puts_L3.eq_2] at e
    rw [f_X11_putOnTape_L3.eq_2]
    refine ws_i (fun hn => ?_) (fun hn => ?_)
    · rw [if_pos hn] at e
      cases e
      exact ws_s ⟨hT, tfr_rf, ⟨rfl, fun _ _ _ => rfl⟩, h0, h9⟩
    · rw [if_neg hn] at e
      have hn' := il_nlt hn
      rw [lt0] at hn'
      replace e := ms_gE e
      obtain ⟨⟨-, g1⟩, e⟩ := e
      replace e := ms_lE rfl (ms_lE rfl (ms_lE rfl e))
      have t900 := t_900
      have hv4 : vI = 24 ∨ vI = 16 ∨ vI = 8 ∨ vI = 0 := by
        have : q = 4 ∨ q = 3 ∨ q = 2 ∨ q = 1 := by omega
        rcases this with rfl | rfl | rfl | rfl
        · exact Or.inl (Int32.toInt_inj.mp (by rw [hvq]; decide))
        · exact Or.inr (Or.inl (Int32.toInt_inj.mp (by rw [hvq]; decide)))
        · exact Or.inr (Or.inr (Or.inl (Int32.toInt_inj.mp (by rw [hvq]; decide))))
        · exact Or.inr (Or.inr (Or.inr (Int32.toInt_inj.mp (by rw [hvq]; decide))))
      refine ws_l ?_
      rw [hT.1]
      refine ws_lt (fun c => by rw [lt0] at c; omega) (fun _ => ws_l (ws_l ?_))
      refine ws_le (fun c => by rw [t900] at c; omega) (fun _ => ws_l (ws_l ?_))
      refine ws_g h0 g1 (ws_l (ws_l (ws_l ?_)))
      unfold f_X11_putOnTape_J49
      refine ws_l ?_
      rw [hR, byte_sh a vI hv4]
      have ec : (ms_I σ 667).toNatClampNeg = (ms_I σ 667).toInt.toNat := cl_n (by omega)
      have e1 : (ms_I σ 667 + 1).toInt = (ms_I σ 667).toInt + 1 := by rw [iw_add, lt1]; omega
      have e8 : (vI + (-8)).toInt = 8 * ((q - 1 : Nat) : Int) - 8 := by
        have m8 : ((-8 : Int32)).toInt = -8 := by decide
        rw [iw_add, m8]; omega
      obtain ⟨by0, hby⟩ : ∃ u, u = (((a >>> (vI &&& 31))).toInt8.toInt32).toInt8.toInt32 := ⟨_, rfl⟩
      rw [← hby] at e ⊢
      rw [hI_sE, hT.1, ec]
      rw [ec, mI_sE] at e
      have hT2 : TPX (hp_sI (hp_sE α 24 (x + 921) (ms_I σ 667).toInt.toNat by0) 605 x (ms_I σ 667 + 1)) x (ms_sI (ms_sE σ 47 (ms_I σ 667).toInt.toNat by0) 667 (ms_I σ 667 + 1)) := by
        refine ⟨by rw [hI_sI, if_pos ⟨rfl, rfl⟩, mI_sI, if_pos rfl], fun j hj => ?_⟩
        rw [mI_sI, if_pos rfl, e1] at hj
        rw [hE_sI, hE_sE, mE_sI, mE_sE]
        by_cases ej : j = (ms_I σ 667).toInt.toNat
        · rw [if_pos ⟨rfl, rfl, ej⟩, if_pos ⟨rfl, ej⟩]
        · rw [if_neg (fun q => ej q.2.2), if_neg (fun q => ej q.2)]
          exact hT.2 j (by omega)
      refine ws_m (ih _ _ _ τ m ⟨q - 1, by omega, by omega, e8⟩ hR hT2 (by rw [mI_sI, if_pos rfl]; omega) (by rw [mI_sI, if_pos rfl, e1]; omega) e) (fun β hβ => ?_)
      · obtain ⟨b1, b2, b3, b4, b5⟩ := hβ
        refine ⟨b1, tfr_tr (β := hp_sI (hp_sE α 24 (x + 921) (ms_I σ 667).toInt.toNat by0) 605 x (ms_I σ 667 + 1)) ⟨rfl, rfl, rfl, rfl, fun φ b q => by rw [hI_sI, if_neg q, hI_sE], fun κ b j q => by rw [hE_sI, hE_sE, if_neg (fun z => q ⟨z.1, z.2.1⟩)]⟩ b2, k5_tr (τ := ms_sI (ms_sE σ 47 (ms_I σ 667).toInt.toNat by0) 667 (ms_I σ 667 + 1)) ⟨rfl, fun κ hκ j => ?_⟩ b3, b4, b5⟩
        rw [mE_sI, mE_sE, if_neg (fun z => by rw [z.1] at hκ; cases hκ)]
theorem r_put1 (n : Nat) (hn : 70000 ≤ n) {x : Nat} (a : Int32) {α : hp_T} {σ τ : ms_T} (hR : hp_R α 604 x = x + 921) (hT : TPX α x σ) (h0 : 0 ≤ (ms_I σ 667).toInt) (h9 : (ms_I σ 667).toInt ≤ 900) (e : f_X12_puts n σ a = some τ) : ws (f_X11_putOnTape n α x a) (fun β => TPX β x τ ∧ tfr x α β ∧ k5 σ τ ∧ 0 ≤ (ms_I τ 667).toInt ∧ (ms_I τ 667).toInt ≤ 900) := by
  unfold f_X12_puts at e
  unfold f_X11_putOnTape
  exact r_puts n x a n 24 α σ τ n ⟨4, by omega, by omega, by decide⟩ hR hT h0 h9 e
theorem r_feed (n : Nat) (hn : 70000 ≤ n) {x : Nat} {α : hp_T} {σ : ms_T} (hR : hp_R α 604 x = x + 921) (hT : TPX α x σ) (h0 : 0 ≤ (ms_I σ 667).toInt) (h9 : (ms_I σ 667).toInt ≤ 900) (a b c d f : Int32) (res : Int32 × ms_T) (e : f_X12_feed n σ a b c d f = some res) : ws (f_X11_feed n α x a b c d f) (fun r => r.1 = res.1 ∧ TPX r.2 x res.2 ∧ tfr x α r.2 ∧ k5 σ res.2) := by
  unfold f_X12_feed at e
  replace e := ms_lE rfl e
  unfold f_X11_feed
  refine ws_l ?_
  rw [hT.1]
  have hT0 : TPX α x (ms_sI σ 653 0) := hT
  have hk0 : k5 σ (ms_sI σ 653 0) := ⟨rfl, fun _ _ _ => rfl⟩
  refine ws_i (fun hc => ?_) (fun hc => ?_)
  · have hc' : (ms_I (ms_sI σ 653 0) 667) + (20 : Int32) ≤ (900 : Int32) := hc
    rw [if_pos hc'] at e
    replace e := ms_bE e
    obtain ⟨σ1, e1, e⟩ := e
    replace e := ms_bE e
    obtain ⟨σ2, e2, e⟩ := e
    replace e := ms_bE e
    obtain ⟨σ3, e3, e⟩ := e
    replace e := ms_bE e
    obtain ⟨σ4, e4, e⟩ := e
    replace e := ms_bE e
    obtain ⟨σ5, e5, e⟩ := e
    cases e
    refine ws_b (r_put1 n hn a hR hT0 h0 h9 e1) (fun β1 p1 => ?_)
    refine ws_b (r_put1 n hn b (by rw [p1.2.1.1]; exact hR) p1.1 p1.2.2.2.1 p1.2.2.2.2 e2) (fun β2 p2 => ?_)
    refine ws_b (r_put1 n hn c (by rw [p2.2.1.1, p1.2.1.1]; exact hR) p2.1 p2.2.2.2.1 p2.2.2.2.2 e3) (fun β3 p3 => ?_)
    refine ws_b (r_put1 n hn d (by rw [p3.2.1.1, p2.2.1.1, p1.2.1.1]; exact hR) p3.1 p3.2.2.2.1 p3.2.2.2.2 e4) (fun β4 p4 => ?_)
    refine ws_b (r_put1 n hn f (by rw [p4.2.1.1, p3.2.1.1, p2.2.1.1, p1.2.1.1]; exact hR) p4.1 p4.2.2.2.1 p4.2.2.2.2 e5) (fun β5 p5 => ws_l (ws_s ?_))
    exact ⟨p5.1.1, p5.1, tfr_tr p1.2.1 (tfr_tr p2.2.1 (tfr_tr p3.2.1 (tfr_tr p4.2.1 p5.2.1))), k5_tr hk0 (k5_tr p1.2.2.1 (k5_tr p2.2.2.1 (k5_tr p3.2.2.1 (k5_tr p4.2.2.1 p5.2.2.1))))⟩
  · have hc' : ¬ (ms_I (ms_sI σ 653 0) 667) + (20 : Int32) ≤ (900 : Int32) := hc
    rw [if_neg hc'] at e
    cases e
    exact ws_s ⟨rfl, hT0, tfr_rf, hk0⟩
theorem LX_tape {α β : hp_T} {x : Nat} {σ τ : ms_T} (h : LX α x σ) (hT : TPX β x τ) (f : tfr x α β) (k : k5 σ τ) : LX β x τ := by
  obtain ⟨h0, h1, h2, h3, -, l, h5, h6⟩ := h
  obtain ⟨f1, f2, f3, f4, f5, f6⟩ := f
  have e40 : ms_E τ 40 = ms_E σ 40 := funext (fun j => k.2 40 rfl j)
  refine ⟨by rw [e40]; exact h0, XSH_f h1 (fun φ b _ _ => by rw [f1]) (by rw [f2]), ?_, by rw [e40]; exact h3, hT, l, TYS_e h5 k.1 (fun j => k.2 45 rfl j), TYC_f h6 (fun φ b _ _ => by rw [f1]) (fun b p q => f5 501 b (fun z => absurd z.1 (by decide))) (fun b j p q => f6 27 b j (fun z => absurd z.1 (by decide)))⟩
  rw [e40]
  refine RWZ_f h2 h0 (fun φ b _ _ => by rw [f1]) (fun κ b j _ => by rw [f3]) (fun φ b _ r => f5 φ b (fun z => ?_)) (fun κ b j _ r => f6 κ b j (fun z => by omega)) (fun _ _ _ _ => rfl)
  rw [z.1] at r; cases r
/-! ===== type and load keep LX ===== -/
theorem LX_type {α β : hp_T} {x : Nat} {σ τ : ms_T} {L : List Int32} {r1 r2 : Int32} (h : LX α x σ) (hc : CPo (hp_R α 607 x) x α L (r1, β)) (hm : TPo σ L (r2, τ)) (hr : r1 = r2) (e7 : ms_I τ 667 = ms_I σ 667) : LX β x τ := by
  obtain ⟨h0, h1, h2, h3, ⟨t1, t2⟩, l, h5, h6⟩ := h
  obtain ⟨y1, y2, y3, y4⟩ := id h6
  have huw : hp_R α 607 x = x + 922 ∨ hp_R α 607 x = x + 924 := by rcases y1 with q | q; exact Or.inr q.2; exact Or.inl q.2
  have hu5 : x + 922 ≤ hp_R α 500 (hp_R α 607 x) ∧ hp_R α 500 (hp_R α 607 x) < x + 926 ∧ (hp_R α 607 x = x + 922 → hp_R α 500 (hp_R α 607 x) = x + 923) ∧ (hp_R α 607 x = x + 924 → hp_R α 500 (hp_R α 607 x) = x + 925) := by
    rcases huw with q | q
    · rw [q, y2]; omega
    · rw [q, y3]; omega
  -- what a change of the untyped word leaves
  have hdf : ∀ γ, df (hp_R α 607 x) α γ → XSH γ x ∧ RWZ γ x (ms_E σ 40) ∧ TPX γ x σ ∧ TYC γ x l := by
    intro γ hd
    obtain ⟨f1, f2, f3, f4, f5, f6⟩ := hd
    refine ⟨XSH_f h1 (fun φ b _ _ => by rw [f1]) (by rw [f2]), ?_, ⟨by rw [f5 605 x (fun z => absurd z.2 (by decide))]; exact t1, fun j hj => by rw [f6 24 _ j (fun z => absurd z.1 (by decide))]; exact t2 j hj⟩, ?_⟩
    · obtain ⟨w, u, g1, g2, g3, g4, g5⟩ := h2
      refine ⟨w, u, by rw [f1]; exact g1, by rw [f1]; exact g2, g3, WZ_z g4 h0 (fun φ b _ _ _ => by rw [f1]) (fun κ b j _ _ => by rw [f3]) (fun φ b p q r => f5 φ b (fun z => by omega)) (fun κ b j p q r => f6 κ b j (fun z => by omega)), SHW_z g5 (fun φ b _ _ _ => by rw [f1]) (fun κ b j _ _ => by rw [f3])⟩
    · refine ⟨by rw [f1]; exact y1, by rw [f1]; exact y2, by rw [f1]; exact y3, ?_⟩
      rw [f1]
      have hne : hp_R α 606 x ≠ hp_R α 607 x := by omega
      have hn5 : hp_R α 500 (hp_R α 606 x) ≠ hp_R α 500 (hp_R α 607 x) := by
        rcases y1 with q | q
        · rw [q.1, q.2, y2, y3]; omega
        · rw [q.1, q.2, y2, y3]; omega
      exact WD_df y4 ⟨f1, f2, f3, f4, f5, f6⟩ hne hn5
  rcases hm with ⟨m1, k⟩ | ⟨m1, m2, k⟩
  · have hr1 : r1 = -1 := hr.trans m1
    rcases hc with ⟨-, d⟩ | ⟨q, -⟩
    · obtain ⟨a1, a2, a3, a4⟩ := hdf β d
      have e40 : ms_E τ 40 = ms_E σ 40 := funext (fun j => k.2 40 rfl j)
      exact ⟨by rw [e40]; exact h0, a1, by rw [e40]; exact a2, by rw [e40]; exact h3, TPX_e a3 e7 (fun j => k.2 47 rfl j), l, TYS_e h5 (k.1 664 rfl) (fun j => k.2 45 rfl j), a4⟩
    · exact absurd hr1 q
  · rcases hc with ⟨q, -⟩ | ⟨-, γ, d, hW, hβ⟩
    · exact absurd (hr.symm.trans q) m1
    · obtain ⟨a1, a2, a3, a4⟩ := hdf γ d
      have e40 : ms_E τ 40 = ms_E σ 40 := funext (fun j => k 40 rfl j)
      replace hβ : β = hp_sR (hp_sR γ 606 x (hp_R α 607 x)) 607 x (hp_R γ 606 x) := hβ
      have bR : ∀ φ b, ¬ (b = x ∧ (φ = 606 ∨ φ = 607)) → hp_R β φ b = hp_R γ φ b := fun φ b hb => by
        rw [hβ, hR_sR, if_neg (fun z => hb ⟨z.2, Or.inr z.1⟩), hR_sR, if_neg (fun z => hb ⟨z.2, Or.inl z.1⟩)]
      have b606 : hp_R β 606 x = hp_R α 607 x := by rw [hβ, hR_sR, if_neg (fun z => absurd z.1 (by decide)), hR_sR, if_pos ⟨rfl, rfl⟩]
      have b607 : hp_R β 607 x = hp_R γ 606 x := by rw [hβ, hR_sR, if_pos ⟨rfl, rfl⟩]
      have bI : hp_I β = hp_I γ := by rw [hβ]; rfl
      have bE : hp_E β = hp_E γ := by rw [hβ]; rfl
      have bK : hp_K β = hp_K γ := by rw [hβ]; rfl
      have bQ : hp_Q β = hp_Q γ := by rw [hβ]; rfl
      have g606 : hp_R γ 606 x = hp_R α 606 x := by rw [d.1]
      refine ⟨by rw [e40]; exact h0, ?_, ?_, by rw [e40]; exact h3, TPX_e ⟨by rw [bI]; exact a3.1, fun j hj => by rw [bE]; exact a3.2 j hj⟩ e7 (fun j => k 47 rfl j), L, m2, ?_, ?_, ?_, ?_⟩
      · obtain ⟨z1, z2, z3, z4, z5, z6, z7, z8⟩ := a1
        exact ⟨by rw [bR _ _ (by omega)]; exact z1, by rw [bR _ _ (by omega)]; exact z2, by rw [bR _ _ (by omega)]; exact z3, by rw [bK]; exact z4, by rw [bR _ _ (by omega)]; exact z5, by rw [bR _ _ (by omega)]; exact z6, by rw [bR _ _ (by omega)]; exact z7, by rw [bR _ _ (by omega)]; exact z8⟩
      · rw [e40]
        obtain ⟨w, u, g1, g2, g3, g4, g5⟩ := a2
        exact ⟨w, u, by rw [bR _ _ (by omega)]; exact g1, by rw [bR _ _ (by omega)]; exact g2, g3, WZ_z g4 h0 (fun φ b p q r => bR φ b (by omega)) (fun κ b j _ _ => by rw [bQ]) (fun φ b _ _ _ => by rw [bI]) (fun κ b j _ _ _ => by rw [bE]), SHW_z g5 (fun φ b p q r => bR φ b (by omega)) (fun κ b j _ _ => by rw [bQ])⟩
      · rw [b606, b607, g606]; omega
      · rw [bR _ _ (by omega)]; exact a4.2.1
      · rw [bR _ _ (by omega)]; exact a4.2.2.1
      · rw [b606]
        obtain ⟨v1, v2, v3, v4⟩ := hW
        exact ⟨v1, by rw [bI]; exact v2, fun i hi => by rw [bR _ _ (by omega), bE]; exact v3 i hi, v4⟩
