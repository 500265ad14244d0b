set_option maxRecDepth 100000
/-! ===== what calls leave of the reference's faults and of what was heard ===== -/
def kf (σ τ : ms_T) : Prop := (∀ φ, (φ == 1) = true → ms_I τ φ = ms_I σ φ) ∧ (∀ κ, (κ == 40) = true → ∀ j, ms_E τ κ j = ms_E σ κ j)
theorem kf_rf {σ : ms_T} : kf σ σ := ⟨fun _ _ => rfl, fun _ _ _ => rfl⟩
theorem kf_sI {σ0 σ : ms_T} {φ : Nat} {v : Int32} (hφ : (φ == 1) = false) (h : kf σ0 σ) : kf σ0 (ms_sI σ φ v) := by
  refine ⟨fun ψ hψ => ?_, h.2⟩
  rw [mI_sI, if_neg (fun e => by rw [e, hφ] at hψ; cases hψ)]
  exact h.1 ψ hψ
theorem kf_sE {σ0 σ : ms_T} {κ i : Nat} {v : Int32} (hκ : (κ == 40) = false) (h : kf σ0 σ) : kf σ0 (ms_sE σ κ i v) := by
  refine ⟨h.1, fun ψ hψ j => ?_⟩
  rw [mE_sE, if_neg (fun e => by rw [e.1, hκ] at hψ; cases hψ)]
  exact h.2 ψ hψ j
theorem x_X12_status {n : Nat} {σ : ms_T} {σ0 : ms_T} (h0 : kf σ0 σ)  : pr (f_X12_status n σ) (fun res => kf σ0 res.2) := by
  unfold f_X12_status
  refine pr_ln (fun σh1 e1 => ?_)
  have h_1 : kf σ0 σh1 := by rw [e1]; exact kf_sI rfl h0
  exact pr_s h_1
theorem x_X12_refuse {n : Nat} {σ : ms_T} {a1 : Int32} {σ0 : ms_T} (h0 : kf σ0 σ)  : pr (f_X12_refuse n σ a1) (fun res => kf σ0 res.2) := by
  unfold f_X12_refuse
  refine pr_ln (fun σh1 e1 => ?_)
  have h_1 : kf σ0 σh1 := by rw [e1]; exact kf_sI rfl h0
  exact pr_s h_1
theorem x_X12_is {n : Nat} {σ : ms_T} {a1 : Int32} {σ0 : ms_T} (h0 : kf σ0 σ)  : pr (f_X12_is n σ a1) (fun res => kf σ0 res.2) := by
  unfold f_X12_is
  refine pr_ln (fun σh1 e1 => ?_)
  have h_1 : kf σ0 σh1 := by rw [e1]; exact kf_sI rfl h0
  refine pr_ln (fun σh2 e2 => ?_)
  have h_2 : kf σ0 σh2 := by rw [e2]; exact kf_sI rfl h_1
  refine pr_i (fun _ => ?_) (fun _ => ?_)
  ·
    exact pr_s h_2
  ·
    exact pr_s h_2
theorem x_X12_asks {n : Nat} {σ : ms_T} {a1 : Int32} {a2 : Int32} {σ0 : ms_T} (h0 : kf σ0 σ)  : pr (f_X12_asks n σ a1 a2) (fun res => kf σ0 res) := by
  unfold f_X12_asks
  refine pr_g (fun _ _ => ?_)
  refine pr_ln (fun σh2 e1 => ?_)
  have h_1 : kf σ0 σh2 := by rw [e1]; exact kf_sE rfl h0
  refine pr_g (fun _ _ => ?_)
  refine pr_ln (fun σh4 e2 => ?_)
  have h_2 : kf σ0 σh4 := by rw [e2]; exact kf_sE rfl h_1
  refine pr_ln (fun σh5 e3 => ?_)
  have h_3 : kf σ0 σh5 := by rw [e3]; exact kf_sI rfl h_2
  exact pr_s h_3
theorem x_X12_waysIn {n : Nat} {σ0 : ms_T}  : ∀ (d : Nat) {σ : ms_T} {a1 : Int32} {a2 : Int32} {a3 : Int32}, kf σ0 σ → pr (f_X12_waysIn n d σ a1 a2 a3) (fun res => kf σ0 res) := by
  intro d
  induction d with
  | zero => intro σ a1 a2 a3 h0; rw [f_X12_waysIn.eq_1]; exact pr_0
  | succ d ih =>
    intro σ a1 a2 a3 h0
    rw [f_X12_waysIn.eq_2]
    refine pr_i (fun _ => ?_) (fun _ => ?_)
    ·
      exact pr_s h0
    ·
      refine pr_b pr_any (fun rh2 _ => ?_)
      refine pr_i (fun _ => ?_) (fun _ => ?_)
      ·
        refine pr_b (ih h0) (fun σh4 h_1 => ?_)
        replace h_1 : kf σ0 σh4 := h_1
        refine pr_b (x_X12_asks h_1 ) (fun σh5 h_2 => ?_)
        replace h_2 : kf σ0 σh5 := h_2
        exact pr_s h_2
      ·
        refine pr_b (ih h0) (fun σh6 h_3 => ?_)
        replace h_3 : kf σ0 σh6 := h_3
        refine pr_b (x_X12_asks h_3 ) (fun σh7 h_4 => ?_)
        replace h_4 : kf σ0 σh7 := h_4
        exact pr_s h_4
theorem x_X12_inclusion {n : Nat} {σ : ms_T} {a1 : Int32} {a2 : Int32} {σ0 : ms_T} (h0 : kf σ0 σ)  : pr (f_X12_inclusion n σ a1 a2) (fun res => kf σ0 res) := by
  unfold f_X12_inclusion
  refine pr_ln (fun σh1 e1 => ?_)
  have h_1 : kf σ0 σh1 := by rw [e1]; exact kf_sI rfl h0
  refine pr_b (x_X12_waysIn  _ h_1) (fun σh2 h_2 => ?_)
  replace h_2 : kf σ0 σh2 := h_2
  exact pr_s h_2
theorem x_X12_growsIn {n : Nat} {σ0 : ms_T}  : ∀ (d : Nat) {σ : ms_T} {a1 : Int32} {a2 : Int32} {a3 : Int32} {a4 : Int32}, kf σ0 σ → pr (f_X12_growsIn n d σ a1 a2 a3 a4) (fun res => kf σ0 res) := by
  intro d
  induction d with
  | zero => intro σ a1 a2 a3 a4 h0; rw [f_X12_growsIn.eq_1]; exact pr_0
  | succ d ih =>
    intro σ a1 a2 a3 a4 h0
    rw [f_X12_growsIn.eq_2]
    refine pr_i (fun _ => ?_) (fun _ => ?_)
    ·
      refine pr_i (fun _ => ?_) (fun _ => ?_)
      ·
        refine pr_b (x_X12_asks h0 ) (fun σh9 h_1 => ?_)
        replace h_1 : kf σ0 σh9 := h_1
        exact pr_s h_1
      ·
        exact pr_s h0
    ·
      refine pr_b pr_any (fun rh2 _ => ?_)
      refine pr_i (fun _ => ?_) (fun _ => ?_)
      ·
        refine pr_b (ih h0) (fun σh4 h_2 => ?_)
        replace h_2 : kf σ0 σh4 := h_2
        refine pr_b (x_X12_asks h_2 ) (fun σh5 h_3 => ?_)
        replace h_3 : kf σ0 σh5 := h_3
        exact pr_s h_3
      ·
        refine pr_b (ih h0) (fun σh6 h_4 => ?_)
        replace h_4 : kf σ0 σh6 := h_4
        refine pr_b (x_X12_asks h_4 ) (fun σh7 h_5 => ?_)
        replace h_5 : kf σ0 σh7 := h_5
        exact pr_s h_5
theorem x_X12_growth {n : Nat} {σ : ms_T} {a1 : Int32} {a2 : Int32} {σ0 : ms_T} (h0 : kf σ0 σ)  : pr (f_X12_growth n σ a1 a2) (fun res => kf σ0 res) := by
  unfold f_X12_growth
  refine pr_ln (fun σh1 e1 => ?_)
  have h_1 : kf σ0 σh1 := by rw [e1]; exact kf_sI rfl h0
  refine pr_i (fun _ => ?_) (fun _ => ?_)
  ·
    exact pr_s h_1
  ·
    refine pr_i (fun _ => ?_) (fun _ => ?_)
    ·
      exact pr_s h_1
    ·
      refine pr_b (x_X12_growsIn  _ h_1) (fun σh4 h_2 => ?_)
      replace h_2 : kf σ0 σh4 := h_2
      exact pr_s h_2
theorem x_X12_bundlesIn {n : Nat} {σ0 : ms_T}  : ∀ (d : Nat) {σ : ms_T} {a1 : Int32} {a2 : Int32} {a3 : Int32}, kf σ0 σ → pr (f_X12_bundlesIn n d σ a1 a2 a3) (fun res => kf σ0 res) := by
  intro d
  induction d with
  | zero => intro σ a1 a2 a3 h0; rw [f_X12_bundlesIn.eq_1]; exact pr_0
  | succ d ih =>
    intro σ a1 a2 a3 h0
    rw [f_X12_bundlesIn.eq_2]
    refine pr_b pr_any (fun rh1 _ => ?_)
    refine pr_i (fun _ => ?_) (fun _ => ?_)
    ·
      refine pr_b (x_X12_asks h0 ) (fun σh7 h_1 => ?_)
      replace h_1 : kf σ0 σh7 := h_1
      exact pr_s h_1
    ·
      refine pr_i (fun _ => ?_) (fun _ => ?_)
      ·
        exact pr_s h0
      ·
        refine pr_b pr_any (fun rh4 _ => ?_)
        refine pr_b (ih h0) (fun σh5 h_2 => ?_)
        replace h_2 : kf σ0 σh5 := h_2
        refine pr_b (ih h_2) (fun σh6 h_3 => ?_)
        replace h_3 : kf σ0 σh6 := h_3
        exact pr_s h_3
theorem x_X12_bundleOf {n : Nat} {σ : ms_T} {a1 : Int32} {a2 : Int32} {σ0 : ms_T} (h0 : kf σ0 σ)  : pr (f_X12_bundleOf n σ a1 a2) (fun res => kf σ0 res) := by
  unfold f_X12_bundleOf
  refine pr_ln (fun σh1 e1 => ?_)
  have h_1 : kf σ0 σh1 := by rw [e1]; exact kf_sI rfl h0
  refine pr_b (x_X12_bundlesIn  _ h_1) (fun σh2 h_2 => ?_)
  replace h_2 : kf σ0 σh2 := h_2
  exact pr_s h_2
theorem x_X12_fetches_L2 {n : Nat} {σ0 : ms_T}  : ∀ (k2 : Nat) {σh1 : ms_T} {v1_h1 : Int32} {v2_h1 : Int32}, kf σ0 σh1 → pr (f_X12_fetches_L2 n k2 σh1 v1_h1 v2_h1) (fun res => kf σ0 res) := by
  intro k2
  induction k2 with
  | zero => intro σh1 v1_h1 v2_h1 h0; rw [f_X12_fetches_L2.eq_1]; exact pr_0
  | succ k2 ih =>
    intro σh1 v1_h1 v2_h1 h0
    rw [f_X12_fetches_L2.eq_2]
    refine pr_i (fun _ => ?_) (fun _ => ?_)
    ·
      exact pr_s h0
    ·
      refine pr_g (fun _ _ => ?_)
      refine pr_g (fun _ _ => ?_)
      refine pr_b pr_any (fun rh5 _ => ?_)
      refine pr_g (fun _ _ => ?_)
      refine pr_ln (fun σh7 e1 => ?_)
      have h_1 : kf σ0 σh7 := by rw [e1]; exact kf_sE rfl h0
      refine pr_ln (fun x8 _ => ?_)
      exact ih h_1
theorem x_X12_fetches {n : Nat} {σ : ms_T} {a1 : Int32} {σ0 : ms_T} (h0 : kf σ0 σ)  : pr (f_X12_fetches n σ a1) (fun res => kf σ0 res) := by
  unfold f_X12_fetches
  exact x_X12_fetches_L2  _ h0
theorem x_X12_fromPad_L2 {n : Nat} {σ0 : ms_T}  : ∀ (k2 : Nat) {σh1 : ms_T} {v1_h1 : Int32}, kf σ0 σh1 → pr (f_X12_fromPad_L2 n k2 σh1 v1_h1) (fun res => kf σ0 res.2) := by
  intro k2
  induction k2 with
  | zero => intro σh1 v1_h1 h0; rw [f_X12_fromPad_L2.eq_1]; exact pr_0
  | succ k2 ih =>
    intro σh1 v1_h1 h0
    rw [f_X12_fromPad_L2.eq_2]
    refine pr_g (fun _ _ => ?_)
    refine pr_i (fun _ => ?_) (fun _ => ?_)
    ·
      refine pr_g (fun _ _ => ?_)
      exact pr_s h0
    ·
      refine pr_g (fun _ _ => ?_)
      refine pr_g (fun _ _ => ?_)
      refine pr_ln (fun σh7 e1 => ?_)
      have h_1 : kf σ0 σh7 := by rw [e1]; exact kf_sE rfl h0
      refine pr_ln (fun x8 _ => ?_)
      exact ih h_1
theorem x_X12_fromPad {n : Nat} {σ : ms_T} {σ0 : ms_T} (h0 : kf σ0 σ)  : pr (f_X12_fromPad n σ) (fun res => kf σ0 res.2) := by
  unfold f_X12_fromPad
  exact x_X12_fromPad_L2  _ h0
theorem x_X12_foldsIn {n : Nat} {σ0 : ms_T}  : ∀ (d : Nat) {σ : ms_T} {a1 : Int32} {a2 : Int32} {a3 : Int32}, kf σ0 σ → pr (f_X12_foldsIn n d σ a1 a2 a3) (fun res => kf σ0 res.2) := by
  intro d
  induction d with
  | zero => intro σ a1 a2 a3 h0; rw [f_X12_foldsIn.eq_1]; exact pr_0
  | succ d ih =>
    intro σ a1 a2 a3 h0
    rw [f_X12_foldsIn.eq_2]
    refine pr_i (fun _ => ?_) (fun _ => ?_)
    ·
      exact pr_s h0
    ·
      refine pr_b pr_any (fun rh2 _ => ?_)
      refine pr_i (fun _ => ?_) (fun _ => ?_)
      ·
        refine pr_c (ih h0) (fun rh4 σh4 h_1 => ?_)
        replace h_1 : kf σ0 σh4 := h_1
        refine pr_ln (fun σh5 e2 => ?_)
        have h_2 : kf σ0 σh5 := by rw [e2]; exact kf_sI rfl h_1
        refine pr_g (fun _ _ => ?_)
        refine pr_b pr_any (fun rh7 _ => ?_)
        exact pr_s h_2
      ·
        refine pr_c (ih h0) (fun rh8 σh8 h_3 => ?_)
        replace h_3 : kf σ0 σh8 := h_3
        refine pr_ln (fun σh9 e4 => ?_)
        have h_4 : kf σ0 σh9 := by rw [e4]; exact kf_sI rfl h_3
        refine pr_g (fun _ _ => ?_)
        refine pr_b pr_any (fun rh11 _ => ?_)
        exact pr_s h_4
theorem x_X12_folded {n : Nat} {σ : ms_T} {a1 : Int32} {a2 : Int32} {a3 : Int32} {σ0 : ms_T} (h0 : kf σ0 σ)  : pr (f_X12_folded n σ a1 a2 a3) (fun res => kf σ0 res.2) := by
  unfold f_X12_folded
  refine pr_ln (fun σh1 e1 => ?_)
  have h_1 : kf σ0 σh1 := by rw [e1]; exact kf_sI rfl h0
  refine pr_c (x_X12_foldsIn  _ h_1) (fun rh2 σh2 h_2 => ?_)
  replace h_2 : kf σ0 σh2 := h_2
  exact pr_s h_2
theorem x_X12_whyIn_J41 {n : Nat} {σh3 : ms_T} {w0_h3 : Int32} {w1_h3 : Int32} {w2_h3 : Int32} {σ0 : ms_T} (h0 : kf σ0 σh3)  : pr (f_X12_whyIn_J41 n σh3 w0_h3 w1_h3 w2_h3) (fun res => kf σ0 res.2) := by
  unfold f_X12_whyIn_J41
  refine pr_b pr_any (fun rh4 _ => ?_)
  exact pr_s h0
theorem x_X12_whyIn_J36 {n : Nat} {σh5 : ms_T} {w0_h5 : Int32} {w1_h5 : Int32} {σ0 : ms_T} (h0 : kf σ0 σh5)  : pr (f_X12_whyIn_J36 n σh5 w0_h5 w1_h5) (fun res => kf σ0 res.2) := by
  unfold f_X12_whyIn_J36
  exact x_X12_whyIn_J41 h0 
theorem x_X12_whyIn {n : Nat} {σ : ms_T} {a1 : Int32} {a2 : Int32} {a3 : Int32} {a4 : Int32} {a5 : Int32} {σ0 : ms_T} (h0 : kf σ0 σ)  : pr (f_X12_whyIn n σ a1 a2 a3 a4 a5) (fun res => kf σ0 res.2) := by
  unfold f_X12_whyIn
  refine pr_b (x_X12_inclusion h0 ) (fun σh1 h_1 => ?_)
  replace h_1 : kf σ0 σh1 := h_1
  refine pr_ln (fun x2 _ => ?_)
  refine pr_i (fun _ => ?_) (fun _ => ?_)
  ·
    refine pr_c (x_X12_folded h_1 ) (fun rh7 σh7 h_2 => ?_)
    replace h_2 : kf σ0 σh7 := h_2
    refine pr_i (fun _ => ?_) (fun _ => ?_)
    ·
      exact x_X12_whyIn_J36 h_2 
    ·
      exact x_X12_whyIn_J41 h_2 
  ·
    exact x_X12_whyIn_J36 h_1 
theorem x_X12_foldsGrowth_J157 {n : Nat} {recM : ms_T → Int32 → Int32 → Int32 → Int32 → Option ms_T} {σh3 : ms_T} {σ0 : ms_T} (h0 : kf σ0 σh3) (hrecM : ∀ {y0 : ms_T} {y1 : Int32} {y2 : Int32} {y3 : Int32} {y4 : Int32}, kf σ0 y0 → pr (recM y0 y1 y2 y3 y4) (fun res => kf σ0 res)) : pr (f_X12_foldsGrowth_J157 n recM σh3) (fun res => kf σ0 res) := by
  unfold f_X12_foldsGrowth_J157
  refine pr_ln (fun σh4 e1 => ?_)
  have h_1 : kf σ0 σh4 := by rw [e1]; exact kf_sI rfl h0
  exact pr_s h_1
theorem x_X12_foldsGrowth_J50 {n : Nat} {recM : ms_T → Int32 → Int32 → Int32 → Int32 → Option ms_T} {σh20 : ms_T} {w0_h20 : Int32} {w1_h20 : Int32} {σ0 : ms_T} (h0 : kf σ0 σh20) (hrecM : ∀ {y0 : ms_T} {y1 : Int32} {y2 : Int32} {y3 : Int32} {y4 : Int32}, kf σ0 y0 → pr (recM y0 y1 y2 y3 y4) (fun res => kf σ0 res)) : pr (f_X12_foldsGrowth_J50 n recM σh20 w0_h20 w1_h20) (fun res => kf σ0 res) := by
  unfold f_X12_foldsGrowth_J50
  refine pr_ln (fun σh21 e1 => ?_)
  have h_1 : kf σ0 σh21 := by rw [e1]; exact kf_sI rfl h0
  exact pr_s h_1
theorem x_X12_foldsGrowth_J24 {n : Nat} {recM : ms_T → Int32 → Int32 → Int32 → Int32 → Option ms_T} {σh17 : ms_T} {v4_h17 : Int32} {w0_h17 : Int32} {σ0 : ms_T} (h0 : kf σ0 σh17) (hrecM : ∀ {y0 : ms_T} {y1 : Int32} {y2 : Int32} {y3 : Int32} {y4 : Int32}, kf σ0 y0 → pr (recM y0 y1 y2 y3 y4) (fun res => kf σ0 res)) : pr (f_X12_foldsGrowth_J24 n recM σh17 v4_h17 w0_h17) (fun res => kf σ0 res) := by
  unfold f_X12_foldsGrowth_J24
  refine pr_ln (fun σh18 e1 => ?_)
  have h_1 : kf σ0 σh18 := by rw [e1]; exact kf_sI rfl h0
  refine pr_ln (fun σh19 e2 => ?_)
  have h_2 : kf σ0 σh19 := by rw [e2]; exact kf_sI rfl h_1
  refine pr_i (fun _ => ?_) (fun _ => ?_)
  ·
    exact x_X12_foldsGrowth_J50 h_2 (fun h => hrecM h)
  ·
    exact x_X12_foldsGrowth_J50 h_2 (fun h => hrecM h)
theorem x_X12_foldsGrowth {n : Nat} {σ0 : ms_T}  : ∀ (d : Nat) {σ : ms_T} {a1 : Int32} {a2 : Int32} {a3 : Int32} {a4 : Int32}, kf σ0 σ → pr (f_X12_foldsGrowth n d σ a1 a2 a3 a4) (fun res => kf σ0 res) := by
  intro d
  induction d with
  | zero => intro σ a1 a2 a3 a4 h0; rw [f_X12_foldsGrowth.eq_1]; exact pr_0
  | succ d ih =>
    intro σ a1 a2 a3 a4 h0
    rw [f_X12_foldsGrowth.eq_2]
    refine pr_i (fun _ => ?_) (fun _ => ?_)
    ·
      refine pr_i (fun _ => ?_) (fun _ => ?_)
      ·
        refine pr_g (fun _ _ => ?_)
        exact x_X12_foldsGrowth_J24 h0 (fun h => ih h)
      ·
        exact x_X12_foldsGrowth_J24 h0 (fun h => ih h)
    ·
      refine pr_b pr_any (fun rh2 _ => ?_)
      refine pr_i (fun _ => ?_) (fun _ => ?_)
      ·
        refine pr_b (ih h0) (fun σh6 h_1 => ?_)
        replace h_1 : kf σ0 σh6 := h_1
        refine pr_g (fun _ _ => ?_)
        refine pr_b pr_any (fun rh8 _ => ?_)
        refine pr_ln (fun σh9 e2 => ?_)
        have h_2 : kf σ0 σh9 := by rw [e2]; exact kf_sI rfl h_1
        refine pr_g (fun _ _ => ?_)
        refine pr_b pr_any (fun rh11 _ => ?_)
        refine pr_ln (fun σh12 e3 => ?_)
        have h_3 : kf σ0 σh12 := by rw [e3]; exact kf_sI rfl h_2
        exact x_X12_foldsGrowth_J157 h_3 (fun h => ih h)
      ·
        refine pr_b (ih h0) (fun σh13 h_4 => ?_)
        replace h_4 : kf σ0 σh13 := h_4
        refine pr_g (fun _ _ => ?_)
        refine pr_b pr_any (fun rh15 _ => ?_)
        refine pr_ln (fun σh16 e5 => ?_)
        have h_5 : kf σ0 σh16 := by rw [e5]; exact kf_sI rfl h_4
        exact x_X12_foldsGrowth_J157 h_5 (fun h => ih h)
theorem x_X12_whyGrown_J39 {n : Nat} {σh3 : ms_T} {v2_h3 : Int32} {v3_h3 : Int32} {v4_h3 : Int32} {v5_h3 : Int32} {σ0 : ms_T} (h0 : kf σ0 σh3)  : pr (f_X12_whyGrown_J39 n σh3 v2_h3 v3_h3 v4_h3 v5_h3) (fun res => kf σ0 res.2) := by
  unfold f_X12_whyGrown_J39
  refine pr_i (fun _ => ?_) (fun _ => ?_)
  ·
    refine pr_i (fun _ => ?_) (fun _ => ?_)
    ·
      exact pr_s h0
    ·
      exact pr_s h0
  ·
    refine pr_i (fun _ => ?_) (fun _ => ?_)
    ·
      exact pr_s h0
    ·
      refine pr_ln (fun σh6 e1 => ?_)
      have h_1 : kf σ0 σh6 := by rw [e1]; exact kf_sI rfl h0
      refine pr_b (x_X12_foldsGrowth  _ h_1) (fun σh7 h_2 => ?_)
      replace h_2 : kf σ0 σh7 := h_2
      refine pr_i (fun _ => ?_) (fun _ => ?_)
      ·
        refine pr_i (fun _ => ?_) (fun _ => ?_)
        ·
          exact pr_s h_2
        ·
          exact pr_s h_2
      ·
        exact pr_s h_2
theorem x_X12_whyGrown {n : Nat} {σ : ms_T} {a1 : Int32} {a2 : Int32} {a3 : Int32} {a4 : Int32} {a5 : Int32} {σ0 : ms_T} (h0 : kf σ0 σ)  : pr (f_X12_whyGrown n σ a1 a2 a3 a4 a5) (fun res => kf σ0 res.2) := by
  unfold f_X12_whyGrown
  refine pr_b (x_X12_growth h0 ) (fun σh1 h_1 => ?_)
  replace h_1 : kf σ0 σh1 := h_1
  refine pr_i (fun _ => ?_) (fun _ => ?_)
  ·
    refine pr_i (fun _ => ?_) (fun _ => ?_)
    ·
      refine pr_i (fun _ => ?_) (fun _ => ?_)
      ·
        exact x_X12_whyGrown_J39 h_1 
      ·
        exact pr_s h_1
    ·
      exact x_X12_whyGrown_J39 h_1 
  ·
    refine pr_i (fun _ => ?_) (fun _ => ?_)
    ·
      exact pr_s h_1
    ·
      exact pr_s h_1
theorem x_X12_foldsBundle {n : Nat} {σ0 : ms_T}  : ∀ (d : Nat) {σ : ms_T} {a1 : Int32} {a2 : Int32} {a3 : Int32}, kf σ0 σ → pr (f_X12_foldsBundle n d σ a1 a2 a3) (fun res => kf σ0 res.2) := by
  intro d
  induction d with
  | zero => intro σ a1 a2 a3 h0; rw [f_X12_foldsBundle.eq_1]; exact pr_0
  | succ d ih =>
    intro σ a1 a2 a3 h0
    rw [f_X12_foldsBundle.eq_2]
    refine pr_b pr_any (fun rh1 _ => ?_)
    refine pr_i (fun _ => ?_) (fun _ => ?_)
    ·
      refine pr_ln (fun σh10 e1 => ?_)
      have h_1 : kf σ0 σh10 := by rw [e1]; exact kf_sI rfl h0
      refine pr_g (fun _ _ => ?_)
      exact pr_s h_1
    ·
      refine pr_i (fun _ => ?_) (fun _ => ?_)
      ·
        refine pr_ln (fun σh8 e2 => ?_)
        have h_2 : kf σ0 σh8 := by rw [e2]; exact kf_sI rfl h0
        refine pr_g (fun _ _ => ?_)
        exact pr_s h_2
      ·
        refine pr_b pr_any (fun rh4 _ => ?_)
        refine pr_c (ih h0) (fun rh5 σh5 h_3 => ?_)
        replace h_3 : kf σ0 σh5 := h_3
        refine pr_c (ih h_3) (fun rh6 σh6 h_4 => ?_)
        replace h_4 : kf σ0 σh6 := h_4
        refine pr_b pr_any (fun rh7 _ => ?_)
        exact pr_s h_4
theorem x_X12_type_L102 {n : Nat} {σ0 : ms_T}  : ∀ (k102 : Nat) {σh4 : ms_T} {v3_h4 : Int32} {v5_h4 : Int32}, kf σ0 σh4 → pr (f_X12_type_L102 n k102 σh4 v3_h4 v5_h4) (fun res => kf σ0 res.2) := by
  intro k102
  induction k102 with
  | zero => intro σh4 v3_h4 v5_h4 h0; rw [f_X12_type_L102.eq_1]; exact pr_0
  | succ k102 ih =>
    intro σh4 v3_h4 v5_h4 h0
    rw [f_X12_type_L102.eq_2]
    refine pr_i (fun _ => ?_) (fun _ => ?_)
    ·
      refine pr_ln (fun σh6 e1 => ?_)
      have h_1 : kf σ0 σh6 := by rw [e1]; exact kf_sI rfl h0
      exact pr_s h_1
    ·
      refine pr_g (fun _ _ => ?_)
      refine pr_g (fun _ _ => ?_)
      refine pr_ln (fun σh9 e2 => ?_)
      have h_2 : kf σ0 σh9 := by rw [e2]; exact kf_sE rfl h0
      refine pr_ln (fun x10 _ => ?_)
      exact ih h_2
theorem x_X12_type_J99 {n : Nat} {σh3 : ms_T} {v3_h3 : Int32} {σ0 : ms_T} (h0 : kf σ0 σh3)  : pr (f_X12_type_J99 n σh3 v3_h3) (fun res => kf σ0 res.2) := by
  unfold f_X12_type_J99
  exact x_X12_type_L102  _ h0
theorem x_X12_type_J91 {n : Nat} {rec13 : ms_T → Int32 → Int32 → Int32 → Int32 → Int32 → Option (Int32 × ms_T)} {σh19 : ms_T} {v1_h19 : Int32} {v2_h19 : Int32} {v4_h19 : Int32} {v5_h19 : Int32} {w0_h19 : Int32} {w1_h19 : Int32} {σ0 : ms_T} (h0 : kf σ0 σh19) (hrec13 : ∀ {y0 : ms_T} {y1 : Int32} {y2 : Int32} {y3 : Int32} {y4 : Int32} {y5 : Int32}, kf σ0 y0 → pr (rec13 y0 y1 y2 y3 y4 y5) (fun res => kf σ0 res.2)) : pr (f_X12_type_J91 n rec13 σh19 v1_h19 v2_h19 v4_h19 v5_h19 w0_h19 w1_h19) (fun res => kf σ0 res.2) := by
  unfold f_X12_type_J91
  refine pr_ln (fun x20 _ => ?_)
  refine pr_ln (fun x21 _ => ?_)
  exact hrec13 h0
theorem x_X12_type_J69 {n : Nat} {rec13 : ms_T → Int32 → Int32 → Int32 → Int32 → Int32 → Option (Int32 × ms_T)} {σh16 : ms_T} {v1_h16 : Int32} {v2_h16 : Int32} {v3_h16 : Int32} {v5_h16 : Int32} {v6_h16 : Int32} {w0_h16 : Int32} {σ0 : ms_T} (h0 : kf σ0 σh16) (hrec13 : ∀ {y0 : ms_T} {y1 : Int32} {y2 : Int32} {y3 : Int32} {y4 : Int32} {y5 : Int32}, kf σ0 y0 → pr (rec13 y0 y1 y2 y3 y4 y5) (fun res => kf σ0 res.2)) : pr (f_X12_type_J69 n rec13 σh16 v1_h16 v2_h16 v3_h16 v5_h16 v6_h16 w0_h16) (fun res => kf σ0 res.2) := by
  unfold f_X12_type_J69
  refine pr_g (fun _ _ => ?_)
  refine pr_ln (fun σh18 e1 => ?_)
  have h_1 : kf σ0 σh18 := by rw [e1]; exact kf_sE rfl h0
  refine pr_i (fun _ => ?_) (fun _ => ?_)
  ·
    exact x_X12_type_J91 h_1 (fun h => hrec13 h)
  ·
    exact x_X12_type_J91 h_1 (fun h => hrec13 h)
theorem x_X12_type_J37 {n : Nat} {rec13 : ms_T → Int32 → Int32 → Int32 → Int32 → Int32 → Option (Int32 × ms_T)} {σh13 : ms_T} {v1_h13 : Int32} {v2_h13 : Int32} {v3_h13 : Int32} {v5_h13 : Int32} {w0_h13 : Int32} {σ0 : ms_T} (h0 : kf σ0 σh13) (hrec13 : ∀ {y0 : ms_T} {y1 : Int32} {y2 : Int32} {y3 : Int32} {y4 : Int32} {y5 : Int32}, kf σ0 y0 → pr (rec13 y0 y1 y2 y3 y4 y5) (fun res => kf σ0 res.2)) : pr (f_X12_type_J37 n rec13 σh13 v1_h13 v2_h13 v3_h13 v5_h13 w0_h13) (fun res => kf σ0 res.2) := by
  unfold f_X12_type_J37
  refine pr_ln (fun x14 _ => ?_)
  refine pr_i (fun _ => ?_) (fun _ => ?_)
  ·
    refine pr_i (fun _ => ?_) (fun _ => ?_)
    ·
      exact x_X12_type_J69 h0 (fun h => hrec13 h)
    ·
      exact x_X12_type_J69 h0 (fun h => hrec13 h)
  ·
    exact pr_s h0
theorem x_X12_type_L13 {n : Nat} {σ0 : ms_T}  : ∀ (k13 : Nat) {σh2 : ms_T} {v1_h2 : Int32} {v2_h2 : Int32} {v3_h2 : Int32} {v4_h2 : Int32} {v5_h2 : Int32}, kf σ0 σh2 → pr (f_X12_type_L13 n k13 σh2 v1_h2 v2_h2 v3_h2 v4_h2 v5_h2) (fun res => kf σ0 res.2) := by
  intro k13
  induction k13 with
  | zero => intro σh2 v1_h2 v2_h2 v3_h2 v4_h2 v5_h2 h0; rw [f_X12_type_L13.eq_1]; exact pr_0
  | succ k13 ih =>
    intro σh2 v1_h2 v2_h2 v3_h2 v4_h2 v5_h2 h0
    rw [f_X12_type_L13.eq_2]
    refine pr_i (fun _ => ?_) (fun _ => ?_)
    ·
      exact x_X12_type_J99 h0 
    ·
      refine pr_i (fun _ => ?_) (fun _ => ?_)
      ·
        exact x_X12_type_J99 h0 
      ·
        refine pr_i (fun _ => ?_) (fun _ => ?_)
        ·
          exact x_X12_type_J37 h0 (fun h => ih h)
        ·
          exact x_X12_type_J37 h0 (fun h => ih h)
theorem x_X12_type {n : Nat} {σ : ms_T} {a1 : Int32} {a2 : Int32} {σ0 : ms_T} (h0 : kf σ0 σ)  : pr (f_X12_type n σ a1 a2) (fun res => kf σ0 res.2) := by
  unfold f_X12_type
  refine pr_ln (fun σh1 e1 => ?_)
  have h_1 : kf σ0 σh1 := by rw [e1]; exact kf_sI rfl h0
  exact x_X12_type_L13  _ h_1
theorem x_X12_puts_L3 {n : Nat} {σ0 : ms_T}  : ∀ (k3 : Nat) {σh1 : ms_T} {v1_h1 : Int32} {v2_h1 : Int32}, kf σ0 σh1 → pr (f_X12_puts_L3 n k3 σh1 v1_h1 v2_h1) (fun res => kf σ0 res) := by
  intro k3
  induction k3 with
  | zero => intro σh1 v1_h1 v2_h1 h0; rw [f_X12_puts_L3.eq_1]; exact pr_0
  | succ k3 ih =>
    intro σh1 v1_h1 v2_h1 h0
    rw [f_X12_puts_L3.eq_2]
    refine pr_i (fun _ => ?_) (fun _ => ?_)
    ·
      exact pr_s h0
    ·
      refine pr_g (fun _ _ => ?_)
      refine pr_ln (fun σh4 e1 => ?_)
      have h_1 : kf σ0 σh4 := by rw [e1]; exact kf_sE rfl h0
      refine pr_ln (fun σh5 e2 => ?_)
      have h_2 : kf σ0 σh5 := by rw [e2]; exact kf_sI rfl h_1
      refine pr_ln (fun x6 _ => ?_)
      exact ih h_2
theorem x_X12_puts {n : Nat} {σ : ms_T} {a1 : Int32} {σ0 : ms_T} (h0 : kf σ0 σ)  : pr (f_X12_puts n σ a1) (fun res => kf σ0 res) := by
  unfold f_X12_puts
  exact x_X12_puts_L3  _ h0
theorem x_X12_feed {n : Nat} {σ : ms_T} {a1 : Int32} {a2 : Int32} {a3 : Int32} {a4 : Int32} {a5 : Int32} {σ0 : ms_T} (h0 : kf σ0 σ)  : pr (f_X12_feed n σ a1 a2 a3 a4 a5) (fun res => kf σ0 res.2) := by
  unfold f_X12_feed
  refine pr_ln (fun σh1 e1 => ?_)
  have h_1 : kf σ0 σh1 := by rw [e1]; exact kf_sI rfl h0
  refine pr_i (fun _ => ?_) (fun _ => ?_)
  ·
    refine pr_b (x_X12_puts h_1 ) (fun σh3 h_2 => ?_)
    replace h_2 : kf σ0 σh3 := h_2
    refine pr_b (x_X12_puts h_2 ) (fun σh4 h_3 => ?_)
    replace h_3 : kf σ0 σh4 := h_3
    refine pr_b (x_X12_puts h_3 ) (fun σh5 h_4 => ?_)
    replace h_4 : kf σ0 σh5 := h_4
    refine pr_b (x_X12_puts h_4 ) (fun σh6 h_5 => ?_)
    replace h_5 : kf σ0 σh6 := h_5
    refine pr_b (x_X12_puts h_5 ) (fun σh7 h_6 => ?_)
    replace h_6 : kf σ0 σh7 := h_6
    exact pr_s h_6
  ·
    exact pr_s h_1
theorem x_X12_heard_J22 {n : Nat} {σh1 : ms_T} {v1_h1 : Int32} {w0_h1 : Int32} {σ0 : ms_T} (h0 : kf σ0 σh1)  : pr (f_X12_heard_J22 n σh1 v1_h1 w0_h1) (fun res => kf σ0 res.2) := by
  unfold f_X12_heard_J22
  refine pr_c (x_X12_is h0 ) (fun rh2 σh2 h_1 => ?_)
  replace h_1 : kf σ0 σh2 := h_1
  refine pr_i (fun _ => ?_) (fun _ => ?_)
  ·
    exact pr_s h_1
  ·
    refine pr_g (fun _ _ => ?_)
    exact pr_s h_1
theorem x_X12_heard {n : Nat} {σ : ms_T} {a1 : Int32} {σ0 : ms_T} (h0 : kf σ0 σ)  : pr (f_X12_heard n σ a1) (fun res => kf σ0 res.2) := by
  unfold f_X12_heard
  refine pr_i (fun _ => ?_) (fun _ => ?_)
  ·
    refine pr_i (fun _ => ?_) (fun _ => ?_)
    ·
      exact x_X12_heard_J22 h0 
    ·
      exact x_X12_heard_J22 h0 
  ·
    exact x_X12_heard_J22 h0 
theorem x_X12_fault {n : Nat} {σ : ms_T} {a1 : Int32} {σ0 : ms_T} (h0 : kf σ0 σ)  : pr (f_X12_fault n σ a1) (fun res => kf σ0 res.2) := by
  unfold f_X12_fault
  refine pr_ln (fun σh1 e1 => ?_)
  have h_1 : kf σ0 σh1 := by rw [e1]; exact kf_sI rfl h0
  refine pr_i (fun _ => ?_) (fun _ => ?_)
  ·
    exact pr_s h_1
  ·
    refine pr_i (fun _ => ?_) (fun _ => ?_)
    ·
      exact pr_s h_1
    ·
      exact pr_s h_1
theorem x_X12_many_L39 {n : Nat} {σ0 : ms_T}  : ∀ (k39 : Nat) {σh6 : ms_T} {v2_h6 : Int32} {v3_h6 : Int32}, kf σ0 σh6 → pr (f_X12_many_L39 n k39 σh6 v2_h6 v3_h6) (fun res => kf σ0 res.2) := by
  intro k39
  induction k39 with
  | zero => intro σh6 v2_h6 v3_h6 h0; rw [f_X12_many_L39.eq_1]; exact pr_0
  | succ k39 ih =>
    intro σh6 v2_h6 v3_h6 h0
    rw [f_X12_many_L39.eq_2]
    refine pr_i (fun _ => ?_) (fun _ => ?_)
    ·
      exact pr_s h0
    ·
      refine pr_b pr_any (fun rh8 _ => ?_)
      refine pr_ln (fun x9 _ => ?_)
      refine pr_ln (fun x10 _ => ?_)
      exact ih h0
theorem x_X12_many_J15 {n : Nat} {σh2 : ms_T} {v1_h2 : Int32} {w0_h2 : Int32} {σ0 : ms_T} (h0 : kf σ0 σh2)  : pr (f_X12_many_J15 n σh2 v1_h2 w0_h2) (fun res => kf σ0 res.2) := by
  unfold f_X12_many_J15
  refine pr_c (x_X12_is h0 ) (fun rh3 σh3 h_1 => ?_)
  replace h_1 : kf σ0 σh3 := h_1
  refine pr_i (fun _ => ?_) (fun _ => ?_)
  ·
    exact pr_s h_1
  ·
    refine pr_i (fun _ => ?_) (fun _ => ?_)
    ·
      exact x_X12_many_L39  _ h_1
    ·
      refine pr_g (fun _ _ => ?_)
      exact pr_s h_1
theorem x_X12_many {n : Nat} {σ : ms_T} {a1 : Int32} {σ0 : ms_T} (h0 : kf σ0 σ)  : pr (f_X12_many n σ a1) (fun res => kf σ0 res.2) := by
  unfold f_X12_many
  refine pr_b pr_any (fun rh1 _ => ?_)
  refine pr_i (fun _ => ?_) (fun _ => ?_)
  ·
    exact x_X12_many_J15 h0 
  ·
    exact x_X12_many_J15 h0 
theorem x_X12_size_J14 {n : Nat} {σh2 : ms_T} {v1_h2 : Int32} {w0_h2 : Int32} {σ0 : ms_T} (h0 : kf σ0 σh2)  : pr (f_X12_size_J14 n σh2 v1_h2 w0_h2) (fun res => kf σ0 res.2) := by
  unfold f_X12_size_J14
  refine pr_c (x_X12_is h0 ) (fun rh3 σh3 h_1 => ?_)
  replace h_1 : kf σ0 σh3 := h_1
  refine pr_i (fun _ => ?_) (fun _ => ?_)
  ·
    exact pr_s h_1
  ·
    refine pr_b pr_any (fun rh5 _ => ?_)
    exact pr_s h_1
theorem x_X12_size {n : Nat} {σ : ms_T} {a1 : Int32} {σ0 : ms_T} (h0 : kf σ0 σ)  : pr (f_X12_size n σ a1) (fun res => kf σ0 res.2) := by
  unfold f_X12_size
  refine pr_b pr_any (fun rh1 _ => ?_)
  refine pr_i (fun _ => ?_) (fun _ => ?_)
  ·
    exact x_X12_size_J14 h0 
  ·
    exact x_X12_size_J14 h0 
theorem x_X12_entry_J39 {n : Nat} {σh1 : ms_T} {v1_h1 : Int32} {v2_h1 : Int32} {v3_h1 : Int32} {w0_h1 : Int32} {σ0 : ms_T} (h0 : kf σ0 σh1)  : pr (f_X12_entry_J39 n σh1 v1_h1 v2_h1 v3_h1 w0_h1) (fun res => kf σ0 res.2) := by
  unfold f_X12_entry_J39
  refine pr_c (x_X12_is h0 ) (fun rh2 σh2 h_1 => ?_)
  replace h_1 : kf σ0 σh2 := h_1
  refine pr_i (fun _ => ?_) (fun _ => ?_)
  ·
    exact pr_s h_1
  ·
    refine pr_ln (fun x4 _ => ?_)
    refine pr_i (fun _ => ?_) (fun _ => ?_)
    ·
      refine pr_g (fun _ _ => ?_)
      refine pr_i (fun _ => ?_) (fun _ => ?_)
      ·
        refine pr_c (x_X12_refuse h_1 ) (fun rh8 σh8 h_2 => ?_)
        replace h_2 : kf σ0 σh8 := h_2
        exact pr_s h_2
      ·
        refine pr_g (fun _ _ => ?_)
        exact pr_s h_1
    ·
      refine pr_i (fun _ => ?_) (fun _ => ?_)
      ·
        refine pr_g (fun _ _ => ?_)
        exact pr_s h_1
      ·
        refine pr_b pr_any (fun rh11 _ => ?_)
        exact pr_s h_1
theorem x_X12_entry_J9 {n : Nat} {σh13 : ms_T} {v1_h13 : Int32} {v2_h13 : Int32} {v3_h13 : Int32} {σ0 : ms_T} (h0 : kf σ0 σh13)  : pr (f_X12_entry_J9 n σh13 v1_h13 v2_h13 v3_h13) (fun res => kf σ0 res.2) := by
  unfold f_X12_entry_J9
  exact x_X12_entry_J39 h0 
theorem x_X12_entry {n : Nat} {σ : ms_T} {a1 : Int32} {a2 : Int32} {a3 : Int32} {σ0 : ms_T} (h0 : kf σ0 σ)  : pr (f_X12_entry n σ a1 a2 a3) (fun res => kf σ0 res.2) := by
  unfold f_X12_entry
  refine pr_i (fun _ => ?_) (fun _ => ?_)
  ·
    exact x_X12_entry_J9 h0 
  ·
    refine pr_i (fun _ => ?_) (fun _ => ?_)
    ·
      refine pr_b pr_any (fun rh16 _ => ?_)
      refine pr_i (fun _ => ?_) (fun _ => ?_)
      ·
        exact x_X12_entry_J39 h0 
      ·
        refine pr_b pr_any (fun rh18 _ => ?_)
        refine pr_i (fun _ => ?_) (fun _ => ?_)
        ·
          exact x_X12_entry_J39 h0 
        ·
          exact x_X12_entry_J39 h0 
    ·
      exact x_X12_entry_J9 h0 
theorem x_X12_head {n : Nat} {σ : ms_T} {a1 : Int32} {a2 : Int32} {σ0 : ms_T} (h0 : kf σ0 σ)  : pr (f_X12_head n σ a1 a2) (fun res => kf σ0 res.2) := by
  unfold f_X12_head
  refine pr_b pr_any (fun rh1 _ => ?_)
  refine pr_c (x_X12_is h0 ) (fun rh2 σh2 h_1 => ?_)
  replace h_1 : kf σ0 σh2 := h_1
  refine pr_i (fun _ => ?_) (fun _ => ?_)
  ·
    exact pr_s h_1
  ·
    refine pr_b pr_any (fun rh4 _ => ?_)
    exact pr_s h_1
theorem x_X12_join_J22 {n : Nat} {σh2 : ms_T} {v1_h2 : Int32} {v2_h2 : Int32} {w0_h2 : Int32} {σ0 : ms_T} (h0 : kf σ0 σh2)  : pr (f_X12_join_J22 n σh2 v1_h2 v2_h2 w0_h2) (fun res => kf σ0 res.2) := by
  unfold f_X12_join_J22
  refine pr_c (x_X12_is h0 ) (fun rh3 σh3 h_1 => ?_)
  replace h_1 : kf σ0 σh3 := h_1
  refine pr_i (fun _ => ?_) (fun _ => ?_)
  ·
    exact pr_s h_1
  ·
    refine pr_b pr_any (fun rh5 _ => ?_)
    exact pr_s h_1
theorem x_X12_join_J21 {n : Nat} {σh6 : ms_T} {v1_h6 : Int32} {v2_h6 : Int32} {σ0 : ms_T} (h0 : kf σ0 σh6)  : pr (f_X12_join_J21 n σh6 v1_h6 v2_h6) (fun res => kf σ0 res.2) := by
  unfold f_X12_join_J21
  exact x_X12_join_J22 h0 
theorem x_X12_join {n : Nat} {σ : ms_T} {a1 : Int32} {a2 : Int32} {σ0 : ms_T} (h0 : kf σ0 σ)  : pr (f_X12_join n σ a1 a2) (fun res => kf σ0 res.2) := by
  unfold f_X12_join
  refine pr_b pr_any (fun rh1 _ => ?_)
  refine pr_i (fun _ => ?_) (fun _ => ?_)
  ·
    exact x_X12_join_J21 h0 
  ·
    refine pr_b pr_any (fun rh8 _ => ?_)
    refine pr_i (fun _ => ?_) (fun _ => ?_)
    ·
      exact x_X12_join_J21 h0 
    ·
      exact x_X12_join_J22 h0 
theorem x_X12_mark_L10 {n : Nat} {σ0 : ms_T}  : ∀ (k10 : Nat) {σh2 : ms_T} {v1_h2 : Int32} {v2_h2 : Int32}, kf σ0 σh2 → pr (f_X12_mark_L10 n k10 σh2 v1_h2 v2_h2) (fun res => kf σ0 res.2) := by
  intro k10
  induction k10 with
  | zero => intro σh2 v1_h2 v2_h2 h0; rw [f_X12_mark_L10.eq_1]; exact pr_0
  | succ k10 ih =>
    intro σh2 v1_h2 v2_h2 h0
    rw [f_X12_mark_L10.eq_2]
    refine pr_i (fun _ => ?_) (fun _ => ?_)
    ·
      exact pr_s h0
    ·
      refine pr_g (fun _ _ => ?_)
      refine pr_b pr_any (fun rh5 _ => ?_)
      refine pr_ln (fun x6 _ => ?_)
      exact ih h0
theorem x_X12_mark {n : Nat} {σ : ms_T} {σ0 : ms_T} (h0 : kf σ0 σ)  : pr (f_X12_mark n σ) (fun res => kf σ0 res.2) := by
  unfold f_X12_mark
  refine pr_c (x_X12_is h0 ) (fun rh1 σh1 h_1 => ?_)
  replace h_1 : kf σ0 σh1 := h_1
  exact x_X12_mark_L10  _ h_1
theorem x_X12_frozen_J33 {n : Nat} {σh1 : ms_T} {v1_h1 : Int32} {v2_h1 : Int32} {w0_h1 : Int32} {σ0 : ms_T} (h0 : kf σ0 σh1)  : pr (f_X12_frozen_J33 n σh1 v1_h1 v2_h1 w0_h1) (fun res => kf σ0 res.2) := by
  unfold f_X12_frozen_J33
  refine pr_c (x_X12_is h0 ) (fun rh2 σh2 h_1 => ?_)
  replace h_1 : kf σ0 σh2 := h_1
  refine pr_i (fun _ => ?_) (fun _ => ?_)
  ·
    exact pr_s h_1
  ·
    refine pr_i (fun _ => ?_) (fun _ => ?_)
    ·
      refine pr_b pr_any (fun rh5 _ => ?_)
      refine pr_i (fun _ => ?_) (fun _ => ?_)
      ·
        exact pr_s h_1
      ·
        exact pr_s h_1
    ·
      refine pr_b pr_any (fun rh7 _ => ?_)
      exact pr_s h_1
theorem x_X12_frozen_J14 {n : Nat} {σh8 : ms_T} {v1_h8 : Int32} {v2_h8 : Int32} {σ0 : ms_T} (h0 : kf σ0 σh8)  : pr (f_X12_frozen_J14 n σh8 v1_h8 v2_h8) (fun res => kf σ0 res.2) := by
  unfold f_X12_frozen_J14
  exact x_X12_frozen_J33 h0 
theorem x_X12_frozen {n : Nat} {σ : ms_T} {a1 : Int32} {a2 : Int32} {σ0 : ms_T} (h0 : kf σ0 σ)  : pr (f_X12_frozen n σ a1 a2) (fun res => kf σ0 res.2) := by
  unfold f_X12_frozen
  refine pr_i (fun _ => ?_) (fun _ => ?_)
  ·
    exact x_X12_frozen_J14 h0 
  ·
    refine pr_b pr_any (fun rh10 _ => ?_)
    refine pr_i (fun _ => ?_) (fun _ => ?_)
    ·
      exact x_X12_frozen_J14 h0 
    ·
      refine pr_g (fun _ _ => ?_)
      refine pr_i (fun _ => ?_) (fun _ => ?_)
      ·
        exact x_X12_frozen_J33 h0 
      ·
        exact x_X12_frozen_J33 h0 
theorem x_X12_watcher_J26 {n : Nat} {σh2 : ms_T} {v1_h2 : Int32} {v2_h2 : Int32} {w0_h2 : Int32} {σ0 : ms_T} (h0 : kf σ0 σh2)  : pr (f_X12_watcher_J26 n σh2 v1_h2 v2_h2 w0_h2) (fun res => kf σ0 res.2) := by
  unfold f_X12_watcher_J26
  refine pr_c (x_X12_is h0 ) (fun rh3 σh3 h_1 => ?_)
  replace h_1 : kf σ0 σh3 := h_1
  refine pr_i (fun _ => ?_) (fun _ => ?_)
  ·
    exact pr_s h_1
  ·
    refine pr_b pr_any (fun rh5 _ => ?_)
    exact pr_s h_1
theorem x_X12_watcher {n : Nat} {σ : ms_T} {a1 : Int32} {a2 : Int32} {σ0 : ms_T} (h0 : kf σ0 σ)  : pr (f_X12_watcher n σ a1 a2) (fun res => kf σ0 res.2) := by
  unfold f_X12_watcher
  refine pr_b pr_any (fun rh1 _ => ?_)
  refine pr_i (fun _ => ?_) (fun _ => ?_)
  ·
    exact x_X12_watcher_J26 h0 
  ·
    refine pr_b pr_any (fun rh7 _ => ?_)
    refine pr_i (fun _ => ?_) (fun _ => ?_)
    ·
      exact x_X12_watcher_J26 h0 
    ·
      exact x_X12_watcher_J26 h0 
theorem x_X12_pad_J24 {n : Nat} {σh1 : ms_T} {v1_h1 : Int32} {w0_h1 : Int32} {σ0 : ms_T} (h0 : kf σ0 σh1)  : pr (f_X12_pad_J24 n σh1 v1_h1 w0_h1) (fun res => kf σ0 res.2) := by
  unfold f_X12_pad_J24
  refine pr_c (x_X12_is h0 ) (fun rh2 σh2 h_1 => ?_)
  replace h_1 : kf σ0 σh2 := h_1
  refine pr_i (fun _ => ?_) (fun _ => ?_)
  ·
    exact pr_s h_1
  ·
    refine pr_g (fun _ _ => ?_)
    exact pr_s h_1
theorem x_X12_pad {n : Nat} {σ : ms_T} {a1 : Int32} {σ0 : ms_T} (h0 : kf σ0 σ)  : pr (f_X12_pad n σ a1) (fun res => kf σ0 res.2) := by
  unfold f_X12_pad
  refine pr_i (fun _ => ?_) (fun _ => ?_)
  ·
    refine pr_g (fun _ _ => ?_)
    refine pr_i (fun _ => ?_) (fun _ => ?_)
    ·
      exact x_X12_pad_J24 h0 
    ·
      exact x_X12_pad_J24 h0 
  ·
    exact x_X12_pad_J24 h0 
theorem x_X12_checks_J32 {n : Nat} {σh2 : ms_T} {v1_h2 : Int32} {v2_h2 : Int32} {v3_h2 : Int32} {v4_h2 : Int32} {w0_h2 : Int32} {σ0 : ms_T} (h0 : kf σ0 σh2)  : pr (f_X12_checks_J32 n σh2 v1_h2 v2_h2 v3_h2 v4_h2 w0_h2) (fun res => kf σ0 res.2) := by
  unfold f_X12_checks_J32
  refine pr_c (x_X12_is h0 ) (fun rh3 σh3 h_1 => ?_)
  replace h_1 : kf σ0 σh3 := h_1
  refine pr_i (fun _ => ?_) (fun _ => ?_)
  ·
    exact pr_s h_1
  ·
    refine pr_c (x_X12_fromPad h_1 ) (fun rh5 σh5 h_2 => ?_)
    replace h_2 : kf σ0 σh5 := h_2
    refine pr_c (x_X12_whyIn h_2 ) (fun rh6 σh6 h_3 => ?_)
    replace h_3 : kf σ0 σh6 := h_3
    exact pr_s h_3
theorem x_X12_checks_J31 {n : Nat} {σh7 : ms_T} {v1_h7 : Int32} {v2_h7 : Int32} {v3_h7 : Int32} {v4_h7 : Int32} {σ0 : ms_T} (h0 : kf σ0 σh7)  : pr (f_X12_checks_J31 n σh7 v1_h7 v2_h7 v3_h7 v4_h7) (fun res => kf σ0 res.2) := by
  unfold f_X12_checks_J31
  exact x_X12_checks_J32 h0 
theorem x_X12_checks {n : Nat} {σ : ms_T} {a1 : Int32} {a2 : Int32} {a3 : Int32} {a4 : Int32} {σ0 : ms_T} (h0 : kf σ0 σ)  : pr (f_X12_checks n σ a1 a2 a3 a4) (fun res => kf σ0 res.2) := by
  unfold f_X12_checks
  refine pr_b pr_any (fun rh1 _ => ?_)
  refine pr_i (fun _ => ?_) (fun _ => ?_)
  ·
    exact x_X12_checks_J31 h0 
  ·
    refine pr_b pr_any (fun rh9 _ => ?_)
    refine pr_i (fun _ => ?_) (fun _ => ?_)
    ·
      exact x_X12_checks_J31 h0 
    ·
      refine pr_b pr_any (fun rh11 _ => ?_)
      refine pr_i (fun _ => ?_) (fun _ => ?_)
      ·
        exact x_X12_checks_J31 h0 
      ·
        exact x_X12_checks_J32 h0 
theorem x_X12_growth__J32 {n : Nat} {σh1 : ms_T} {v1_h1 : Int32} {v2_h1 : Int32} {v3_h1 : Int32} {v4_h1 : Int32} {w0_h1 : Int32} {σ0 : ms_T} (h0 : kf σ0 σh1)  : pr (f_X12_growth__J32 n σh1 v1_h1 v2_h1 v3_h1 v4_h1 w0_h1) (fun res => kf σ0 res.2) := by
  unfold f_X12_growth__J32
  refine pr_c (x_X12_is h0 ) (fun rh2 σh2 h_1 => ?_)
  replace h_1 : kf σ0 σh2 := h_1
  refine pr_i (fun _ => ?_) (fun _ => ?_)
  ·
    exact pr_s h_1
  ·
    refine pr_c (x_X12_fromPad h_1 ) (fun rh4 σh4 h_2 => ?_)
    replace h_2 : kf σ0 σh4 := h_2
    refine pr_c (x_X12_whyGrown h_2 ) (fun rh5 σh5 h_3 => ?_)
    replace h_3 : kf σ0 σh5 := h_3
    exact pr_s h_3
theorem x_X12_growth__J31 {n : Nat} {σh6 : ms_T} {v1_h6 : Int32} {v2_h6 : Int32} {v3_h6 : Int32} {v4_h6 : Int32} {σ0 : ms_T} (h0 : kf σ0 σh6)  : pr (f_X12_growth__J31 n σh6 v1_h6 v2_h6 v3_h6 v4_h6) (fun res => kf σ0 res.2) := by
  unfold f_X12_growth__J31
  exact x_X12_growth__J32 h0 
theorem x_X12_growth_ {n : Nat} {σ : ms_T} {a1 : Int32} {a2 : Int32} {a3 : Int32} {a4 : Int32} {σ0 : ms_T} (h0 : kf σ0 σ)  : pr (f_X12_growth_ n σ a1 a2 a3 a4) (fun res => kf σ0 res.2) := by
  unfold f_X12_growth_
  refine pr_i (fun _ => ?_) (fun _ => ?_)
  ·
    exact x_X12_growth__J31 h0 
  ·
    refine pr_i (fun _ => ?_) (fun _ => ?_)
    ·
      exact x_X12_growth__J31 h0 
    ·
      refine pr_b pr_any (fun rh9 _ => ?_)
      refine pr_i (fun _ => ?_) (fun _ => ?_)
      ·
        exact x_X12_growth__J31 h0 
      ·
        refine pr_b pr_any (fun rh11 _ => ?_)
        refine pr_i (fun _ => ?_) (fun _ => ?_)
        ·
          exact x_X12_growth__J31 h0 
        ·
          exact x_X12_growth__J32 h0 
theorem x_X12_bundled_J104 {n : Nat} {σh10 : ms_T} {w0_h10 : Int32} {w1_h10 : Int32} {w2_h10 : Int32} {σ0 : ms_T} (h0 : kf σ0 σh10)  : pr (f_X12_bundled_J104 n σh10 w0_h10 w1_h10 w2_h10) (fun res => kf σ0 res.2) := by
  unfold f_X12_bundled_J104
  refine pr_b pr_any (fun rh11 _ => ?_)
  exact pr_s h0
theorem x_X12_bundled_J99 {n : Nat} {σh12 : ms_T} {w0_h12 : Int32} {w1_h12 : Int32} {σ0 : ms_T} (h0 : kf σ0 σh12)  : pr (f_X12_bundled_J99 n σh12 w0_h12 w1_h12) (fun res => kf σ0 res.2) := by
  unfold f_X12_bundled_J99
  exact x_X12_bundled_J104 h0 
theorem x_X12_bundled_J30 {n : Nat} {σh1 : ms_T} {v1_h1 : Int32} {v2_h1 : Int32} {v3_h1 : Int32} {w0_h1 : Int32} {σ0 : ms_T} (h0 : kf σ0 σh1)  : pr (f_X12_bundled_J30 n σh1 v1_h1 v2_h1 v3_h1 w0_h1) (fun res => kf σ0 res.2) := by
  unfold f_X12_bundled_J30
  refine pr_c (x_X12_is h0 ) (fun rh2 σh2 h_1 => ?_)
  replace h_1 : kf σ0 σh2 := h_1
  refine pr_i (fun _ => ?_) (fun _ => ?_)
  ·
    exact pr_s h_1
  ·
    refine pr_b (x_X12_bundleOf h_1 ) (fun σh4 h_2 => ?_)
    replace h_2 : kf σ0 σh4 := h_2
    refine pr_b pr_any (fun rh5 _ => ?_)
    refine pr_ln (fun x6 _ => ?_)
    refine pr_c (x_X12_fromPad h_2 ) (fun rh7 σh7 h_3 => ?_)
    replace h_3 : kf σ0 σh7 := h_3
    refine pr_ln (fun σh8 e4 => ?_)
    have h_4 : kf σ0 σh8 := by rw [e4]; exact kf_sI rfl h_3
    refine pr_ln (fun σh9 e5 => ?_)
    have h_5 : kf σ0 σh9 := by rw [e5]; exact kf_sI rfl h_4
    refine pr_i (fun _ => ?_) (fun _ => ?_)
    ·
      refine pr_c (x_X12_foldsBundle  _ h_5) (fun rh14 σh14 h_6 => ?_)
      replace h_6 : kf σ0 σh14 := h_6
      refine pr_i (fun _ => ?_) (fun _ => ?_)
      ·
        exact x_X12_bundled_J99 h_6 
      ·
        exact x_X12_bundled_J104 h_6 
    ·
      exact x_X12_bundled_J99 h_5 
theorem x_X12_bundled_J25 {n : Nat} {σh16 : ms_T} {v1_h16 : Int32} {v2_h16 : Int32} {v3_h16 : Int32} {σ0 : ms_T} (h0 : kf σ0 σh16)  : pr (f_X12_bundled_J25 n σh16 v1_h16 v2_h16 v3_h16) (fun res => kf σ0 res.2) := by
  unfold f_X12_bundled_J25
  exact x_X12_bundled_J30 h0 
theorem x_X12_bundled {n : Nat} {σ : ms_T} {a1 : Int32} {a2 : Int32} {a3 : Int32} {σ0 : ms_T} (h0 : kf σ0 σ)  : pr (f_X12_bundled n σ a1 a2 a3) (fun res => kf σ0 res.2) := by
  unfold f_X12_bundled
  refine pr_i (fun _ => ?_) (fun _ => ?_)
  ·
    exact x_X12_bundled_J25 h0 
  ·
    refine pr_i (fun _ => ?_) (fun _ => ?_)
    ·
      exact x_X12_bundled_J25 h0 
    ·
      refine pr_b pr_any (fun rh19 _ => ?_)
      refine pr_i (fun _ => ?_) (fun _ => ?_)
      ·
        refine pr_b pr_any (fun rh21 _ => ?_)
        refine pr_i (fun _ => ?_) (fun _ => ?_)
        ·
          exact x_X12_bundled_J25 h0 
        ·
          exact x_X12_bundled_J30 h0 
      ·
        exact x_X12_bundled_J25 h0 
theorem x_X12_fold_L43 {n : Nat} {σ0 : ms_T}  : ∀ (k43 : Nat) {σh8 : ms_T} {v1_h8 : Int32} {v2_h8 : Int32}, kf σ0 σh8 → pr (f_X12_fold_L43 n k43 σh8 v1_h8 v2_h8) (fun res => kf σ0 res.2) := by
  intro k43
  induction k43 with
  | zero => intro σh8 v1_h8 v2_h8 h0; rw [f_X12_fold_L43.eq_1]; exact pr_0
  | succ k43 ih =>
    intro σh8 v1_h8 v2_h8 h0
    rw [f_X12_fold_L43.eq_2]
    refine pr_i (fun _ => ?_) (fun _ => ?_)
    ·
      exact pr_s h0
    ·
      refine pr_g (fun _ _ => ?_)
      refine pr_b pr_any (fun rh11 _ => ?_)
      refine pr_ln (fun x12 _ => ?_)
      exact ih h0
theorem x_X12_fold {n : Nat} {σ : ms_T} {σ0 : ms_T} (h0 : kf σ0 σ)  : pr (f_X12_fold n σ) (fun res => kf σ0 res.2) := by
  unfold f_X12_fold
  refine pr_c (x_X12_is h0 ) (fun rh1 σh1 h_1 => ?_)
  replace h_1 : kf σ0 σh1 := h_1
  refine pr_g (fun _ _ => ?_)
  refine pr_i (fun _ => ?_) (fun _ => ?_)
  ·
    exact pr_s h_1
  ·
    refine pr_g (fun _ _ => ?_)
    refine pr_g (fun _ _ => ?_)
    refine pr_ln (fun x6 _ => ?_)
    refine pr_g (fun _ _ => ?_)
    refine pr_ln (fun x13 _ => ?_)
    exact x_X12_fold_L43  _ h_1
theorem x_X12_steps_J15 {n : Nat} {σh2 : ms_T} {v1_h2 : Int32} {v2_h2 : Int32} {w0_h2 : Int32} {σ0 : ms_T} (h0 : kf σ0 σh2)  : pr (f_X12_steps_J15 n σh2 v1_h2 v2_h2 w0_h2) (fun res => kf σ0 res.2) := by
  unfold f_X12_steps_J15
  refine pr_c (x_X12_is h0 ) (fun rh3 σh3 h_1 => ?_)
  replace h_1 : kf σ0 σh3 := h_1
  refine pr_i (fun _ => ?_) (fun _ => ?_)
  ·
    exact pr_s h_1
  ·
    refine pr_b (x_X12_inclusion h_1 ) (fun σh5 h_2 => ?_)
    replace h_2 : kf σ0 σh5 := h_2
    exact pr_s h_2
theorem x_X12_steps {n : Nat} {σ : ms_T} {a1 : Int32} {a2 : Int32} {σ0 : ms_T} (h0 : kf σ0 σ)  : pr (f_X12_steps n σ a1 a2) (fun res => kf σ0 res.2) := by
  unfold f_X12_steps
  refine pr_b pr_any (fun rh1 _ => ?_)
  refine pr_i (fun _ => ?_) (fun _ => ?_)
  ·
    exact x_X12_steps_J15 h0 
  ·
    exact x_X12_steps_J15 h0 
theorem x_X12_climbs_J15 {n : Nat} {σh1 : ms_T} {v1_h1 : Int32} {v2_h1 : Int32} {w0_h1 : Int32} {σ0 : ms_T} (h0 : kf σ0 σh1)  : pr (f_X12_climbs_J15 n σh1 v1_h1 v2_h1 w0_h1) (fun res => kf σ0 res.2) := by
  unfold f_X12_climbs_J15
  refine pr_c (x_X12_is h0 ) (fun rh2 σh2 h_1 => ?_)
  replace h_1 : kf σ0 σh2 := h_1
  refine pr_i (fun _ => ?_) (fun _ => ?_)
  ·
    exact pr_s h_1
  ·
    refine pr_b (x_X12_growth h_1 ) (fun σh4 h_2 => ?_)
    replace h_2 : kf σ0 σh4 := h_2
    exact pr_s h_2
theorem x_X12_climbs_J14 {n : Nat} {σh5 : ms_T} {v1_h5 : Int32} {v2_h5 : Int32} {σ0 : ms_T} (h0 : kf σ0 σh5)  : pr (f_X12_climbs_J14 n σh5 v1_h5 v2_h5) (fun res => kf σ0 res.2) := by
  unfold f_X12_climbs_J14
  exact x_X12_climbs_J15 h0 
theorem x_X12_climbs {n : Nat} {σ : ms_T} {a1 : Int32} {a2 : Int32} {σ0 : ms_T} (h0 : kf σ0 σ)  : pr (f_X12_climbs n σ a1 a2) (fun res => kf σ0 res.2) := by
  unfold f_X12_climbs
  refine pr_i (fun _ => ?_) (fun _ => ?_)
  ·
    exact x_X12_climbs_J14 h0 
  ·
    refine pr_i (fun _ => ?_) (fun _ => ?_)
    ·
      exact x_X12_climbs_J14 h0 
    ·
      exact x_X12_climbs_J15 h0 
theorem x_X12_agree_J20 {n : Nat} {σh2 : ms_T} {v1_h2 : Int32} {v2_h2 : Int32} {w0_h2 : Int32} {σ0 : ms_T} (h0 : kf σ0 σh2)  : pr (f_X12_agree_J20 n σh2 v1_h2 v2_h2 w0_h2) (fun res => kf σ0 res.2) := by
  unfold f_X12_agree_J20
  refine pr_c (x_X12_is h0 ) (fun rh3 σh3 h_1 => ?_)
  replace h_1 : kf σ0 σh3 := h_1
  refine pr_i (fun _ => ?_) (fun _ => ?_)
  ·
    exact pr_s h_1
  ·
    refine pr_b pr_any (fun rh5 _ => ?_)
    refine pr_i (fun _ => ?_) (fun _ => ?_)
    ·
      exact pr_s h_1
    ·
      exact pr_s h_1
theorem x_X12_agree_J19 {n : Nat} {σh7 : ms_T} {v1_h7 : Int32} {v2_h7 : Int32} {σ0 : ms_T} (h0 : kf σ0 σh7)  : pr (f_X12_agree_J19 n σh7 v1_h7 v2_h7) (fun res => kf σ0 res.2) := by
  unfold f_X12_agree_J19
  exact x_X12_agree_J20 h0 
theorem x_X12_agree {n : Nat} {σ : ms_T} {a1 : Int32} {a2 : Int32} {σ0 : ms_T} (h0 : kf σ0 σ)  : pr (f_X12_agree n σ a1 a2) (fun res => kf σ0 res.2) := by
  unfold f_X12_agree
  refine pr_b pr_any (fun rh1 _ => ?_)
  refine pr_i (fun _ => ?_) (fun _ => ?_)
  ·
    exact x_X12_agree_J19 h0 
  ·
    refine pr_b pr_any (fun rh9 _ => ?_)
    refine pr_i (fun _ => ?_) (fun _ => ?_)
    ·
      exact x_X12_agree_J19 h0 
    ·
      exact x_X12_agree_J20 h0 
theorem x_X12_where_J87 {n : Nat} {rec43 : ms_T → Int32 → Int32 → Int32 → Int32 → Int32 → Option (Int32 × ms_T)} {σh12 : ms_T} {v1_h12 : Int32} {v2_h12 : Int32} {v3_h12 : Int32} {v4_h12 : Int32} {v5_h12 : Int32} {σ0 : ms_T} (h0 : kf σ0 σh12) (hrec43 : ∀ {y0 : ms_T} {y1 : Int32} {y2 : Int32} {y3 : Int32} {y4 : Int32} {y5 : Int32}, kf σ0 y0 → pr (rec43 y0 y1 y2 y3 y4 y5) (fun res => kf σ0 res.2)) : pr (f_X12_where_J87 n rec43 σh12 v1_h12 v2_h12 v3_h12 v4_h12 v5_h12) (fun res => kf σ0 res.2) := by
  unfold f_X12_where_J87
  refine pr_ln (fun x13 _ => ?_)
  exact hrec43 h0
theorem x_X12_where_J85 {n : Nat} {rec43 : ms_T → Int32 → Int32 → Int32 → Int32 → Int32 → Option (Int32 × ms_T)} {σh16 : ms_T} {v1_h16 : Int32} {v2_h16 : Int32} {v3_h16 : Int32} {v5_h16 : Int32} {w0_h16 : Int32} {σ0 : ms_T} (h0 : kf σ0 σh16) (hrec43 : ∀ {y0 : ms_T} {y1 : Int32} {y2 : Int32} {y3 : Int32} {y4 : Int32} {y5 : Int32}, kf σ0 y0 → pr (rec43 y0 y1 y2 y3 y4 y5) (fun res => kf σ0 res.2)) : pr (f_X12_where_J85 n rec43 σh16 v1_h16 v2_h16 v3_h16 v5_h16 w0_h16) (fun res => kf σ0 res.2) := by
  unfold f_X12_where_J85
  exact x_X12_where_J87 h0 (fun h => hrec43 h)
theorem x_X12_where_L43 {n : Nat} {σ0 : ms_T}  : ∀ (k43 : Nat) {σh5 : ms_T} {v1_h5 : Int32} {v2_h5 : Int32} {v3_h5 : Int32} {v4_h5 : Int32} {v5_h5 : Int32}, kf σ0 σh5 → pr (f_X12_where_L43 n k43 σh5 v1_h5 v2_h5 v3_h5 v4_h5 v5_h5) (fun res => kf σ0 res.2) := by
  intro k43
  induction k43 with
  | zero => intro σh5 v1_h5 v2_h5 v3_h5 v4_h5 v5_h5 h0; rw [f_X12_where_L43.eq_1]; exact pr_0
  | succ k43 ih =>
    intro σh5 v1_h5 v2_h5 v3_h5 v4_h5 v5_h5 h0
    rw [f_X12_where_L43.eq_2]
    refine pr_b pr_any (fun rh6 _ => ?_)
    refine pr_i (fun _ => ?_) (fun _ => ?_)
    ·
      refine pr_i (fun _ => ?_) (fun _ => ?_)
      ·
        exact pr_s h0
      ·
        refine pr_i (fun _ => ?_) (fun _ => ?_)
        ·
          exact pr_s h0
        ·
          refine pr_c (x_X12_refuse h0 ) (fun rh10 σh10 h_1 => ?_)
          replace h_1 : kf σ0 σh10 := h_1
          exact pr_s h_1
    ·
      refine pr_b pr_any (fun rh11 _ => ?_)
      refine pr_i (fun _ => ?_) (fun _ => ?_)
      ·
        exact x_X12_where_J87 h0 (fun h => ih h)
      ·
        refine pr_ln (fun x15 _ => ?_)
        refine pr_i (fun _ => ?_) (fun _ => ?_)
        ·
          exact x_X12_where_J85 h0 (fun h => ih h)
        ·
          exact x_X12_where_J85 h0 (fun h => ih h)
theorem x_X12_where_J27 {n : Nat} {σh2 : ms_T} {v1_h2 : Int32} {v2_h2 : Int32} {w0_h2 : Int32} {σ0 : ms_T} (h0 : kf σ0 σh2)  : pr (f_X12_where_J27 n σh2 v1_h2 v2_h2 w0_h2) (fun res => kf σ0 res.2) := by
  unfold f_X12_where_J27
  refine pr_c (x_X12_is h0 ) (fun rh3 σh3 h_1 => ?_)
  replace h_1 : kf σ0 σh3 := h_1
  refine pr_i (fun _ => ?_) (fun _ => ?_)
  ·
    exact pr_s h_1
  ·
    exact x_X12_where_L43  _ h_1
theorem x_X12_where {n : Nat} {σ : ms_T} {a1 : Int32} {a2 : Int32} {σ0 : ms_T} (h0 : kf σ0 σ)  : pr (f_X12_where n σ a1 a2) (fun res => kf σ0 res.2) := by
  unfold f_X12_where
  refine pr_b pr_any (fun rh1 _ => ?_)
  refine pr_i (fun _ => ?_) (fun _ => ?_)
  ·
    exact x_X12_where_J27 h0 
  ·
    refine pr_b pr_any (fun rh19 _ => ?_)
    refine pr_i (fun _ => ?_) (fun _ => ?_)
    ·
      exact x_X12_where_J27 h0 
    ·
      exact x_X12_where_J27 h0 
theorem x_X12_seeks_J29 {n : Nat} {recM : ms_T → Int32 → Int32 → Option ms_T} {σh3 : ms_T} {v1_h3 : Int32} {v2_h3 : Int32} {σ0 : ms_T} (h0 : kf σ0 σh3) (hrecM : ∀ {y0 : ms_T} {y1 : Int32} {y2 : Int32}, kf σ0 y0 → pr (recM y0 y1 y2) (fun res => kf σ0 res)) : pr (f_X12_seeks_J29 n recM σh3 v1_h3 v2_h3) (fun res => kf σ0 res) := by
  unfold f_X12_seeks_J29
  refine pr_ln (fun σh4 e1 => ?_)
  have h_1 : kf σ0 σh4 := by rw [e1]; exact kf_sI rfl h0
  refine pr_i (fun _ => ?_) (fun _ => ?_)
  ·
    exact pr_s h_1
  ·
    refine pr_b pr_any (fun rh6 _ => ?_)
    refine pr_b (hrecM h_1) (fun σh7 h_2 => ?_)
    replace h_2 : kf σ0 σh7 := h_2
    refine pr_b (hrecM h_2) (fun σh8 h_3 => ?_)
    replace h_3 : kf σ0 σh8 := h_3
    exact pr_s h_3
theorem x_X12_seeks {n : Nat} {σ0 : ms_T}  : ∀ (d : Nat) {σ : ms_T} {a1 : Int32} {a2 : Int32}, kf σ0 σ → pr (f_X12_seeks n d σ a1 a2) (fun res => kf σ0 res) := by
  intro d
  induction d with
  | zero => intro σ a1 a2 h0; rw [f_X12_seeks.eq_1]; exact pr_0
  | succ d ih =>
    intro σ a1 a2 h0
    rw [f_X12_seeks.eq_2]
    refine pr_i (fun _ => ?_) (fun _ => ?_)
    ·
      exact pr_s h0
    ·
      refine pr_i (fun _ => ?_) (fun _ => ?_)
      ·
        refine pr_i (fun _ => ?_) (fun _ => ?_)
        ·
          refine pr_ln (fun σh10 e1 => ?_)
          have h_1 : kf σ0 σh10 := by rw [e1]; exact kf_sI rfl h0
          refine pr_ln (fun σh11 e2 => ?_)
          have h_2 : kf σ0 σh11 := by rw [e2]; exact kf_sI rfl h_1
          exact x_X12_seeks_J29 h_2 (fun h => ih h)
        ·
          exact x_X12_seeks_J29 h0 (fun h => ih h)
      ·
        exact pr_s h0
theorem x_X12_tree_J25 {n : Nat} {σh1 : ms_T} {v1_h1 : Int32} {v2_h1 : Int32} {v3_h1 : Int32} {v4_h1 : Int32} {w0_h1 : Int32} {σ0 : ms_T} (h0 : kf σ0 σh1)  : pr (f_X12_tree_J25 n σh1 v1_h1 v2_h1 v3_h1 v4_h1 w0_h1) (fun res => kf σ0 res.2) := by
  unfold f_X12_tree_J25
  refine pr_c (x_X12_is h0 ) (fun rh2 σh2 h_1 => ?_)
  replace h_1 : kf σ0 σh2 := h_1
  refine pr_i (fun _ => ?_) (fun _ => ?_)
  ·
    exact pr_s h_1
  ·
    refine pr_ln (fun σh4 e2 => ?_)
    have h_2 : kf σ0 σh4 := by rw [e2]; exact kf_sI rfl h_1
    refine pr_b (x_X12_seeks  _ h_2) (fun σh5 h_3 => ?_)
    replace h_3 : kf σ0 σh5 := h_3
    refine pr_i (fun _ => ?_) (fun _ => ?_)
    ·
      refine pr_i (fun _ => ?_) (fun _ => ?_)
      ·
        exact pr_s h_3
      ·
        refine pr_i (fun _ => ?_) (fun _ => ?_)
        ·
          exact pr_s h_3
        ·
          refine pr_b pr_any (fun rh9 _ => ?_)
          exact pr_s h_3
    ·
      refine pr_c (x_X12_refuse h_3 ) (fun rh10 σh10 h_4 => ?_)
      replace h_4 : kf σ0 σh10 := h_4
      exact pr_s h_4
theorem x_X12_tree_J15 {n : Nat} {σh11 : ms_T} {v1_h11 : Int32} {v2_h11 : Int32} {v3_h11 : Int32} {v4_h11 : Int32} {σ0 : ms_T} (h0 : kf σ0 σh11)  : pr (f_X12_tree_J15 n σh11 v1_h11 v2_h11 v3_h11 v4_h11) (fun res => kf σ0 res.2) := by
  unfold f_X12_tree_J15
  exact x_X12_tree_J25 h0 
theorem x_X12_tree {n : Nat} {σ : ms_T} {a1 : Int32} {a2 : Int32} {a3 : Int32} {a4 : Int32} {σ0 : ms_T} (h0 : kf σ0 σ)  : pr (f_X12_tree n σ a1 a2 a3 a4) (fun res => kf σ0 res.2) := by
  unfold f_X12_tree
  refine pr_i (fun _ => ?_) (fun _ => ?_)
  ·
    exact x_X12_tree_J15 h0 
  ·
    refine pr_b pr_any (fun rh13 _ => ?_)
    refine pr_i (fun _ => ?_) (fun _ => ?_)
    ·
      exact x_X12_tree_J15 h0 
    ·
      refine pr_b pr_any (fun rh15 _ => ?_)
      exact x_X12_tree_J25 h0 
theorem x_X12_longest_J100 {n : Nat} {rec45 : ms_T → Int32 → Int32 → Int32 → Int32 → Int32 → Int32 → Option (Int32 × ms_T)} {σh12 : ms_T} {v1_h12 : Int32} {v2_h12 : Int32} {v4_h12 : Int32} {v5_h12 : Int32} {v6_h12 : Int32} {w0_h12 : Int32} {σ0 : ms_T} (h0 : kf σ0 σh12) (hrec45 : ∀ {y0 : ms_T} {y1 : Int32} {y2 : Int32} {y3 : Int32} {y4 : Int32} {y5 : Int32} {y6 : Int32}, kf σ0 y0 → pr (rec45 y0 y1 y2 y3 y4 y5 y6) (fun res => kf σ0 res.2)) : pr (f_X12_longest_J100 n rec45 σh12 v1_h12 v2_h12 v4_h12 v5_h12 v6_h12 w0_h12) (fun res => kf σ0 res.2) := by
  unfold f_X12_longest_J100
  refine pr_ln (fun x13 _ => ?_)
  exact hrec45 h0
theorem x_X12_longest_J82 {n : Nat} {rec45 : ms_T → Int32 → Int32 → Int32 → Int32 → Int32 → Int32 → Option (Int32 × ms_T)} {σh11 : ms_T} {v1_h11 : Int32} {v2_h11 : Int32} {v3_h11 : Int32} {v5_h11 : Int32} {v6_h11 : Int32} {w0_h11 : Int32} {σ0 : ms_T} (h0 : kf σ0 σh11) (hrec45 : ∀ {y0 : ms_T} {y1 : Int32} {y2 : Int32} {y3 : Int32} {y4 : Int32} {y5 : Int32} {y6 : Int32}, kf σ0 y0 → pr (rec45 y0 y1 y2 y3 y4 y5 y6) (fun res => kf σ0 res.2)) : pr (f_X12_longest_J82 n rec45 σh11 v1_h11 v2_h11 v3_h11 v5_h11 v6_h11 w0_h11) (fun res => kf σ0 res.2) := by
  unfold f_X12_longest_J82
  refine pr_i (fun _ => ?_) (fun _ => ?_)
  ·
    exact x_X12_longest_J100 h0 (fun h => hrec45 h)
  ·
    exact x_X12_longest_J100 h0 (fun h => hrec45 h)
theorem x_X12_longest_L45 {n : Nat} {σ0 : ms_T}  : ∀ (k45 : Nat) {σh5 : ms_T} {v1_h5 : Int32} {v2_h5 : Int32} {v3_h5 : Int32} {v4_h5 : Int32} {v5_h5 : Int32} {v6_h5 : Int32}, kf σ0 σh5 → pr (f_X12_longest_L45 n k45 σh5 v1_h5 v2_h5 v3_h5 v4_h5 v5_h5 v6_h5) (fun res => kf σ0 res.2) := by
  intro k45
  induction k45 with
  | zero => intro σh5 v1_h5 v2_h5 v3_h5 v4_h5 v5_h5 v6_h5 h0; rw [f_X12_longest_L45.eq_1]; exact pr_0
  | succ k45 ih =>
    intro σh5 v1_h5 v2_h5 v3_h5 v4_h5 v5_h5 v6_h5 h0
    rw [f_X12_longest_L45.eq_2]
    refine pr_i (fun _ => ?_) (fun _ => ?_)
    ·
      refine pr_i (fun _ => ?_) (fun _ => ?_)
      ·
        exact pr_s h0
      ·
        refine pr_i (fun _ => ?_) (fun _ => ?_)
        ·
          exact pr_s h0
        ·
          exact pr_s h0
    ·
      refine pr_b (x_X12_inclusion h0 ) (fun σh9 h_1 => ?_)
      replace h_1 : kf σ0 σh9 := h_1
      refine pr_ln (fun x10 _ => ?_)
      refine pr_i (fun _ => ?_) (fun _ => ?_)
      ·
        exact x_X12_longest_J82 h_1 (fun h => ih h)
      ·
        exact x_X12_longest_J82 h_1 (fun h => ih h)
theorem x_X12_longest_J26 {n : Nat} {σh2 : ms_T} {v1_h2 : Int32} {v2_h2 : Int32} {w0_h2 : Int32} {σ0 : ms_T} (h0 : kf σ0 σh2)  : pr (f_X12_longest_J26 n σh2 v1_h2 v2_h2 w0_h2) (fun res => kf σ0 res.2) := by
  unfold f_X12_longest_J26
  refine pr_c (x_X12_is h0 ) (fun rh3 σh3 h_1 => ?_)
  replace h_1 : kf σ0 σh3 := h_1
  refine pr_i (fun _ => ?_) (fun _ => ?_)
  ·
    exact pr_s h_1
  ·
    exact x_X12_longest_L45  _ h_1
theorem x_X12_longest_J25 {n : Nat} {σh16 : ms_T} {v1_h16 : Int32} {v2_h16 : Int32} {σ0 : ms_T} (h0 : kf σ0 σh16)  : pr (f_X12_longest_J25 n σh16 v1_h16 v2_h16) (fun res => kf σ0 res.2) := by
  unfold f_X12_longest_J25
  exact x_X12_longest_J26 h0 
theorem x_X12_longest {n : Nat} {σ : ms_T} {a1 : Int32} {a2 : Int32} {σ0 : ms_T} (h0 : kf σ0 σ)  : pr (f_X12_longest n σ a1 a2) (fun res => kf σ0 res.2) := by
  unfold f_X12_longest
  refine pr_b pr_any (fun rh1 _ => ?_)
  refine pr_i (fun _ => ?_) (fun _ => ?_)
  ·
    exact x_X12_longest_J25 h0 
  ·
    refine pr_b pr_any (fun rh18 _ => ?_)
    refine pr_i (fun _ => ?_) (fun _ => ?_)
    ·
      exact x_X12_longest_J25 h0 
    ·
      exact x_X12_longest_J26 h0 
theorem x_X12_part_J198 {n : Nat} {rec123 : ms_T → Int32 → Int32 → Int32 → Int32 → Int32 → Int32 → Option (Int32 × ms_T)} {σh21 : ms_T} {v1_h21 : Int32} {v2_h21 : Int32} {v3_h21 : Int32} {v5_h21 : Int32} {v6_h21 : Int32} {w0_h21 : Int32} {σ0 : ms_T} (h0 : kf σ0 σh21) (hrec123 : ∀ {y0 : ms_T} {y1 : Int32} {y2 : Int32} {y3 : Int32} {y4 : Int32} {y5 : Int32} {y6 : Int32}, kf σ0 y0 → pr (rec123 y0 y1 y2 y3 y4 y5 y6) (fun res => kf σ0 res.2)) : pr (f_X12_part_J198 n rec123 σh21 v1_h21 v2_h21 v3_h21 v5_h21 v6_h21 w0_h21) (fun res => kf σ0 res.2) := by
  unfold f_X12_part_J198
  exact hrec123 h0
theorem x_X12_part_J180 {n : Nat} {rec123 : ms_T → Int32 → Int32 → Int32 → Int32 → Int32 → Int32 → Option (Int32 × ms_T)} {σh19 : ms_T} {v1_h19 : Int32} {v2_h19 : Int32} {v3_h19 : Int32} {v4_h19 : Int32} {v6_h19 : Int32} {v7_h19 : Int32} {v8_h19 : Int32} {w0_h19 : Int32} {w1_h19 : Int32} {σ0 : ms_T} (h0 : kf σ0 σh19) (hrec123 : ∀ {y0 : ms_T} {y1 : Int32} {y2 : Int32} {y3 : Int32} {y4 : Int32} {y5 : Int32} {y6 : Int32}, kf σ0 y0 → pr (rec123 y0 y1 y2 y3 y4 y5 y6) (fun res => kf σ0 res.2)) : pr (f_X12_part_J180 n rec123 σh19 v1_h19 v2_h19 v3_h19 v4_h19 v6_h19 v7_h19 v8_h19 w0_h19 w1_h19) (fun res => kf σ0 res.2) := by
  unfold f_X12_part_J180
  refine pr_ln (fun x20 _ => ?_)
  refine pr_i (fun _ => ?_) (fun _ => ?_)
  ·
    exact x_X12_part_J198 h0 (fun h => hrec123 h)
  ·
    exact x_X12_part_J198 h0 (fun h => hrec123 h)
theorem x_X12_part_J165 {n : Nat} {rec123 : ms_T → Int32 → Int32 → Int32 → Int32 → Int32 → Int32 → Option (Int32 × ms_T)} {σh18 : ms_T} {v1_h18 : Int32} {v2_h18 : Int32} {v3_h18 : Int32} {v4_h18 : Int32} {v5_h18 : Int32} {v6_h18 : Int32} {v7_h18 : Int32} {w0_h18 : Int32} {σ0 : ms_T} (h0 : kf σ0 σh18) (hrec123 : ∀ {y0 : ms_T} {y1 : Int32} {y2 : Int32} {y3 : Int32} {y4 : Int32} {y5 : Int32} {y6 : Int32}, kf σ0 y0 → pr (rec123 y0 y1 y2 y3 y4 y5 y6) (fun res => kf σ0 res.2)) : pr (f_X12_part_J165 n rec123 σh18 v1_h18 v2_h18 v3_h18 v4_h18 v5_h18 v6_h18 v7_h18 w0_h18) (fun res => kf σ0 res.2) := by
  unfold f_X12_part_J165
  refine pr_i (fun _ => ?_) (fun _ => ?_)
  ·
    exact x_X12_part_J180 h0 (fun h => hrec123 h)
  ·
    exact x_X12_part_J180 h0 (fun h => hrec123 h)
theorem x_X12_part_L123 {n : Nat} {σ0 : ms_T}  : ∀ (k123 : Nat) {σh11 : ms_T} {v1_h11 : Int32} {v2_h11 : Int32} {v3_h11 : Int32} {v4_h11 : Int32} {v5_h11 : Int32} {v6_h11 : Int32}, kf σ0 σh11 → pr (f_X12_part_L123 n k123 σh11 v1_h11 v2_h11 v3_h11 v4_h11 v5_h11 v6_h11) (fun res => kf σ0 res.2) := by
  intro k123
  induction k123 with
  | zero => intro σh11 v1_h11 v2_h11 v3_h11 v4_h11 v5_h11 v6_h11 h0; rw [f_X12_part_L123.eq_1]; exact pr_0
  | succ k123 ih =>
    intro σh11 v1_h11 v2_h11 v3_h11 v4_h11 v5_h11 v6_h11 h0
    rw [f_X12_part_L123.eq_2]
    refine pr_i (fun _ => ?_) (fun _ => ?_)
    ·
      refine pr_i (fun _ => ?_) (fun _ => ?_)
      ·
        exact pr_s h0
      ·
        exact pr_s h0
    ·
      refine pr_b pr_any (fun rh14 _ => ?_)
      refine pr_ln (fun x15 _ => ?_)
      refine pr_b pr_any (fun rh16 _ => ?_)
      refine pr_b pr_any (fun rh17 _ => ?_)
      refine pr_i (fun _ => ?_) (fun _ => ?_)
      ·
        exact x_X12_part_J165 h0 (fun h => ih h)
      ·
        exact x_X12_part_J165 h0 (fun h => ih h)
theorem x_X12_part_J69 {n : Nat} {σh7 : ms_T} {v1_h7 : Int32} {v2_h7 : Int32} {v3_h7 : Int32} {w0_h7 : Int32} {σ0 : ms_T} (h0 : kf σ0 σh7)  : pr (f_X12_part_J69 n σh7 v1_h7 v2_h7 v3_h7 w0_h7) (fun res => kf σ0 res.2) := by
  unfold f_X12_part_J69
  refine pr_b pr_any (fun rh8 _ => ?_)
  refine pr_b pr_any (fun rh9 _ => ?_)
  refine pr_i (fun _ => ?_) (fun _ => ?_)
  ·
    refine pr_i (fun _ => ?_) (fun _ => ?_)
    ·
      exact pr_s h0
    ·
      refine pr_b pr_any (fun rh26 _ => ?_)
      refine pr_b pr_any (fun rh27 _ => ?_)
      refine pr_i (fun _ => ?_) (fun _ => ?_)
      ·
        exact pr_s h0
      ·
        exact pr_s h0
  ·
    exact x_X12_part_L123  _ h0
theorem x_X12_part_J35 {n : Nat} {σh2 : ms_T} {v1_h2 : Int32} {v2_h2 : Int32} {v3_h2 : Int32} {w0_h2 : Int32} {σ0 : ms_T} (h0 : kf σ0 σh2)  : pr (f_X12_part_J35 n σh2 v1_h2 v2_h2 v3_h2 w0_h2) (fun res => kf σ0 res.2) := by
  unfold f_X12_part_J35
  refine pr_c (x_X12_is h0 ) (fun rh3 σh3 h_1 => ?_)
  replace h_1 : kf σ0 σh3 := h_1
  refine pr_i (fun _ => ?_) (fun _ => ?_)
  ·
    exact pr_s h_1
  ·
    refine pr_b pr_any (fun rh5 _ => ?_)
    refine pr_b pr_any (fun rh6 _ => ?_)
    refine pr_i (fun _ => ?_) (fun _ => ?_)
    ·
      refine pr_b pr_any (fun rh30 _ => ?_)
      exact x_X12_part_J69 h_1 
    ·
      refine pr_b pr_any (fun rh31 _ => ?_)
      exact x_X12_part_J69 h_1 
theorem x_X12_part_J30 {n : Nat} {σh34 : ms_T} {v1_h34 : Int32} {v2_h34 : Int32} {v3_h34 : Int32} {σ0 : ms_T} (h0 : kf σ0 σh34)  : pr (f_X12_part_J30 n σh34 v1_h34 v2_h34 v3_h34) (fun res => kf σ0 res.2) := by
  unfold f_X12_part_J30
  exact x_X12_part_J35 h0 
theorem x_X12_part {n : Nat} {σ : ms_T} {a1 : Int32} {a2 : Int32} {a3 : Int32} {σ0 : ms_T} (h0 : kf σ0 σ)  : pr (f_X12_part n σ a1 a2 a3) (fun res => kf σ0 res.2) := by
  unfold f_X12_part
  refine pr_b pr_any (fun rh1 _ => ?_)
  refine pr_i (fun _ => ?_) (fun _ => ?_)
  ·
    exact x_X12_part_J35 h0 
  ·
    refine pr_b pr_any (fun rh33 _ => ?_)
    refine pr_i (fun _ => ?_) (fun _ => ?_)
    ·
      exact x_X12_part_J30 h0 
    ·
      refine pr_b pr_any (fun rh36 _ => ?_)
      refine pr_i (fun _ => ?_) (fun _ => ?_)
      ·
        exact x_X12_part_J30 h0 
      ·
        exact x_X12_part_J35 h0 
theorem x_X12_blame_J190 {n : Nat} {rec127 : ms_T → Int32 → Int32 → Int32 → Int32 → Int32 → Int32 → Option (Int32 × ms_T)} {σh15 : ms_T} {v1_h15 : Int32} {v2_h15 : Int32} {v3_h15 : Int32} {v4_h15 : Int32} {v5_h15 : Int32} {v6_h15 : Int32} {σ0 : ms_T} (h0 : kf σ0 σh15) (hrec127 : ∀ {y0 : ms_T} {y1 : Int32} {y2 : Int32} {y3 : Int32} {y4 : Int32} {y5 : Int32} {y6 : Int32}, kf σ0 y0 → pr (rec127 y0 y1 y2 y3 y4 y5 y6) (fun res => kf σ0 res.2)) : pr (f_X12_blame_J190 n rec127 σh15 v1_h15 v2_h15 v3_h15 v4_h15 v5_h15 v6_h15) (fun res => kf σ0 res.2) := by
  unfold f_X12_blame_J190
  refine pr_ln (fun x16 _ => ?_)
  exact hrec127 h0
theorem x_X12_blame_L127 {n : Nat} {σ0 : ms_T}  : ∀ (k127 : Nat) {σh9 : ms_T} {v1_h9 : Int32} {v2_h9 : Int32} {v3_h9 : Int32} {v4_h9 : Int32} {v5_h9 : Int32} {v6_h9 : Int32}, kf σ0 σh9 → pr (f_X12_blame_L127 n k127 σh9 v1_h9 v2_h9 v3_h9 v4_h9 v5_h9 v6_h9) (fun res => kf σ0 res.2) := by
  intro k127
  induction k127 with
  | zero => intro σh9 v1_h9 v2_h9 v3_h9 v4_h9 v5_h9 v6_h9 h0; rw [f_X12_blame_L127.eq_1]; exact pr_0
  | succ k127 ih =>
    intro σh9 v1_h9 v2_h9 v3_h9 v4_h9 v5_h9 v6_h9 h0
    rw [f_X12_blame_L127.eq_2]
    refine pr_g (fun _ _ => ?_)
    refine pr_i (fun _ => ?_) (fun _ => ?_)
    ·
      refine pr_i (fun _ => ?_) (fun _ => ?_)
      ·
        exact pr_s h0
      ·
        refine pr_i (fun _ => ?_) (fun _ => ?_)
        ·
          exact pr_s h0
        ·
          exact pr_s h0
    ·
      refine pr_b pr_any (fun rh14 _ => ?_)
      refine pr_i (fun _ => ?_) (fun _ => ?_)
      ·
        refine pr_b pr_any (fun rh18 _ => ?_)
        refine pr_i (fun _ => ?_) (fun _ => ?_)
        ·
          exact x_X12_blame_J190 h0 (fun h => ih h)
        ·
          refine pr_b pr_any (fun rh20 _ => ?_)
          refine pr_i (fun _ => ?_) (fun _ => ?_)
          ·
            exact x_X12_blame_J190 h0 (fun h => ih h)
          ·
            refine pr_b pr_any (fun rh22 _ => ?_)
            refine pr_i (fun _ => ?_) (fun _ => ?_)
            ·
              exact x_X12_blame_J190 h0 (fun h => ih h)
            ·
              refine pr_b pr_any (fun rh24 _ => ?_)
              exact x_X12_blame_J190 h0 (fun h => ih h)
      ·
        exact x_X12_blame_J190 h0 (fun h => ih h)
theorem x_X12_blame_J122 {n : Nat} {σh8 : ms_T} {v1_h8 : Int32} {v2_h8 : Int32} {v3_h8 : Int32} {v4_h8 : Int32} {w0_h8 : Int32} {σ0 : ms_T} (h0 : kf σ0 σh8)  : pr (f_X12_blame_J122 n σh8 v1_h8 v2_h8 v3_h8 v4_h8 w0_h8) (fun res => kf σ0 res.2) := by
  unfold f_X12_blame_J122
  exact x_X12_blame_L127  _ h0
theorem x_X12_blame_J107 {n : Nat} {rec43 : ms_T → Int32 → Int32 → Int32 → Int32 → Int32 → Option (Int32 × ms_T)} {σh27 : ms_T} {v1_h27 : Int32} {v2_h27 : Int32} {v3_h27 : Int32} {v4_h27 : Int32} {v5_h27 : Int32} {σ0 : ms_T} (h0 : kf σ0 σh27) (hrec43 : ∀ {y0 : ms_T} {y1 : Int32} {y2 : Int32} {y3 : Int32} {y4 : Int32} {y5 : Int32}, kf σ0 y0 → pr (rec43 y0 y1 y2 y3 y4 y5) (fun res => kf σ0 res.2)) : pr (f_X12_blame_J107 n rec43 σh27 v1_h27 v2_h27 v3_h27 v4_h27 v5_h27) (fun res => kf σ0 res.2) := by
  unfold f_X12_blame_J107
  refine pr_ln (fun x28 _ => ?_)
  exact hrec43 h0
theorem x_X12_blame_J106 {n : Nat} {rec43 : ms_T → Int32 → Int32 → Int32 → Int32 → Int32 → Option (Int32 × ms_T)} {σh33 : ms_T} {v1_h33 : Int32} {v2_h33 : Int32} {v4_h33 : Int32} {v5_h33 : Int32} {w0_h33 : Int32} {σ0 : ms_T} (h0 : kf σ0 σh33) (hrec43 : ∀ {y0 : ms_T} {y1 : Int32} {y2 : Int32} {y3 : Int32} {y4 : Int32} {y5 : Int32}, kf σ0 y0 → pr (rec43 y0 y1 y2 y3 y4 y5) (fun res => kf σ0 res.2)) : pr (f_X12_blame_J106 n rec43 σh33 v1_h33 v2_h33 v4_h33 v5_h33 w0_h33) (fun res => kf σ0 res.2) := by
  unfold f_X12_blame_J106
  exact x_X12_blame_J107 h0 (fun h => hrec43 h)
theorem x_X12_blame_J95 {n : Nat} {rec43 : ms_T → Int32 → Int32 → Int32 → Int32 → Int32 → Option (Int32 × ms_T)} {σh34 : ms_T} {v1_h34 : Int32} {v2_h34 : Int32} {v4_h34 : Int32} {v5_h34 : Int32} {σ0 : ms_T} (h0 : kf σ0 σh34) (hrec43 : ∀ {y0 : ms_T} {y1 : Int32} {y2 : Int32} {y3 : Int32} {y4 : Int32} {y5 : Int32}, kf σ0 y0 → pr (rec43 y0 y1 y2 y3 y4 y5) (fun res => kf σ0 res.2)) : pr (f_X12_blame_J95 n rec43 σh34 v1_h34 v2_h34 v4_h34 v5_h34) (fun res => kf σ0 res.2) := by
  unfold f_X12_blame_J95
  refine pr_b pr_any (fun rh35 _ => ?_)
  exact x_X12_blame_J106 h0 (fun h => hrec43 h)
theorem x_X12_blame_L43 {n : Nat} {σ0 : ms_T}  : ∀ (k43 : Nat) {σh5 : ms_T} {v1_h5 : Int32} {v2_h5 : Int32} {v3_h5 : Int32} {v4_h5 : Int32} {v5_h5 : Int32}, kf σ0 σh5 → pr (f_X12_blame_L43 n k43 σh5 v1_h5 v2_h5 v3_h5 v4_h5 v5_h5) (fun res => kf σ0 res.2) := by
  intro k43
  induction k43 with
  | zero => intro σh5 v1_h5 v2_h5 v3_h5 v4_h5 v5_h5 h0; rw [f_X12_blame_L43.eq_1]; exact pr_0
  | succ k43 ih =>
    intro σh5 v1_h5 v2_h5 v3_h5 v4_h5 v5_h5 h0
    rw [f_X12_blame_L43.eq_2]
    refine pr_g (fun _ _ => ?_)
    refine pr_i (fun _ => ?_) (fun _ => ?_)
    ·
      refine pr_i (fun _ => ?_) (fun _ => ?_)
      ·
        exact x_X12_blame_J122 h0 
      ·
        exact x_X12_blame_J122 h0 
    ·
      refine pr_b pr_any (fun rh26 _ => ?_)
      refine pr_i (fun _ => ?_) (fun _ => ?_)
      ·
        refine pr_b pr_any (fun rh30 _ => ?_)
        refine pr_i (fun _ => ?_) (fun _ => ?_)
        ·
          refine pr_ln (fun x32 _ => ?_)
          refine pr_i (fun _ => ?_) (fun _ => ?_)
          ·
            exact x_X12_blame_J95 h0 (fun h => ih h)
          ·
            refine pr_b pr_any (fun rh37 _ => ?_)
            refine pr_i (fun _ => ?_) (fun _ => ?_)
            ·
              exact x_X12_blame_J106 h0 (fun h => ih h)
            ·
              exact x_X12_blame_J95 h0 (fun h => ih h)
        ·
          exact x_X12_blame_J107 h0 (fun h => ih h)
      ·
        exact x_X12_blame_J107 h0 (fun h => ih h)
theorem x_X12_blame_J27 {n : Nat} {σh2 : ms_T} {v1_h2 : Int32} {v2_h2 : Int32} {w0_h2 : Int32} {σ0 : ms_T} (h0 : kf σ0 σh2)  : pr (f_X12_blame_J27 n σh2 v1_h2 v2_h2 w0_h2) (fun res => kf σ0 res.2) := by
  unfold f_X12_blame_J27
  refine pr_c (x_X12_is h0 ) (fun rh3 σh3 h_1 => ?_)
  replace h_1 : kf σ0 σh3 := h_1
  refine pr_i (fun _ => ?_) (fun _ => ?_)
  ·
    exact pr_s h_1
  ·
    exact x_X12_blame_L43  _ h_1
theorem x_X12_blame {n : Nat} {σ : ms_T} {a1 : Int32} {a2 : Int32} {σ0 : ms_T} (h0 : kf σ0 σ)  : pr (f_X12_blame n σ a1 a2) (fun res => kf σ0 res.2) := by
  unfold f_X12_blame
  refine pr_b pr_any (fun rh1 _ => ?_)
  refine pr_i (fun _ => ?_) (fun _ => ?_)
  ·
    exact x_X12_blame_J27 h0 
  ·
    refine pr_b pr_any (fun rh40 _ => ?_)
    refine pr_i (fun _ => ?_) (fun _ => ?_)
    ·
      exact x_X12_blame_J27 h0 
    ·
      exact x_X12_blame_J27 h0 
theorem x_X12_weak_J108 {n : Nat} {rec73 : ms_T → Int32 → Int32 → Int32 → Int32 → Int32 → Int32 → Int32 → Int32 → Option (Int32 × ms_T)} {σh15 : ms_T} {v2_h15 : Int32} {v3_h15 : Int32} {v4_h15 : Int32} {v5_h15 : Int32} {v6_h15 : Int32} {v7_h15 : Int32} {v8_h15 : Int32} {v9_h15 : Int32} {σ0 : ms_T} (h0 : kf σ0 σh15) (hrec73 : ∀ {y0 : ms_T} {y1 : Int32} {y2 : Int32} {y3 : Int32} {y4 : Int32} {y5 : Int32} {y6 : Int32} {y7 : Int32} {y8 : Int32}, kf σ0 y0 → pr (rec73 y0 y1 y2 y3 y4 y5 y6 y7 y8) (fun res => kf σ0 res.2)) : pr (f_X12_weak_J108 n rec73 σh15 v2_h15 v3_h15 v4_h15 v5_h15 v6_h15 v7_h15 v8_h15 v9_h15) (fun res => kf σ0 res.2) := by
  unfold f_X12_weak_J108
  refine pr_ln (fun x16 _ => ?_)
  exact hrec73 h0
theorem x_X12_weak_L73 {n : Nat} {σ0 : ms_T}  : ∀ (k73 : Nat) {σh10 : ms_T} {v2_h10 : Int32} {v3_h10 : Int32} {v4_h10 : Int32} {v5_h10 : Int32} {v6_h10 : Int32} {v7_h10 : Int32} {v8_h10 : Int32} {v9_h10 : Int32}, kf σ0 σh10 → pr (f_X12_weak_L73 n k73 σh10 v2_h10 v3_h10 v4_h10 v5_h10 v6_h10 v7_h10 v8_h10 v9_h10) (fun res => kf σ0 res.2) := by
  intro k73
  induction k73 with
  | zero => intro σh10 v2_h10 v3_h10 v4_h10 v5_h10 v6_h10 v7_h10 v8_h10 v9_h10 h0; rw [f_X12_weak_L73.eq_1]; exact pr_0
  | succ k73 ih =>
    intro σh10 v2_h10 v3_h10 v4_h10 v5_h10 v6_h10 v7_h10 v8_h10 v9_h10 h0
    rw [f_X12_weak_L73.eq_2]
    refine pr_i (fun _ => ?_) (fun _ => ?_)
    ·
      refine pr_i (fun _ => ?_) (fun _ => ?_)
      ·
        exact pr_s h0
      ·
        refine pr_i (fun _ => ?_) (fun _ => ?_)
        ·
          exact pr_s h0
        ·
          refine pr_c (x_X12_refuse h0 ) (fun rh14 σh14 h_1 => ?_)
          replace h_1 : kf σ0 σh14 := h_1
          exact pr_s h_1
    ·
      refine pr_i (fun _ => ?_) (fun _ => ?_)
      ·
        exact x_X12_weak_J108 h0 (fun h => ih h)
      ·
        refine pr_c (x_X12_folded h0 ) (fun rh18 σh18 h_2 => ?_)
        replace h_2 : kf σ0 σh18 := h_2
        refine pr_i (fun _ => ?_) (fun _ => ?_)
        ·
          refine pr_ln (fun x20 _ => ?_)
          exact x_X12_weak_J108 h_2 (fun h => ih h)
        ·
          exact x_X12_weak_J108 h_2 (fun h => ih h)
theorem x_X12_weak_J22 {n : Nat} {σh2 : ms_T} {v1_h2 : Int32} {v2_h2 : Int32} {v3_h2 : Int32} {v4_h2 : Int32} {w0_h2 : Int32} {σ0 : ms_T} (h0 : kf σ0 σh2)  : pr (f_X12_weak_J22 n σh2 v1_h2 v2_h2 v3_h2 v4_h2 w0_h2) (fun res => kf σ0 res.2) := by
  unfold f_X12_weak_J22
  refine pr_c (x_X12_is h0 ) (fun rh3 σh3 h_1 => ?_)
  replace h_1 : kf σ0 σh3 := h_1
  refine pr_i (fun _ => ?_) (fun _ => ?_)
  ·
    exact pr_s h_1
  ·
    refine pr_b (x_X12_inclusion h_1 ) (fun σh5 h_2 => ?_)
    replace h_2 : kf σ0 σh5 := h_2
    refine pr_b (x_X12_fetches h_2 ) (fun σh6 h_3 => ?_)
    replace h_3 : kf σ0 σh6 := h_3
    refine pr_b pr_any (fun rh7 _ => ?_)
    refine pr_b pr_any (fun rh8 _ => ?_)
    refine pr_g (fun _ _ => ?_)
    refine pr_ln (fun x21 _ => ?_)
    exact x_X12_weak_L73  _ h_3
theorem x_X12_weak {n : Nat} {σ : ms_T} {a1 : Int32} {a2 : Int32} {a3 : Int32} {a4 : Int32} {σ0 : ms_T} (h0 : kf σ0 σ)  : pr (f_X12_weak n σ a1 a2 a3 a4) (fun res => kf σ0 res.2) := by
  unfold f_X12_weak
  refine pr_b pr_any (fun rh1 _ => ?_)
  refine pr_i (fun _ => ?_) (fun _ => ?_)
  ·
    exact x_X12_weak_J22 h0 
  ·
    refine pr_b pr_any (fun rh23 _ => ?_)
    exact x_X12_weak_J22 h0 
theorem x_X12_stepsIn_J102 {n : Nat} {recM : ms_T → Int32 → Int32 → Int32 → Option (Int32 × ms_T)} {σh7 : ms_T} {w0_h7 : Int32} {w1_h7 : Int32} {σ0 : ms_T} (h0 : kf σ0 σh7) (hrecM : ∀ {y0 : ms_T} {y1 : Int32} {y2 : Int32} {y3 : Int32}, kf σ0 y0 → pr (recM y0 y1 y2 y3) (fun res => kf σ0 res.2)) : pr (f_X12_stepsIn_J102 n recM σh7 w0_h7 w1_h7) (fun res => kf σ0 res.2) := by
  unfold f_X12_stepsIn_J102
  refine pr_g (fun _ _ => ?_)
  refine pr_ln (fun σh9 e1 => ?_)
  have h_1 : kf σ0 σh9 := by rw [e1]; exact kf_sE rfl h0
  refine pr_g (fun _ _ => ?_)
  refine pr_g (fun _ _ => ?_)
  refine pr_b pr_any (fun rh12 _ => ?_)
  refine pr_g (fun _ _ => ?_)
  refine pr_ln (fun σh14 e2 => ?_)
  have h_2 : kf σ0 σh14 := by rw [e2]; exact kf_sE rfl h_1
  refine pr_ln (fun σh15 e3 => ?_)
  have h_3 : kf σ0 σh15 := by rw [e3]; exact kf_sI rfl h_2
  refine pr_g (fun _ _ => ?_)
  exact pr_s h_3
theorem x_X12_stepsIn_J73 {n : Nat} {recM : ms_T → Int32 → Int32 → Int32 → Option (Int32 × ms_T)} {σh4 : ms_T} {v2_h4 : Int32} {v4_h4 : Int32} {v5_h4 : Int32} {w0_h4 : Int32} {w1_h4 : Int32} {σ0 : ms_T} (h0 : kf σ0 σh4) (hrecM : ∀ {y0 : ms_T} {y1 : Int32} {y2 : Int32} {y3 : Int32}, kf σ0 y0 → pr (recM y0 y1 y2 y3) (fun res => kf σ0 res.2)) : pr (f_X12_stepsIn_J73 n recM σh4 v2_h4 v4_h4 v5_h4 w0_h4 w1_h4) (fun res => kf σ0 res.2) := by
  unfold f_X12_stepsIn_J73
  refine pr_g (fun _ _ => ?_)
  refine pr_ln (fun σh6 e1 => ?_)
  have h_1 : kf σ0 σh6 := by rw [e1]; exact kf_sE rfl h0
  refine pr_i (fun _ => ?_) (fun _ => ?_)
  ·
    exact x_X12_stepsIn_J102 h_1 (fun h => hrecM h)
  ·
    refine pr_g (fun _ _ => ?_)
    exact x_X12_stepsIn_J102 h_1 (fun h => hrecM h)
theorem x_X12_stepsIn_J43 {n : Nat} {recM : ms_T → Int32 → Int32 → Int32 → Option (Int32 × ms_T)} {σh3 : ms_T} {v2_h3 : Int32} {v4_h3 : Int32} {w0_h3 : Int32} {σ0 : ms_T} (h0 : kf σ0 σh3) (hrecM : ∀ {y0 : ms_T} {y1 : Int32} {y2 : Int32} {y3 : Int32}, kf σ0 y0 → pr (recM y0 y1 y2 y3) (fun res => kf σ0 res.2)) : pr (f_X12_stepsIn_J43 n recM σh3 v2_h3 v4_h3 w0_h3) (fun res => kf σ0 res.2) := by
  unfold f_X12_stepsIn_J43
  refine pr_i (fun _ => ?_) (fun _ => ?_)
  ·
    refine pr_g (fun _ _ => ?_)
    exact x_X12_stepsIn_J73 h0 (fun h => hrecM h)
  ·
    exact x_X12_stepsIn_J73 h0 (fun h => hrecM h)
theorem x_X12_stepsIn {n : Nat} {σ0 : ms_T}  : ∀ (d : Nat) {σ : ms_T} {a1 : Int32} {a2 : Int32} {a3 : Int32}, kf σ0 σ → pr (f_X12_stepsIn n d σ a1 a2 a3) (fun res => kf σ0 res.2) := by
  intro d
  induction d with
  | zero => intro σ a1 a2 a3 h0; rw [f_X12_stepsIn.eq_1]; exact pr_0
  | succ d ih =>
    intro σ a1 a2 a3 h0
    rw [f_X12_stepsIn.eq_2]
    refine pr_i (fun _ => ?_) (fun _ => ?_)
    ·
      exact pr_s h0
    ·
      refine pr_b pr_any (fun rh2 _ => ?_)
      refine pr_i (fun _ => ?_) (fun _ => ?_)
      ·
        refine pr_c (ih h0) (fun rh22 σh22 h_1 => ?_)
        replace h_1 : kf σ0 σh22 := h_1
        exact x_X12_stepsIn_J43 h_1 (fun h => ih h)
      ·
        refine pr_c (ih h0) (fun rh23 σh23 h_2 => ?_)
        replace h_2 : kf σ0 σh23 := h_2
        exact x_X12_stepsIn_J43 h_2 (fun h => ih h)
theorem x_X12_forge_J71 {n : Nat} {σh7 : ms_T} {σ0 : ms_T} (h0 : kf σ0 σh7)  : pr (f_X12_forge_J71 n σh7) (fun res => kf σ0 res.2) := by
  unfold f_X12_forge_J71
  refine pr_c (x_X12_refuse h0 ) (fun rh8 σh8 h_1 => ?_)
  replace h_1 : kf σ0 σh8 := h_1
  exact pr_s h_1
theorem x_X12_forge_L80 {n : Nat} {σ0 : ms_T}  : ∀ (k80 : Nat) {σh11 : ms_T} {v1_h11 : Int32} {v2_h11 : Int32} {v3_h11 : Int32} {v4_h11 : Int32} {v5_h11 : Int32} {v6_h11 : Int32}, kf σ0 σh11 → pr (f_X12_forge_L80 n k80 σh11 v1_h11 v2_h11 v3_h11 v4_h11 v5_h11 v6_h11) (fun res => kf σ0 res.2) := by
  intro k80
  induction k80 with
  | zero => intro σh11 v1_h11 v2_h11 v3_h11 v4_h11 v5_h11 v6_h11 h0; rw [f_X12_forge_L80.eq_1]; exact pr_0
  | succ k80 ih =>
    intro σh11 v1_h11 v2_h11 v3_h11 v4_h11 v5_h11 v6_h11 h0
    rw [f_X12_forge_L80.eq_2]
    refine pr_g (fun _ _ => ?_)
    refine pr_i (fun _ => ?_) (fun _ => ?_)
    ·
      refine pr_c (x_X12_refuse h0 ) (fun rh14 σh14 h_1 => ?_)
      replace h_1 : kf σ0 σh14 := h_1
      exact pr_s h_1
    ·
      refine pr_g (fun _ _ => ?_)
      refine pr_ln (fun σh16 e2 => ?_)
      have h_2 : kf σ0 σh16 := by rw [e2]; exact kf_sE rfl h0
      refine pr_c (x_X12_folded h_2 ) (fun rh17 σh17 h_3 => ?_)
      replace h_3 : kf σ0 σh17 := h_3
      refine pr_i (fun _ => ?_) (fun _ => ?_)
      ·
        exact pr_s h_3
      ·
        refine pr_ln (fun x19 _ => ?_)
        exact ih h_3
theorem x_X12_forge_J37 {n : Nat} {σh2 : ms_T} {v1_h2 : Int32} {v2_h2 : Int32} {v3_h2 : Int32} {v4_h2 : Int32} {v5_h2 : Int32} {w0_h2 : Int32} {σ0 : ms_T} (h0 : kf σ0 σh2)  : pr (f_X12_forge_J37 n σh2 v1_h2 v2_h2 v3_h2 v4_h2 v5_h2 w0_h2) (fun res => kf σ0 res.2) := by
  unfold f_X12_forge_J37
  refine pr_c (x_X12_is h0 ) (fun rh3 σh3 h_1 => ?_)
  replace h_1 : kf σ0 σh3 := h_1
  refine pr_i (fun _ => ?_) (fun _ => ?_)
  ·
    exact pr_s h_1
  ·
    refine pr_b (x_X12_inclusion h_1 ) (fun σh5 h_2 => ?_)
    replace h_2 : kf σ0 σh5 := h_2
    refine pr_c (x_X12_fromPad h_2 ) (fun rh6 σh6 h_3 => ?_)
    replace h_3 : kf σ0 σh6 := h_3
    refine pr_i (fun _ => ?_) (fun _ => ?_)
    ·
      refine pr_i (fun _ => ?_) (fun _ => ?_)
      ·
        exact x_X12_forge_L80  _ h_3
      ·
        exact x_X12_forge_J71 h_3 
    ·
      exact x_X12_forge_J71 h_3 
theorem x_X12_forge_J36 {n : Nat} {σh20 : ms_T} {v1_h20 : Int32} {v2_h20 : Int32} {v3_h20 : Int32} {v4_h20 : Int32} {v5_h20 : Int32} {σ0 : ms_T} (h0 : kf σ0 σh20)  : pr (f_X12_forge_J36 n σh20 v1_h20 v2_h20 v3_h20 v4_h20 v5_h20) (fun res => kf σ0 res.2) := by
  unfold f_X12_forge_J36
  exact x_X12_forge_J37 h0 
theorem x_X12_forge {n : Nat} {σ : ms_T} {a1 : Int32} {a2 : Int32} {a3 : Int32} {a4 : Int32} {a5 : Int32} {σ0 : ms_T} (h0 : kf σ0 σ)  : pr (f_X12_forge n σ a1 a2 a3 a4 a5) (fun res => kf σ0 res.2) := by
  unfold f_X12_forge
  refine pr_b pr_any (fun rh1 _ => ?_)
  refine pr_i (fun _ => ?_) (fun _ => ?_)
  ·
    exact x_X12_forge_J36 h0 
  ·
    refine pr_i (fun _ => ?_) (fun _ => ?_)
    ·
      exact x_X12_forge_J36 h0 
    ·
      refine pr_b pr_any (fun rh23 _ => ?_)
      refine pr_i (fun _ => ?_) (fun _ => ?_)
      ·
        exact x_X12_forge_J36 h0 
      ·
        refine pr_b pr_any (fun rh25 _ => ?_)
        refine pr_i (fun _ => ?_) (fun _ => ?_)
        ·
          exact x_X12_forge_J36 h0 
        ·
          exact x_X12_forge_J37 h0 
theorem x_X12_trace_J60 {n : Nat} {σh6 : ms_T} {σ0 : ms_T} (h0 : kf σ0 σh6)  : pr (f_X12_trace_J60 n σh6) (fun res => kf σ0 res.2) := by
  unfold f_X12_trace_J60
  refine pr_c (x_X12_refuse h0 ) (fun rh7 σh7 h_1 => ?_)
  replace h_1 : kf σ0 σh7 := h_1
  exact pr_s h_1
theorem x_X12_trace_L72 {n : Nat} {σ0 : ms_T}  : ∀ (k72 : Nat) {σh12 : ms_T} {v1_h12 : Int32} {v2_h12 : Int32} {v3_h12 : Int32} {v4_h12 : Int32} {v5_h12 : Int32}, kf σ0 σh12 → pr (f_X12_trace_L72 n k72 σh12 v1_h12 v2_h12 v3_h12 v4_h12 v5_h12) (fun res => kf σ0 res.2) := by
  intro k72
  induction k72 with
  | zero => intro σh12 v1_h12 v2_h12 v3_h12 v4_h12 v5_h12 h0; rw [f_X12_trace_L72.eq_1]; exact pr_0
  | succ k72 ih =>
    intro σh12 v1_h12 v2_h12 v3_h12 v4_h12 v5_h12 h0
    rw [f_X12_trace_L72.eq_2]
    refine pr_i (fun _ => ?_) (fun _ => ?_)
    ·
      refine pr_ln (fun σh14 e1 => ?_)
      have h_1 : kf σ0 σh14 := by rw [e1]; exact kf_sI rfl h0
      refine pr_c (x_X12_stepsIn  _ h_1) (fun rh15 σh15 h_2 => ?_)
      replace h_2 : kf σ0 σh15 := h_2
      refine pr_i (fun _ => ?_) (fun _ => ?_)
      ·
        exact pr_s h_2
      ·
        refine pr_g (fun _ _ => ?_)
        exact pr_s h_2
    ·
      refine pr_g (fun _ _ => ?_)
      refine pr_ln (fun σh19 e3 => ?_)
      have h_3 : kf σ0 σh19 := by rw [e3]; exact kf_sE rfl h0
      refine pr_ln (fun x20 _ => ?_)
      exact ih h_3
theorem x_X12_trace_J28 {n : Nat} {σh2 : ms_T} {v1_h2 : Int32} {v2_h2 : Int32} {v3_h2 : Int32} {v4_h2 : Int32} {w0_h2 : Int32} {σ0 : ms_T} (h0 : kf σ0 σh2)  : pr (f_X12_trace_J28 n σh2 v1_h2 v2_h2 v3_h2 v4_h2 w0_h2) (fun res => kf σ0 res.2) := by
  unfold f_X12_trace_J28
  refine pr_c (x_X12_is h0 ) (fun rh3 σh3 h_1 => ?_)
  replace h_1 : kf σ0 σh3 := h_1
  refine pr_i (fun _ => ?_) (fun _ => ?_)
  ·
    exact pr_s h_1
  ·
    refine pr_b (x_X12_inclusion h_1 ) (fun σh5 h_2 => ?_)
    replace h_2 : kf σ0 σh5 := h_2
    refine pr_i (fun _ => ?_) (fun _ => ?_)
    ·
      exact x_X12_trace_J60 h_2 
    ·
      refine pr_c (x_X12_fromPad h_2 ) (fun rh9 σh9 h_3 => ?_)
      replace h_3 : kf σ0 σh9 := h_3
      refine pr_i (fun _ => ?_) (fun _ => ?_)
      ·
        refine pr_c (x_X12_fromPad h_3 ) (fun rh11 σh11 h_4 => ?_)
        replace h_4 : kf σ0 σh11 := h_4
        exact x_X12_trace_L72  _ h_4
      ·
        exact x_X12_trace_J60 h_3 
theorem x_X12_trace_J27 {n : Nat} {σh21 : ms_T} {v1_h21 : Int32} {v2_h21 : Int32} {v3_h21 : Int32} {v4_h21 : Int32} {σ0 : ms_T} (h0 : kf σ0 σh21)  : pr (f_X12_trace_J27 n σh21 v1_h21 v2_h21 v3_h21 v4_h21) (fun res => kf σ0 res.2) := by
  unfold f_X12_trace_J27
  exact x_X12_trace_J28 h0 
theorem x_X12_trace {n : Nat} {σ : ms_T} {a1 : Int32} {a2 : Int32} {a3 : Int32} {a4 : Int32} {σ0 : ms_T} (h0 : kf σ0 σ)  : pr (f_X12_trace n σ a1 a2 a3 a4) (fun res => kf σ0 res.2) := by
  unfold f_X12_trace
  refine pr_b pr_any (fun rh1 _ => ?_)
  refine pr_i (fun _ => ?_) (fun _ => ?_)
  ·
    exact x_X12_trace_J27 h0 
  ·
    refine pr_i (fun _ => ?_) (fun _ => ?_)
    ·
      exact x_X12_trace_J27 h0 
    ·
      refine pr_b pr_any (fun rh24 _ => ?_)
      refine pr_i (fun _ => ?_) (fun _ => ?_)
      ·
        exact x_X12_trace_J27 h0 
      ·
        exact x_X12_trace_J28 h0 
theorem x_X12_wayAt {n : Nat} {σ : ms_T} {a1 : Int32} {a2 : Int32} {σ0 : ms_T} (h0 : kf σ0 σ)  : pr (f_X12_wayAt n σ a1 a2) (fun res => kf σ0 res.2) := by
  unfold f_X12_wayAt
  refine pr_i (fun _ => ?_) (fun _ => ?_)
  ·
    refine pr_i (fun _ => ?_) (fun _ => ?_)
    ·
      refine pr_g (fun _ _ => ?_)
      exact pr_s h0
    ·
      refine pr_g (fun _ _ => ?_)
      exact pr_s h0
  ·
    refine pr_c (x_X12_refuse h0 ) (fun rh5 σh5 h_1 => ?_)
    replace h_1 : kf σ0 σh5 := h_1
    exact pr_s h_1
theorem x_X12_span_J29 {n : Nat} {σh2 : ms_T} {v1_h2 : Int32} {v2_h2 : Int32} {v3_h2 : Int32} {v4_h2 : Int32} {w0_h2 : Int32} {σ0 : ms_T} (h0 : kf σ0 σh2)  : pr (f_X12_span_J29 n σh2 v1_h2 v2_h2 v3_h2 v4_h2 w0_h2) (fun res => kf σ0 res.2) := by
  unfold f_X12_span_J29
  refine pr_c (x_X12_is h0 ) (fun rh3 σh3 h_1 => ?_)
  replace h_1 : kf σ0 σh3 := h_1
  refine pr_i (fun _ => ?_) (fun _ => ?_)
  ·
    exact pr_s h_1
  ·
    refine pr_b (x_X12_inclusion h_1 ) (fun σh5 h_2 => ?_)
    replace h_2 : kf σ0 σh5 := h_2
    refine pr_c (x_X12_wayAt h_2 ) (fun rh6 σh6 h_3 => ?_)
    replace h_3 : kf σ0 σh6 := h_3
    exact pr_s h_3
theorem x_X12_span_J28 {n : Nat} {σh7 : ms_T} {v1_h7 : Int32} {v2_h7 : Int32} {v3_h7 : Int32} {v4_h7 : Int32} {σ0 : ms_T} (h0 : kf σ0 σh7)  : pr (f_X12_span_J28 n σh7 v1_h7 v2_h7 v3_h7 v4_h7) (fun res => kf σ0 res.2) := by
  unfold f_X12_span_J28
  exact x_X12_span_J29 h0 
theorem x_X12_span {n : Nat} {σ : ms_T} {a1 : Int32} {a2 : Int32} {a3 : Int32} {a4 : Int32} {σ0 : ms_T} (h0 : kf σ0 σ)  : pr (f_X12_span n σ a1 a2 a3 a4) (fun res => kf σ0 res.2) := by
  unfold f_X12_span
  refine pr_b pr_any (fun rh1 _ => ?_)
  refine pr_i (fun _ => ?_) (fun _ => ?_)
  ·
    exact x_X12_span_J28 h0 
  ·
    refine pr_i (fun _ => ?_) (fun _ => ?_)
    ·
      exact x_X12_span_J28 h0 
    ·
      refine pr_b pr_any (fun rh10 _ => ?_)
      refine pr_i (fun _ => ?_) (fun _ => ?_)
      ·
        exact x_X12_span_J28 h0 
      ·
        exact x_X12_span_J29 h0 
theorem x_X12_rise_J29 {n : Nat} {σh1 : ms_T} {v1_h1 : Int32} {v2_h1 : Int32} {v3_h1 : Int32} {v4_h1 : Int32} {w0_h1 : Int32} {σ0 : ms_T} (h0 : kf σ0 σh1)  : pr (f_X12_rise_J29 n σh1 v1_h1 v2_h1 v3_h1 v4_h1 w0_h1) (fun res => kf σ0 res.2) := by
  unfold f_X12_rise_J29
  refine pr_c (x_X12_is h0 ) (fun rh2 σh2 h_1 => ?_)
  replace h_1 : kf σ0 σh2 := h_1
  refine pr_i (fun _ => ?_) (fun _ => ?_)
  ·
    exact pr_s h_1
  ·
    refine pr_b (x_X12_growth h_1 ) (fun σh4 h_2 => ?_)
    replace h_2 : kf σ0 σh4 := h_2
    refine pr_c (x_X12_wayAt h_2 ) (fun rh5 σh5 h_3 => ?_)
    replace h_3 : kf σ0 σh5 := h_3
    exact pr_s h_3
theorem x_X12_rise_J28 {n : Nat} {σh6 : ms_T} {v1_h6 : Int32} {v2_h6 : Int32} {v3_h6 : Int32} {v4_h6 : Int32} {σ0 : ms_T} (h0 : kf σ0 σh6)  : pr (f_X12_rise_J28 n σh6 v1_h6 v2_h6 v3_h6 v4_h6) (fun res => kf σ0 res.2) := by
  unfold f_X12_rise_J28
  exact x_X12_rise_J29 h0 
theorem x_X12_rise {n : Nat} {σ : ms_T} {a1 : Int32} {a2 : Int32} {a3 : Int32} {a4 : Int32} {σ0 : ms_T} (h0 : kf σ0 σ)  : pr (f_X12_rise n σ a1 a2 a3 a4) (fun res => kf σ0 res.2) := by
  unfold f_X12_rise
  refine pr_i (fun _ => ?_) (fun _ => ?_)
  ·
    exact x_X12_rise_J28 h0 
  ·
    refine pr_i (fun _ => ?_) (fun _ => ?_)
    ·
      exact x_X12_rise_J28 h0 
    ·
      refine pr_i (fun _ => ?_) (fun _ => ?_)
      ·
        exact x_X12_rise_J28 h0 
      ·
        refine pr_b pr_any (fun rh10 _ => ?_)
        refine pr_i (fun _ => ?_) (fun _ => ?_)
        ·
          exact x_X12_rise_J28 h0 
        ·
          exact x_X12_rise_J29 h0 
theorem x_X12_notes_J72 {n : Nat} {rec2 : ms_T → Int32 → Option ms_T} {σh6 : ms_T} {v1_h6 : Int32} {σ0 : ms_T} (h0 : kf σ0 σh6) (hrec2 : ∀ {y0 : ms_T} {y1 : Int32}, kf σ0 y0 → pr (rec2 y0 y1) (fun res => kf σ0 res)) : pr (f_X12_notes_J72 n rec2 σh6 v1_h6) (fun res => kf σ0 res) := by
  unfold f_X12_notes_J72
  refine pr_ln (fun x7 _ => ?_)
  exact hrec2 h0
theorem x_X12_notes_L2 {n : Nat} {σ0 : ms_T}  : ∀ (k2 : Nat) {σh1 : ms_T} {v1_h1 : Int32}, kf σ0 σh1 → pr (f_X12_notes_L2 n k2 σh1 v1_h1) (fun res => kf σ0 res) := by
  intro k2
  induction k2 with
  | zero => intro σh1 v1_h1 h0; rw [f_X12_notes_L2.eq_1]; exact pr_0
  | succ k2 ih =>
    intro σh1 v1_h1 h0
    rw [f_X12_notes_L2.eq_2]
    refine pr_i (fun _ => ?_) (fun _ => ?_)
    ·
      exact pr_s h0
    ·
      refine pr_g (fun _ _ => ?_)
      refine pr_g (fun _ _ => ?_)
      refine pr_b pr_any (fun rh5 _ => ?_)
      refine pr_i (fun _ => ?_) (fun _ => ?_)
      ·
        refine pr_g (fun _ _ => ?_)
        refine pr_g (fun _ _ => ?_)
        refine pr_ln (fun σh11 e1 => ?_)
        have h_1 : kf σ0 σh11 := by rw [e1]; exact kf_sE rfl h0
        refine pr_g (fun _ _ => ?_)
        refine pr_g (fun _ _ => ?_)
        refine pr_ln (fun σh14 e2 => ?_)
        have h_2 : kf σ0 σh14 := by rw [e2]; exact kf_sE rfl h_1
        refine pr_ln (fun σh15 e3 => ?_)
        have h_3 : kf σ0 σh15 := by rw [e3]; exact kf_sI rfl h_2
        exact x_X12_notes_J72 h_3 (fun h => ih h)
      ·
        exact x_X12_notes_J72 h0 (fun h => ih h)
theorem x_X12_notes {n : Nat} {σ : ms_T} {σ0 : ms_T} (h0 : kf σ0 σ)  : pr (f_X12_notes n σ) (fun res => kf σ0 res) := by
  unfold f_X12_notes
  exact x_X12_notes_L2  _ h0
theorem x_X12_kept_J92 {n : Nat} {rec55 : ms_T → Int32 → Int32 → Option (Int32 × ms_T)} {σh14 : ms_T} {v5_h14 : Int32} {w0_h14 : Int32} {w1_h14 : Int32} {σ0 : ms_T} (h0 : kf σ0 σh14) (hrec55 : ∀ {y0 : ms_T} {y1 : Int32} {y2 : Int32}, kf σ0 y0 → pr (rec55 y0 y1 y2) (fun res => kf σ0 res.2)) : pr (f_X12_kept_J92 n rec55 σh14 v5_h14 w0_h14 w1_h14) (fun res => kf σ0 res.2) := by
  unfold f_X12_kept_J92
  refine pr_ln (fun x15 _ => ?_)
  refine pr_ln (fun x16 _ => ?_)
  exact hrec55 h0
theorem x_X12_kept_L55 {n : Nat} {σ0 : ms_T}  : ∀ (k55 : Nat) {σh9 : ms_T} {v4_h9 : Int32} {v5_h9 : Int32}, kf σ0 σh9 → pr (f_X12_kept_L55 n k55 σh9 v4_h9 v5_h9) (fun res => kf σ0 res.2) := by
  intro k55
  induction k55 with
  | zero => intro σh9 v4_h9 v5_h9 h0; rw [f_X12_kept_L55.eq_1]; exact pr_0
  | succ k55 ih =>
    intro σh9 v4_h9 v5_h9 h0
    rw [f_X12_kept_L55.eq_2]
    refine pr_i (fun _ => ?_) (fun _ => ?_)
    ·
      exact pr_s h0
    ·
      refine pr_g (fun _ _ => ?_)
      refine pr_g (fun _ _ => ?_)
      refine pr_b pr_any (fun rh13 _ => ?_)
      refine pr_i (fun _ => ?_) (fun _ => ?_)
      ·
        exact x_X12_kept_J92 h0 (fun h => ih h)
      ·
        exact x_X12_kept_J92 h0 (fun h => ih h)
theorem x_X12_kept_J20 {n : Nat} {σh2 : ms_T} {v1_h2 : Int32} {v2_h2 : Int32} {v3_h2 : Int32} {w0_h2 : Int32} {σ0 : ms_T} (h0 : kf σ0 σh2)  : pr (f_X12_kept_J20 n σh2 v1_h2 v2_h2 v3_h2 w0_h2) (fun res => kf σ0 res.2) := by
  unfold f_X12_kept_J20
  refine pr_c (x_X12_is h0 ) (fun rh3 σh3 h_1 => ?_)
  replace h_1 : kf σ0 σh3 := h_1
  refine pr_i (fun _ => ?_) (fun _ => ?_)
  ·
    exact pr_s h_1
  ·
    refine pr_ln (fun σh5 e2 => ?_)
    have h_2 : kf σ0 σh5 := by rw [e2]; exact kf_sI rfl h_1
    refine pr_b (x_X12_inclusion h_2 ) (fun σh6 h_3 => ?_)
    replace h_3 : kf σ0 σh6 := h_3
    refine pr_b (x_X12_notes h_3 ) (fun σh7 h_4 => ?_)
    replace h_4 : kf σ0 σh7 := h_4
    refine pr_b (x_X12_inclusion h_4 ) (fun σh8 h_5 => ?_)
    replace h_5 : kf σ0 σh8 := h_5
    exact x_X12_kept_L55  _ h_5
theorem x_X12_kept_J19 {n : Nat} {σh18 : ms_T} {v1_h18 : Int32} {v2_h18 : Int32} {v3_h18 : Int32} {σ0 : ms_T} (h0 : kf σ0 σh18)  : pr (f_X12_kept_J19 n σh18 v1_h18 v2_h18 v3_h18) (fun res => kf σ0 res.2) := by
  unfold f_X12_kept_J19
  exact x_X12_kept_J20 h0 
theorem x_X12_kept {n : Nat} {σ : ms_T} {a1 : Int32} {a2 : Int32} {a3 : Int32} {σ0 : ms_T} (h0 : kf σ0 σ)  : pr (f_X12_kept n σ a1 a2 a3) (fun res => kf σ0 res.2) := by
  unfold f_X12_kept
  refine pr_b pr_any (fun rh1 _ => ?_)
  refine pr_i (fun _ => ?_) (fun _ => ?_)
  ·
    exact x_X12_kept_J19 h0 
  ·
    refine pr_i (fun _ => ?_) (fun _ => ?_)
    ·
      exact x_X12_kept_J19 h0 
    ·
      exact x_X12_kept_J20 h0 
theorem x_X12_chain_J82 {n : Nat} {rec56 : ms_T → Int32 → Int32 → Int32 → Int32 → Int32 → Int32 → Option (Int32 × ms_T)} {σh13 : ms_T} {v1_h13 : Int32} {v2_h13 : Int32} {v3_h13 : Int32} {v4_h13 : Int32} {v6_h13 : Int32} {σ0 : ms_T} (h0 : kf σ0 σh13) (hrec56 : ∀ {y0 : ms_T} {y1 : Int32} {y2 : Int32} {y3 : Int32} {y4 : Int32} {y5 : Int32} {y6 : Int32}, kf σ0 y0 → pr (rec56 y0 y1 y2 y3 y4 y5 y6) (fun res => kf σ0 res.2)) : pr (f_X12_chain_J82 n rec56 σh13 v1_h13 v2_h13 v3_h13 v4_h13 v6_h13) (fun res => kf σ0 res.2) := by
  unfold f_X12_chain_J82
  refine pr_ln (fun x14 _ => ?_)
  refine pr_b (x_X12_notes h0 ) (fun σh15 h_1 => ?_)
  replace h_1 : kf σ0 σh15 := h_1
  refine pr_b pr_any (fun rh16 _ => ?_)
  exact hrec56 h_1
theorem x_X12_chain_L56 {n : Nat} {σ0 : ms_T}  : ∀ (k56 : Nat) {σh7 : ms_T} {v1_h7 : Int32} {v2_h7 : Int32} {v3_h7 : Int32} {v4_h7 : Int32} {v5_h7 : Int32} {v6_h7 : Int32}, kf σ0 σh7 → pr (f_X12_chain_L56 n k56 σh7 v1_h7 v2_h7 v3_h7 v4_h7 v5_h7 v6_h7) (fun res => kf σ0 res.2) := by
  intro k56
  induction k56 with
  | zero => intro σh7 v1_h7 v2_h7 v3_h7 v4_h7 v5_h7 v6_h7 h0; rw [f_X12_chain_L56.eq_1]; exact pr_0
  | succ k56 ih =>
    intro σh7 v1_h7 v2_h7 v3_h7 v4_h7 v5_h7 v6_h7 h0
    rw [f_X12_chain_L56.eq_2]
    refine pr_i (fun _ => ?_) (fun _ => ?_)
    ·
      refine pr_i (fun _ => ?_) (fun _ => ?_)
      ·
        exact pr_s h0
      ·
        refine pr_i (fun _ => ?_) (fun _ => ?_)
        ·
          exact pr_s h0
        ·
          exact pr_s h0
    ·
      refine pr_ln (fun x11 _ => ?_)
      refine pr_ln (fun σh12 e1 => ?_)
      have h_1 : kf σ0 σh12 := by rw [e1]; exact kf_sI rfl h0
      refine pr_i (fun _ => ?_) (fun _ => ?_)
      ·
        exact x_X12_chain_J82 h_1 (fun h => ih h)
      ·
        refine pr_b (x_X12_growth h_1 ) (fun σh18 h_2 => ?_)
        replace h_2 : kf σ0 σh18 := h_2
        exact x_X12_chain_J82 h_2 (fun h => ih h)
theorem x_X12_chain_J27 {n : Nat} {σh2 : ms_T} {v1_h2 : Int32} {v2_h2 : Int32} {w0_h2 : Int32} {σ0 : ms_T} (h0 : kf σ0 σh2)  : pr (f_X12_chain_J27 n σh2 v1_h2 v2_h2 w0_h2) (fun res => kf σ0 res.2) := by
  unfold f_X12_chain_J27
  refine pr_c (x_X12_is h0 ) (fun rh3 σh3 h_1 => ?_)
  replace h_1 : kf σ0 σh3 := h_1
  refine pr_i (fun _ => ?_) (fun _ => ?_)
  ·
    exact pr_s h_1
  ·
    refine pr_ln (fun σh5 e2 => ?_)
    have h_2 : kf σ0 σh5 := by rw [e2]; exact kf_sI rfl h_1
    refine pr_b pr_any (fun rh6 _ => ?_)
    exact x_X12_chain_L56  _ h_2
theorem x_X12_chain {n : Nat} {σ : ms_T} {a1 : Int32} {a2 : Int32} {σ0 : ms_T} (h0 : kf σ0 σ)  : pr (f_X12_chain n σ a1 a2) (fun res => kf σ0 res.2) := by
  unfold f_X12_chain
  refine pr_b pr_any (fun rh1 _ => ?_)
  refine pr_i (fun _ => ?_) (fun _ => ?_)
  ·
    exact x_X12_chain_J27 h0 
  ·
    refine pr_b pr_any (fun rh20 _ => ?_)
    refine pr_i (fun _ => ?_) (fun _ => ?_)
    ·
      exact x_X12_chain_J27 h0 
    ·
      exact x_X12_chain_J27 h0 
theorem x_X12_split_J82 {n : Nat} {rec30 : ms_T → Int32 → Int32 → Int32 → Int32 → Option (Int32 × ms_T)} {rec42 : ms_T → Int32 → Int32 → Int32 → Int32 → Int32 → Option (Int32 × ms_T)} {σh14 : ms_T} {v1_h14 : Int32} {v2_h14 : Int32} {v3_h14 : Int32} {v4_h14 : Int32} {v5_h14 : Int32} {σ0 : ms_T} (h0 : kf σ0 σh14) (hrec30 : ∀ {y0 : ms_T} {y1 : Int32} {y2 : Int32} {y3 : Int32} {y4 : Int32}, kf σ0 y0 → pr (rec30 y0 y1 y2 y3 y4) (fun res => kf σ0 res.2)) (hrec42 : ∀ {y0 : ms_T} {y1 : Int32} {y2 : Int32} {y3 : Int32} {y4 : Int32} {y5 : Int32}, kf σ0 y0 → pr (rec42 y0 y1 y2 y3 y4 y5) (fun res => kf σ0 res.2)) : pr (f_X12_split_J82 n rec30 rec42 σh14 v1_h14 v2_h14 v3_h14 v4_h14 v5_h14) (fun res => kf σ0 res.2) := by
  unfold f_X12_split_J82
  refine pr_ln (fun x15 _ => ?_)
  exact hrec42 h0
theorem x_X12_split_J81 {n : Nat} {rec30 : ms_T → Int32 → Int32 → Int32 → Int32 → Option (Int32 × ms_T)} {rec42 : ms_T → Int32 → Int32 → Int32 → Int32 → Int32 → Option (Int32 × ms_T)} {σh18 : ms_T} {v1_h18 : Int32} {v2_h18 : Int32} {v4_h18 : Int32} {v5_h18 : Int32} {w0_h18 : Int32} {σ0 : ms_T} (h0 : kf σ0 σh18) (hrec30 : ∀ {y0 : ms_T} {y1 : Int32} {y2 : Int32} {y3 : Int32} {y4 : Int32}, kf σ0 y0 → pr (rec30 y0 y1 y2 y3 y4) (fun res => kf σ0 res.2)) (hrec42 : ∀ {y0 : ms_T} {y1 : Int32} {y2 : Int32} {y3 : Int32} {y4 : Int32} {y5 : Int32}, kf σ0 y0 → pr (rec42 y0 y1 y2 y3 y4 y5) (fun res => kf σ0 res.2)) : pr (f_X12_split_J81 n rec30 rec42 σh18 v1_h18 v2_h18 v4_h18 v5_h18 w0_h18) (fun res => kf σ0 res.2) := by
  unfold f_X12_split_J81
  exact x_X12_split_J82 h0 (fun h => hrec30 h) (fun h => hrec42 h)
theorem x_X12_split_L42 {n : Nat} {rec30 : ms_T → Int32 → Int32 → Int32 → Int32 → Option (Int32 × ms_T)} {σ0 : ms_T} (hrec30 : ∀ {y0 : ms_T} {y1 : Int32} {y2 : Int32} {y3 : Int32} {y4 : Int32}, kf σ0 y0 → pr (rec30 y0 y1 y2 y3 y4) (fun res => kf σ0 res.2)) : ∀ (k42 : Nat) {σh10 : ms_T} {v1_h10 : Int32} {v2_h10 : Int32} {v3_h10 : Int32} {v4_h10 : Int32} {v5_h10 : Int32}, kf σ0 σh10 → pr (f_X12_split_L42 n rec30 k42 σh10 v1_h10 v2_h10 v3_h10 v4_h10 v5_h10) (fun res => kf σ0 res.2) := by
  intro k42
  induction k42 with
  | zero => intro σh10 v1_h10 v2_h10 v3_h10 v4_h10 v5_h10 h0; rw [f_X12_split_L42.eq_1]; exact pr_0
  | succ k42 ih =>
    intro σh10 v1_h10 v2_h10 v3_h10 v4_h10 v5_h10 h0
    rw [f_X12_split_L42.eq_2]
    refine pr_i (fun _ => ?_) (fun _ => ?_)
    ·
      refine pr_ln (fun x12 _ => ?_)
      exact hrec30 h0
    ·
      refine pr_b pr_any (fun rh13 _ => ?_)
      refine pr_i (fun _ => ?_) (fun _ => ?_)
      ·
        refine pr_ln (fun x17 _ => ?_)
        refine pr_i (fun _ => ?_) (fun _ => ?_)
        ·
          exact x_X12_split_J81 h0 (fun h => hrec30 h) (fun h => ih h)
        ·
          exact x_X12_split_J81 h0 (fun h => hrec30 h) (fun h => ih h)
      ·
        exact x_X12_split_J82 h0 (fun h => hrec30 h) (fun h => ih h)
theorem x_X12_split_L30 {n : Nat} {σ0 : ms_T}  : ∀ (k30 : Nat) {σh5 : ms_T} {v1_h5 : Int32} {v2_h5 : Int32} {v3_h5 : Int32} {v4_h5 : Int32}, kf σ0 σh5 → pr (f_X12_split_L30 n k30 σh5 v1_h5 v2_h5 v3_h5 v4_h5) (fun res => kf σ0 res.2) := by
  intro k30
  induction k30 with
  | zero => intro σh5 v1_h5 v2_h5 v3_h5 v4_h5 h0; rw [f_X12_split_L30.eq_1]; exact pr_0
  | succ k30 ih =>
    intro σh5 v1_h5 v2_h5 v3_h5 v4_h5 h0
    rw [f_X12_split_L30.eq_2]
    refine pr_i (fun _ => ?_) (fun _ => ?_)
    ·
      refine pr_i (fun _ => ?_) (fun _ => ?_)
      ·
        exact pr_s h0
      ·
        refine pr_i (fun _ => ?_) (fun _ => ?_)
        ·
          exact pr_s h0
        ·
          refine pr_c (x_X12_refuse h0 ) (fun rh9 σh9 h_1 => ?_)
          replace h_1 : kf σ0 σh9 := h_1
          exact pr_s h_1
    ·
      refine pr_ln (fun x20 _ => ?_)
      exact x_X12_split_L42 (fun h => ih h) _ h0
theorem x_X12_split_J15 {n : Nat} {σh2 : ms_T} {v1_h2 : Int32} {w0_h2 : Int32} {σ0 : ms_T} (h0 : kf σ0 σh2)  : pr (f_X12_split_J15 n σh2 v1_h2 w0_h2) (fun res => kf σ0 res.2) := by
  unfold f_X12_split_J15
  refine pr_c (x_X12_is h0 ) (fun rh3 σh3 h_1 => ?_)
  replace h_1 : kf σ0 σh3 := h_1
  refine pr_i (fun _ => ?_) (fun _ => ?_)
  ·
    exact pr_s h_1
  ·
    exact x_X12_split_L30  _ h_1
theorem x_X12_split {n : Nat} {σ : ms_T} {a1 : Int32} {σ0 : ms_T} (h0 : kf σ0 σ)  : pr (f_X12_split n σ a1) (fun res => kf σ0 res.2) := by
  unfold f_X12_split
  refine pr_b pr_any (fun rh1 _ => ?_)
  refine pr_i (fun _ => ?_) (fun _ => ?_)
  ·
    exact x_X12_split_J15 h0 
  ·
    exact x_X12_split_J15 h0 
theorem x_X12_out_J22 {n : Nat} {σh1 : ms_T} {v1_h1 : Int32} {w0_h1 : Int32} {σ0 : ms_T} (h0 : kf σ0 σh1)  : pr (f_X12_out_J22 n σh1 v1_h1 w0_h1) (fun res => kf σ0 res.2) := by
  unfold f_X12_out_J22
  refine pr_c (x_X12_is h0 ) (fun rh2 σh2 h_1 => ?_)
  replace h_1 : kf σ0 σh2 := h_1
  refine pr_i (fun _ => ?_) (fun _ => ?_)
  ·
    exact pr_s h_1
  ·
    refine pr_g (fun _ _ => ?_)
    exact pr_s h_1
theorem x_X12_out {n : Nat} {σ : ms_T} {a1 : Int32} {σ0 : ms_T} (h0 : kf σ0 σ)  : pr (f_X12_out n σ a1) (fun res => kf σ0 res.2) := by
  unfold f_X12_out
  refine pr_i (fun _ => ?_) (fun _ => ?_)
  ·
    refine pr_i (fun _ => ?_) (fun _ => ?_)
    ·
      exact x_X12_out_J22 h0 
    ·
      exact x_X12_out_J22 h0 
  ·
    exact x_X12_out_J22 h0 
theorem x_X12_trusted_J65 {n : Nat} {rec31 : ms_T → Int32 → Int32 → Int32 → Int32 → Option (Int32 × ms_T)} {σh7 : ms_T} {v1_h7 : Int32} {v2_h7 : Int32} {v4_h7 : Int32} {w0_h7 : Int32} {w1_h7 : Int32} {σ0 : ms_T} (h0 : kf σ0 σh7) (hrec31 : ∀ {y0 : ms_T} {y1 : Int32} {y2 : Int32} {y3 : Int32} {y4 : Int32}, kf σ0 y0 → pr (rec31 y0 y1 y2 y3 y4) (fun res => kf σ0 res.2)) : pr (f_X12_trusted_J65 n rec31 σh7 v1_h7 v2_h7 v4_h7 w0_h7 w1_h7) (fun res => kf σ0 res.2) := by
  unfold f_X12_trusted_J65
  refine pr_ln (fun x8 _ => ?_)
  refine pr_ln (fun x9 _ => ?_)
  exact hrec31 h0
theorem x_X12_trusted_J64 {n : Nat} {rec31 : ms_T → Int32 → Int32 → Int32 → Int32 → Option (Int32 × ms_T)} {σh10 : ms_T} {v1_h10 : Int32} {v2_h10 : Int32} {v4_h10 : Int32} {w0_h10 : Int32} {σ0 : ms_T} (h0 : kf σ0 σh10) (hrec31 : ∀ {y0 : ms_T} {y1 : Int32} {y2 : Int32} {y3 : Int32} {y4 : Int32}, kf σ0 y0 → pr (rec31 y0 y1 y2 y3 y4) (fun res => kf σ0 res.2)) : pr (f_X12_trusted_J64 n rec31 σh10 v1_h10 v2_h10 v4_h10 w0_h10) (fun res => kf σ0 res.2) := by
  unfold f_X12_trusted_J64
  exact x_X12_trusted_J65 h0 (fun h => hrec31 h)
theorem x_X12_trusted_L31 {n : Nat} {σ0 : ms_T}  : ∀ (k31 : Nat) {σh4 : ms_T} {v1_h4 : Int32} {v2_h4 : Int32} {v3_h4 : Int32} {v4_h4 : Int32}, kf σ0 σh4 → pr (f_X12_trusted_L31 n k31 σh4 v1_h4 v2_h4 v3_h4 v4_h4) (fun res => kf σ0 res.2) := by
  intro k31
  induction k31 with
  | zero => intro σh4 v1_h4 v2_h4 v3_h4 v4_h4 h0; rw [f_X12_trusted_L31.eq_1]; exact pr_0
  | succ k31 ih =>
    intro σh4 v1_h4 v2_h4 v3_h4 v4_h4 h0
    rw [f_X12_trusted_L31.eq_2]
    refine pr_i (fun _ => ?_) (fun _ => ?_)
    ·
      exact pr_s h0
    ·
      refine pr_b pr_any (fun rh6 _ => ?_)
      refine pr_i (fun _ => ?_) (fun _ => ?_)
      ·
        refine pr_b pr_any (fun rh12 _ => ?_)
        refine pr_i (fun _ => ?_) (fun _ => ?_)
        ·
          exact x_X12_trusted_J65 h0 (fun h => ih h)
        ·
          exact x_X12_trusted_J64 h0 (fun h => ih h)
      ·
        exact x_X12_trusted_J64 h0 (fun h => ih h)
theorem x_X12_trusted_J18 {n : Nat} {σh1 : ms_T} {v1_h1 : Int32} {v2_h1 : Int32} {w0_h1 : Int32} {σ0 : ms_T} (h0 : kf σ0 σh1)  : pr (f_X12_trusted_J18 n σh1 v1_h1 v2_h1 w0_h1) (fun res => kf σ0 res.2) := by
  unfold f_X12_trusted_J18
  refine pr_c (x_X12_is h0 ) (fun rh2 σh2 h_1 => ?_)
  replace h_1 : kf σ0 σh2 := h_1
  refine pr_i (fun _ => ?_) (fun _ => ?_)
  ·
    exact pr_s h_1
  ·
    exact x_X12_trusted_L31  _ h_1
theorem x_X12_trusted_J13 {n : Nat} {σh14 : ms_T} {v1_h14 : Int32} {v2_h14 : Int32} {σ0 : ms_T} (h0 : kf σ0 σh14)  : pr (f_X12_trusted_J13 n σh14 v1_h14 v2_h14) (fun res => kf σ0 res.2) := by
  unfold f_X12_trusted_J13
  exact x_X12_trusted_J18 h0 
theorem x_X12_trusted {n : Nat} {σ : ms_T} {a1 : Int32} {a2 : Int32} {σ0 : ms_T} (h0 : kf σ0 σ)  : pr (f_X12_trusted n σ a1 a2) (fun res => kf σ0 res.2) := by
  unfold f_X12_trusted
  refine pr_i (fun _ => ?_) (fun _ => ?_)
  ·
    exact x_X12_trusted_J13 h0 
  ·
    refine pr_b pr_any (fun rh16 _ => ?_)
    refine pr_i (fun _ => ?_) (fun _ => ?_)
    ·
      exact x_X12_trusted_J13 h0 
    ·
      exact x_X12_trusted_J18 h0 
theorem x_X12_saves_J64 {n : Nat} {rec31 : ms_T → Int32 → Int32 → Int32 → Int32 → Option (Int32 × ms_T)} {σh7 : ms_T} {v1_h7 : Int32} {v2_h7 : Int32} {v3_h7 : Int32} {v4_h7 : Int32} {σ0 : ms_T} (h0 : kf σ0 σh7) (hrec31 : ∀ {y0 : ms_T} {y1 : Int32} {y2 : Int32} {y3 : Int32} {y4 : Int32}, kf σ0 y0 → pr (rec31 y0 y1 y2 y3 y4) (fun res => kf σ0 res.2)) : pr (f_X12_saves_J64 n rec31 σh7 v1_h7 v2_h7 v3_h7 v4_h7) (fun res => kf σ0 res.2) := by
  unfold f_X12_saves_J64
  refine pr_ln (fun x8 _ => ?_)
  exact hrec31 h0
theorem x_X12_saves_L31 {n : Nat} {σ0 : ms_T}  : ∀ (k31 : Nat) {σh4 : ms_T} {v1_h4 : Int32} {v2_h4 : Int32} {v3_h4 : Int32} {v4_h4 : Int32}, kf σ0 σh4 → pr (f_X12_saves_L31 n k31 σh4 v1_h4 v2_h4 v3_h4 v4_h4) (fun res => kf σ0 res.2) := by
  intro k31
  induction k31 with
  | zero => intro σh4 v1_h4 v2_h4 v3_h4 v4_h4 h0; rw [f_X12_saves_L31.eq_1]; exact pr_0
  | succ k31 ih =>
    intro σh4 v1_h4 v2_h4 v3_h4 v4_h4 h0
    rw [f_X12_saves_L31.eq_2]
    refine pr_i (fun _ => ?_) (fun _ => ?_)
    ·
      refine pr_b (x_X12_bundleOf h0 ) (fun σh6 h_1 => ?_)
      replace h_1 : kf σ0 σh6 := h_1
      exact pr_s h_1
    ·
      refine pr_i (fun _ => ?_) (fun _ => ?_)
      ·
        exact x_X12_saves_J64 h0 (fun h => ih h)
      ·
        refine pr_b (x_X12_inclusion h0 ) (fun σh10 h_2 => ?_)
        replace h_2 : kf σ0 σh10 := h_2
        refine pr_ln (fun x11 _ => ?_)
        exact x_X12_saves_J64 h_2 (fun h => ih h)
theorem x_X12_saves_J18 {n : Nat} {σh1 : ms_T} {v1_h1 : Int32} {v2_h1 : Int32} {w0_h1 : Int32} {σ0 : ms_T} (h0 : kf σ0 σh1)  : pr (f_X12_saves_J18 n σh1 v1_h1 v2_h1 w0_h1) (fun res => kf σ0 res.2) := by
  unfold f_X12_saves_J18
  refine pr_c (x_X12_is h0 ) (fun rh2 σh2 h_1 => ?_)
  replace h_1 : kf σ0 σh2 := h_1
  refine pr_i (fun _ => ?_) (fun _ => ?_)
  ·
    exact pr_s h_1
  ·
    exact x_X12_saves_L31  _ h_1
theorem x_X12_saves_J13 {n : Nat} {σh12 : ms_T} {v1_h12 : Int32} {v2_h12 : Int32} {σ0 : ms_T} (h0 : kf σ0 σh12)  : pr (f_X12_saves_J13 n σh12 v1_h12 v2_h12) (fun res => kf σ0 res.2) := by
  unfold f_X12_saves_J13
  exact x_X12_saves_J18 h0 
theorem x_X12_saves {n : Nat} {σ : ms_T} {a1 : Int32} {a2 : Int32} {σ0 : ms_T} (h0 : kf σ0 σ)  : pr (f_X12_saves n σ a1 a2) (fun res => kf σ0 res.2) := by
  unfold f_X12_saves
  refine pr_i (fun _ => ?_) (fun _ => ?_)
  ·
    exact x_X12_saves_J13 h0 
  ·
    refine pr_b pr_any (fun rh14 _ => ?_)
    refine pr_i (fun _ => ?_) (fun _ => ?_)
    ·
      exact x_X12_saves_J18 h0 
    ·
      exact x_X12_saves_J13 h0 
theorem x_X12_who_J62 {n : Nat} {rec31 : ms_T → Int32 → Int32 → Int32 → Int32 → Option (Int32 × ms_T)} {σh8 : ms_T} {v1_h8 : Int32} {v2_h8 : Int32} {v4_h8 : Int32} {w0_h8 : Int32} {w1_h8 : Int32} {σ0 : ms_T} (h0 : kf σ0 σh8) (hrec31 : ∀ {y0 : ms_T} {y1 : Int32} {y2 : Int32} {y3 : Int32} {y4 : Int32}, kf σ0 y0 → pr (rec31 y0 y1 y2 y3 y4) (fun res => kf σ0 res.2)) : pr (f_X12_who_J62 n rec31 σh8 v1_h8 v2_h8 v4_h8 w0_h8 w1_h8) (fun res => kf σ0 res.2) := by
  unfold f_X12_who_J62
  refine pr_ln (fun x9 _ => ?_)
  refine pr_ln (fun x10 _ => ?_)
  exact hrec31 h0
theorem x_X12_who_L31 {n : Nat} {σ0 : ms_T}  : ∀ (k31 : Nat) {σh4 : ms_T} {v1_h4 : Int32} {v2_h4 : Int32} {v3_h4 : Int32} {v4_h4 : Int32}, kf σ0 σh4 → pr (f_X12_who_L31 n k31 σh4 v1_h4 v2_h4 v3_h4 v4_h4) (fun res => kf σ0 res.2) := by
  intro k31
  induction k31 with
  | zero => intro σh4 v1_h4 v2_h4 v3_h4 v4_h4 h0; rw [f_X12_who_L31.eq_1]; exact pr_0
  | succ k31 ih =>
    intro σh4 v1_h4 v2_h4 v3_h4 v4_h4 h0
    rw [f_X12_who_L31.eq_2]
    refine pr_g (fun _ _ => ?_)
    refine pr_i (fun _ => ?_) (fun _ => ?_)
    ·
      exact pr_s h0
    ·
      refine pr_b pr_any (fun rh7 _ => ?_)
      refine pr_i (fun _ => ?_) (fun _ => ?_)
      ·
        exact x_X12_who_J62 h0 (fun h => ih h)
      ·
        exact x_X12_who_J62 h0 (fun h => ih h)
theorem x_X12_who_J18 {n : Nat} {σh1 : ms_T} {v1_h1 : Int32} {v2_h1 : Int32} {w0_h1 : Int32} {σ0 : ms_T} (h0 : kf σ0 σh1)  : pr (f_X12_who_J18 n σh1 v1_h1 v2_h1 w0_h1) (fun res => kf σ0 res.2) := by
  unfold f_X12_who_J18
  refine pr_c (x_X12_is h0 ) (fun rh2 σh2 h_1 => ?_)
  replace h_1 : kf σ0 σh2 := h_1
  refine pr_i (fun _ => ?_) (fun _ => ?_)
  ·
    exact pr_s h_1
  ·
    exact x_X12_who_L31  _ h_1
theorem x_X12_who_J13 {n : Nat} {σh12 : ms_T} {v1_h12 : Int32} {v2_h12 : Int32} {σ0 : ms_T} (h0 : kf σ0 σh12)  : pr (f_X12_who_J13 n σh12 v1_h12 v2_h12) (fun res => kf σ0 res.2) := by
  unfold f_X12_who_J13
  exact x_X12_who_J18 h0 
theorem x_X12_who {n : Nat} {σ : ms_T} {a1 : Int32} {a2 : Int32} {σ0 : ms_T} (h0 : kf σ0 σ)  : pr (f_X12_who n σ a1 a2) (fun res => kf σ0 res.2) := by
  unfold f_X12_who
  refine pr_i (fun _ => ?_) (fun _ => ?_)
  ·
    exact x_X12_who_J13 h0 
  ·
    refine pr_b pr_any (fun rh14 _ => ?_)
    refine pr_i (fun _ => ?_) (fun _ => ?_)
    ·
      exact x_X12_who_J13 h0 
    ·
      exact x_X12_who_J18 h0 
