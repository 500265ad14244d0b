set_option maxRecDepth 100000
/-! ===== what the reference's calls leave: cells, the tape's bytes, the word typed ===== -/
def kq (σ τ : ms_T) : Prop := (∀ φ, (φ == 664) = true → ms_I τ φ = ms_I σ φ) ∧ (∀ κ, (κ == 40 || κ == 45 || κ == 47) = true → ∀ j, ms_E τ κ j = ms_E σ κ j)
theorem kq_rf {σ : ms_T} : kq σ σ := ⟨fun _ _ => rfl, fun _ _ _ => rfl⟩
theorem kq_sI {σ0 σ : ms_T} {φ : Nat} {v : Int32} (hφ : (φ == 664) = false) (h : kq σ0 σ) : kq σ0 (ms_sI σ φ v) := by
  refine ⟨fun ψ hψ => ?_, h.2⟩
  rw [mI_sI, if_neg (fun e => by rw [e, hφ] at hψ; cases hψ)]
  exact h.1 ψ hψ
theorem kq_sE {σ0 σ : ms_T} {κ i : Nat} {v : Int32} (hκ : (κ == 40 || κ == 45 || κ == 47) = false) (h : kq σ0 σ) : kq σ0 (ms_sE σ κ i v) := by
  refine ⟨h.1, fun ψ hψ j => ?_⟩
  rw [mE_sE, if_neg (fun e => by rw [e.1, hκ] at hψ; cases hψ)]
  exact h.2 ψ hψ j
theorem pr_any {R : Type} {o : Option R} : pr o (fun _ => True) := fun _ _ => trivial
theorem z_X12_status {n : Nat} {σ : ms_T} {σ0 : ms_T} (h0 : kq σ0 σ)  : pr (f_X12_status n σ) (fun res => kq σ0 res.2) := by
  unfold f_X12_status
  refine pr_ln (fun σh1 e1 => ?_)
  have h_1 : kq σ0 σh1 := by rw [e1]; exact kq_sI rfl h0
  exact pr_s h_1
theorem z_X12_refuse {n : Nat} {σ : ms_T} {a1 : Int32} {σ0 : ms_T} (h0 : kq σ0 σ)  : pr (f_X12_refuse n σ a1) (fun res => kq σ0 res.2) := by
  unfold f_X12_refuse
  refine pr_ln (fun σh1 e1 => ?_)
  have h_1 : kq σ0 σh1 := by rw [e1]; exact kq_sI rfl h0
  exact pr_s h_1
theorem z_X12_is {n : Nat} {σ : ms_T} {a1 : Int32} {σ0 : ms_T} (h0 : kq σ0 σ)  : pr (f_X12_is n σ a1) (fun res => kq σ0 res.2) := by
  unfold f_X12_is
  refine pr_ln (fun σh1 e1 => ?_)
  have h_1 : kq σ0 σh1 := by rw [e1]; exact kq_sI rfl h0
  refine pr_ln (fun σh2 e2 => ?_)
  have h_2 : kq σ0 σh2 := by rw [e2]; exact kq_sI rfl h_1
  refine pr_i (fun _ => ?_) (fun _ => ?_)
  ·
    exact pr_s h_2
  ·
    exact pr_s h_2
theorem z_X12_asks {n : Nat} {σ : ms_T} {a1 : Int32} {a2 : Int32} {σ0 : ms_T} (h0 : kq σ0 σ)  : pr (f_X12_asks n σ a1 a2) (fun res => kq σ0 res) := by
  unfold f_X12_asks
  refine pr_g (fun _ _ => ?_)
  refine pr_ln (fun σh2 e1 => ?_)
  have h_1 : kq σ0 σh2 := by rw [e1]; exact kq_sE rfl h0
  refine pr_g (fun _ _ => ?_)
  refine pr_ln (fun σh4 e2 => ?_)
  have h_2 : kq σ0 σh4 := by rw [e2]; exact kq_sE rfl h_1
  refine pr_ln (fun σh5 e3 => ?_)
  have h_3 : kq σ0 σh5 := by rw [e3]; exact kq_sI rfl h_2
  exact pr_s h_3
theorem z_X12_waysIn {n : Nat} {σ0 : ms_T}  : ∀ (d : Nat) {σ : ms_T} {a1 : Int32} {a2 : Int32} {a3 : Int32}, kq σ0 σ → pr (f_X12_waysIn n d σ a1 a2 a3) (fun res => kq σ0 res) := by
  intro d
  induction d with
  | zero => intro σ a1 a2 a3 h0; rw [f_X12_waysIn.eq_1]; exact pr_0
  | succ d ih =>
    intro σ a1 a2 a3 h0
    rw [f_X12_waysIn.eq_2]
    refine pr_i (fun _ => ?_) (fun _ => ?_)
    ·
      exact pr_s h0
    ·
      refine pr_b pr_any (fun rh2 _ => ?_)
      refine pr_i (fun _ => ?_) (fun _ => ?_)
      ·
        refine pr_b (ih h0) (fun σh4 h_1 => ?_)
        replace h_1 : kq σ0 σh4 := h_1
        refine pr_b (z_X12_asks h_1 ) (fun σh5 h_2 => ?_)
        replace h_2 : kq σ0 σh5 := h_2
        exact pr_s h_2
      ·
        refine pr_b (ih h0) (fun σh6 h_3 => ?_)
        replace h_3 : kq σ0 σh6 := h_3
        refine pr_b (z_X12_asks h_3 ) (fun σh7 h_4 => ?_)
        replace h_4 : kq σ0 σh7 := h_4
        exact pr_s h_4
theorem z_X12_inclusion {n : Nat} {σ : ms_T} {a1 : Int32} {a2 : Int32} {σ0 : ms_T} (h0 : kq σ0 σ)  : pr (f_X12_inclusion n σ a1 a2) (fun res => kq σ0 res) := by
  unfold f_X12_inclusion
  refine pr_ln (fun σh1 e1 => ?_)
  have h_1 : kq σ0 σh1 := by rw [e1]; exact kq_sI rfl h0
  refine pr_b (z_X12_waysIn  _ h_1) (fun σh2 h_2 => ?_)
  replace h_2 : kq σ0 σh2 := h_2
  exact pr_s h_2
theorem z_X12_growsIn {n : Nat} {σ0 : ms_T}  : ∀ (d : Nat) {σ : ms_T} {a1 : Int32} {a2 : Int32} {a3 : Int32} {a4 : Int32}, kq σ0 σ → pr (f_X12_growsIn n d σ a1 a2 a3 a4) (fun res => kq σ0 res) := by
  intro d
  induction d with
  | zero => intro σ a1 a2 a3 a4 h0; rw [f_X12_growsIn.eq_1]; exact pr_0
  | succ d ih =>
    intro σ a1 a2 a3 a4 h0
    rw [f_X12_growsIn.eq_2]
    refine pr_i (fun _ => ?_) (fun _ => ?_)
    ·
      refine pr_i (fun _ => ?_) (fun _ => ?_)
      ·
        refine pr_b (z_X12_asks h0 ) (fun σh9 h_1 => ?_)
        replace h_1 : kq σ0 σh9 := h_1
        exact pr_s h_1
      ·
        exact pr_s h0
    ·
      refine pr_b pr_any (fun rh2 _ => ?_)
      refine pr_i (fun _ => ?_) (fun _ => ?_)
      ·
        refine pr_b (ih h0) (fun σh4 h_2 => ?_)
        replace h_2 : kq σ0 σh4 := h_2
        refine pr_b (z_X12_asks h_2 ) (fun σh5 h_3 => ?_)
        replace h_3 : kq σ0 σh5 := h_3
        exact pr_s h_3
      ·
        refine pr_b (ih h0) (fun σh6 h_4 => ?_)
        replace h_4 : kq σ0 σh6 := h_4
        refine pr_b (z_X12_asks h_4 ) (fun σh7 h_5 => ?_)
        replace h_5 : kq σ0 σh7 := h_5
        exact pr_s h_5
theorem z_X12_growth {n : Nat} {σ : ms_T} {a1 : Int32} {a2 : Int32} {σ0 : ms_T} (h0 : kq σ0 σ)  : pr (f_X12_growth n σ a1 a2) (fun res => kq σ0 res) := by
  unfold f_X12_growth
  refine pr_ln (fun σh1 e1 => ?_)
  have h_1 : kq σ0 σh1 := by rw [e1]; exact kq_sI rfl h0
  refine pr_i (fun _ => ?_) (fun _ => ?_)
  ·
    exact pr_s h_1
  ·
    refine pr_i (fun _ => ?_) (fun _ => ?_)
    ·
      exact pr_s h_1
    ·
      refine pr_b (z_X12_growsIn  _ h_1) (fun σh4 h_2 => ?_)
      replace h_2 : kq σ0 σh4 := h_2
      exact pr_s h_2
theorem z_X12_bundlesIn {n : Nat} {σ0 : ms_T}  : ∀ (d : Nat) {σ : ms_T} {a1 : Int32} {a2 : Int32} {a3 : Int32}, kq σ0 σ → pr (f_X12_bundlesIn n d σ a1 a2 a3) (fun res => kq σ0 res) := by
  intro d
  induction d with
  | zero => intro σ a1 a2 a3 h0; rw [f_X12_bundlesIn.eq_1]; exact pr_0
  | succ d ih =>
    intro σ a1 a2 a3 h0
    rw [f_X12_bundlesIn.eq_2]
    refine pr_b pr_any (fun rh1 _ => ?_)
    refine pr_i (fun _ => ?_) (fun _ => ?_)
    ·
      refine pr_b (z_X12_asks h0 ) (fun σh7 h_1 => ?_)
      replace h_1 : kq σ0 σh7 := h_1
      exact pr_s h_1
    ·
      refine pr_i (fun _ => ?_) (fun _ => ?_)
      ·
        exact pr_s h0
      ·
        refine pr_b pr_any (fun rh4 _ => ?_)
        refine pr_b (ih h0) (fun σh5 h_2 => ?_)
        replace h_2 : kq σ0 σh5 := h_2
        refine pr_b (ih h_2) (fun σh6 h_3 => ?_)
        replace h_3 : kq σ0 σh6 := h_3
        exact pr_s h_3
theorem z_X12_bundleOf {n : Nat} {σ : ms_T} {a1 : Int32} {a2 : Int32} {σ0 : ms_T} (h0 : kq σ0 σ)  : pr (f_X12_bundleOf n σ a1 a2) (fun res => kq σ0 res) := by
  unfold f_X12_bundleOf
  refine pr_ln (fun σh1 e1 => ?_)
  have h_1 : kq σ0 σh1 := by rw [e1]; exact kq_sI rfl h0
  refine pr_b (z_X12_bundlesIn  _ h_1) (fun σh2 h_2 => ?_)
  replace h_2 : kq σ0 σh2 := h_2
  exact pr_s h_2
theorem z_X12_peaksOf_J35 {n : Nat} {rec10 : ms_T → Int32 → Int32 → Int32 → Option ms_T} {σh5 : ms_T} {v1_h5 : Int32} {v2_h5 : Int32} {v3_h5 : Int32} {σ0 : ms_T} (h0 : kq σ0 σh5) (hrec10 : ∀ {y0 : ms_T} {y1 : Int32} {y2 : Int32} {y3 : Int32}, kq σ0 y0 → pr (rec10 y0 y1 y2 y3) (fun res => kq σ0 res)) : pr (f_X12_peaksOf_J35 n rec10 σh5 v1_h5 v2_h5 v3_h5) (fun res => kq σ0 res) := by
  unfold f_X12_peaksOf_J35
  refine pr_ln (fun x6 _ => ?_)
  exact hrec10 h0
theorem z_X12_peaksOf_L10 {n : Nat} {σ0 : ms_T}  : ∀ (k10 : Nat) {σh2 : ms_T} {v1_h2 : Int32} {v2_h2 : Int32} {v3_h2 : Int32}, kq σ0 σh2 → pr (f_X12_peaksOf_L10 n k10 σh2 v1_h2 v2_h2 v3_h2) (fun res => kq σ0 res) := by
  intro k10
  induction k10 with
  | zero => intro σh2 v1_h2 v2_h2 v3_h2 h0; rw [f_X12_peaksOf_L10.eq_1]; exact pr_0
  | succ k10 ih =>
    intro σh2 v1_h2 v2_h2 v3_h2 h0
    rw [f_X12_peaksOf_L10.eq_2]
    refine pr_i (fun _ => ?_) (fun _ => ?_)
    ·
      exact pr_s h0
    ·
      refine pr_n (fun _ => ?_)
      refine pr_i (fun _ => ?_) (fun _ => ?_)
      ·
        exact z_X12_peaksOf_J35 h0 (fun h => ih h)
      ·
        refine pr_b (z_X12_asks h0 ) (fun σh8 h_1 => ?_)
        replace h_1 : kq σ0 σh8 := h_1
        refine pr_ln (fun x9 _ => ?_)
        exact z_X12_peaksOf_J35 h_1 (fun h => ih h)
theorem z_X12_peaksOf {n : Nat} {σ : ms_T} {a1 : Int32} {σ0 : ms_T} (h0 : kq σ0 σ)  : pr (f_X12_peaksOf n σ a1) (fun res => kq σ0 res) := by
  unfold f_X12_peaksOf
  refine pr_ln (fun σh1 e1 => ?_)
  have h_1 : kq σ0 σh1 := by rw [e1]; exact kq_sI rfl h0
  exact z_X12_peaksOf_L10  _ h_1
theorem z_X12_fetches_L2 {n : Nat} {σ0 : ms_T}  : ∀ (k2 : Nat) {σh1 : ms_T} {v1_h1 : Int32} {v2_h1 : Int32}, kq σ0 σh1 → pr (f_X12_fetches_L2 n k2 σh1 v1_h1 v2_h1) (fun res => kq σ0 res) := by
  intro k2
  induction k2 with
  | zero => intro σh1 v1_h1 v2_h1 h0; rw [f_X12_fetches_L2.eq_1]; exact pr_0
  | succ k2 ih =>
    intro σh1 v1_h1 v2_h1 h0
    rw [f_X12_fetches_L2.eq_2]
    refine pr_i (fun _ => ?_) (fun _ => ?_)
    ·
      exact pr_s h0
    ·
      refine pr_g (fun _ _ => ?_)
      refine pr_g (fun _ _ => ?_)
      refine pr_b pr_any (fun rh5 _ => ?_)
      refine pr_g (fun _ _ => ?_)
      refine pr_ln (fun σh7 e1 => ?_)
      have h_1 : kq σ0 σh7 := by rw [e1]; exact kq_sE rfl h0
      refine pr_ln (fun x8 _ => ?_)
      exact ih h_1
theorem z_X12_fetches {n : Nat} {σ : ms_T} {a1 : Int32} {σ0 : ms_T} (h0 : kq σ0 σ)  : pr (f_X12_fetches n σ a1) (fun res => kq σ0 res) := by
  unfold f_X12_fetches
  exact z_X12_fetches_L2  _ h0
theorem z_X12_fromPad_L2 {n : Nat} {σ0 : ms_T}  : ∀ (k2 : Nat) {σh1 : ms_T} {v1_h1 : Int32}, kq σ0 σh1 → pr (f_X12_fromPad_L2 n k2 σh1 v1_h1) (fun res => kq σ0 res.2) := by
  intro k2
  induction k2 with
  | zero => intro σh1 v1_h1 h0; rw [f_X12_fromPad_L2.eq_1]; exact pr_0
  | succ k2 ih =>
    intro σh1 v1_h1 h0
    rw [f_X12_fromPad_L2.eq_2]
    refine pr_g (fun _ _ => ?_)
    refine pr_i (fun _ => ?_) (fun _ => ?_)
    ·
      refine pr_g (fun _ _ => ?_)
      exact pr_s h0
    ·
      refine pr_g (fun _ _ => ?_)
      refine pr_g (fun _ _ => ?_)
      refine pr_ln (fun σh7 e1 => ?_)
      have h_1 : kq σ0 σh7 := by rw [e1]; exact kq_sE rfl h0
      refine pr_ln (fun x8 _ => ?_)
      exact ih h_1
theorem z_X12_fromPad {n : Nat} {σ : ms_T} {σ0 : ms_T} (h0 : kq σ0 σ)  : pr (f_X12_fromPad n σ) (fun res => kq σ0 res.2) := by
  unfold f_X12_fromPad
  exact z_X12_fromPad_L2  _ h0
theorem z_X12_foldsIn {n : Nat} {σ0 : ms_T}  : ∀ (d : Nat) {σ : ms_T} {a1 : Int32} {a2 : Int32} {a3 : Int32}, kq σ0 σ → pr (f_X12_foldsIn n d σ a1 a2 a3) (fun res => kq σ0 res.2) := by
  intro d
  induction d with
  | zero => intro σ a1 a2 a3 h0; rw [f_X12_foldsIn.eq_1]; exact pr_0
  | succ d ih =>
    intro σ a1 a2 a3 h0
    rw [f_X12_foldsIn.eq_2]
    refine pr_i (fun _ => ?_) (fun _ => ?_)
    ·
      exact pr_s h0
    ·
      refine pr_b pr_any (fun rh2 _ => ?_)
      refine pr_i (fun _ => ?_) (fun _ => ?_)
      ·
        refine pr_c (ih h0) (fun rh4 σh4 h_1 => ?_)
        replace h_1 : kq σ0 σh4 := h_1
        refine pr_ln (fun σh5 e2 => ?_)
        have h_2 : kq σ0 σh5 := by rw [e2]; exact kq_sI rfl h_1
        refine pr_g (fun _ _ => ?_)
        refine pr_b pr_any (fun rh7 _ => ?_)
        exact pr_s h_2
      ·
        refine pr_c (ih h0) (fun rh8 σh8 h_3 => ?_)
        replace h_3 : kq σ0 σh8 := h_3
        refine pr_ln (fun σh9 e4 => ?_)
        have h_4 : kq σ0 σh9 := by rw [e4]; exact kq_sI rfl h_3
        refine pr_g (fun _ _ => ?_)
        refine pr_b pr_any (fun rh11 _ => ?_)
        exact pr_s h_4
theorem z_X12_folded {n : Nat} {σ : ms_T} {a1 : Int32} {a2 : Int32} {a3 : Int32} {σ0 : ms_T} (h0 : kq σ0 σ)  : pr (f_X12_folded n σ a1 a2 a3) (fun res => kq σ0 res.2) := by
  unfold f_X12_folded
  refine pr_ln (fun σh1 e1 => ?_)
  have h_1 : kq σ0 σh1 := by rw [e1]; exact kq_sI rfl h0
  refine pr_c (z_X12_foldsIn  _ h_1) (fun rh2 σh2 h_2 => ?_)
  replace h_2 : kq σ0 σh2 := h_2
  exact pr_s h_2
theorem z_X12_whyIn_J41 {n : Nat} {σh3 : ms_T} {w0_h3 : Int32} {w1_h3 : Int32} {w2_h3 : Int32} {σ0 : ms_T} (h0 : kq σ0 σh3)  : pr (f_X12_whyIn_J41 n σh3 w0_h3 w1_h3 w2_h3) (fun res => kq σ0 res.2) := by
  unfold f_X12_whyIn_J41
  refine pr_b pr_any (fun rh4 _ => ?_)
  exact pr_s h0
theorem z_X12_whyIn_J36 {n : Nat} {σh5 : ms_T} {w0_h5 : Int32} {w1_h5 : Int32} {σ0 : ms_T} (h0 : kq σ0 σh5)  : pr (f_X12_whyIn_J36 n σh5 w0_h5 w1_h5) (fun res => kq σ0 res.2) := by
  unfold f_X12_whyIn_J36
  exact z_X12_whyIn_J41 h0 
theorem z_X12_whyIn {n : Nat} {σ : ms_T} {a1 : Int32} {a2 : Int32} {a3 : Int32} {a4 : Int32} {a5 : Int32} {σ0 : ms_T} (h0 : kq σ0 σ)  : pr (f_X12_whyIn n σ a1 a2 a3 a4 a5) (fun res => kq σ0 res.2) := by
  unfold f_X12_whyIn
  refine pr_b (z_X12_inclusion h0 ) (fun σh1 h_1 => ?_)
  replace h_1 : kq σ0 σh1 := h_1
  refine pr_ln (fun x2 _ => ?_)
  refine pr_i (fun _ => ?_) (fun _ => ?_)
  ·
    refine pr_c (z_X12_folded h_1 ) (fun rh7 σh7 h_2 => ?_)
    replace h_2 : kq σ0 σh7 := h_2
    refine pr_i (fun _ => ?_) (fun _ => ?_)
    ·
      exact z_X12_whyIn_J36 h_2 
    ·
      exact z_X12_whyIn_J41 h_2 
  ·
    exact z_X12_whyIn_J36 h_1 
theorem z_X12_foldsGrowth_J157 {n : Nat} {recM : ms_T → Int32 → Int32 → Int32 → Int32 → Option ms_T} {σh3 : ms_T} {σ0 : ms_T} (h0 : kq σ0 σh3) (hrecM : ∀ {y0 : ms_T} {y1 : Int32} {y2 : Int32} {y3 : Int32} {y4 : Int32}, kq σ0 y0 → pr (recM y0 y1 y2 y3 y4) (fun res => kq σ0 res)) : pr (f_X12_foldsGrowth_J157 n recM σh3) (fun res => kq σ0 res) := by
  unfold f_X12_foldsGrowth_J157
  refine pr_ln (fun σh4 e1 => ?_)
  have h_1 : kq σ0 σh4 := by rw [e1]; exact kq_sI rfl h0
  exact pr_s h_1
theorem z_X12_foldsGrowth_J50 {n : Nat} {recM : ms_T → Int32 → Int32 → Int32 → Int32 → Option ms_T} {σh20 : ms_T} {w0_h20 : Int32} {w1_h20 : Int32} {σ0 : ms_T} (h0 : kq σ0 σh20) (hrecM : ∀ {y0 : ms_T} {y1 : Int32} {y2 : Int32} {y3 : Int32} {y4 : Int32}, kq σ0 y0 → pr (recM y0 y1 y2 y3 y4) (fun res => kq σ0 res)) : pr (f_X12_foldsGrowth_J50 n recM σh20 w0_h20 w1_h20) (fun res => kq σ0 res) := by
  unfold f_X12_foldsGrowth_J50
  refine pr_ln (fun σh21 e1 => ?_)
  have h_1 : kq σ0 σh21 := by rw [e1]; exact kq_sI rfl h0
  exact pr_s h_1
theorem z_X12_foldsGrowth_J24 {n : Nat} {recM : ms_T → Int32 → Int32 → Int32 → Int32 → Option ms_T} {σh17 : ms_T} {v4_h17 : Int32} {w0_h17 : Int32} {σ0 : ms_T} (h0 : kq σ0 σh17) (hrecM : ∀ {y0 : ms_T} {y1 : Int32} {y2 : Int32} {y3 : Int32} {y4 : Int32}, kq σ0 y0 → pr (recM y0 y1 y2 y3 y4) (fun res => kq σ0 res)) : pr (f_X12_foldsGrowth_J24 n recM σh17 v4_h17 w0_h17) (fun res => kq σ0 res) := by
  unfold f_X12_foldsGrowth_J24
  refine pr_ln (fun σh18 e1 => ?_)
  have h_1 : kq σ0 σh18 := by rw [e1]; exact kq_sI rfl h0
  refine pr_ln (fun σh19 e2 => ?_)
  have h_2 : kq σ0 σh19 := by rw [e2]; exact kq_sI rfl h_1
  refine pr_i (fun _ => ?_) (fun _ => ?_)
  ·
    exact z_X12_foldsGrowth_J50 h_2 (fun h => hrecM h)
  ·
    exact z_X12_foldsGrowth_J50 h_2 (fun h => hrecM h)
theorem z_X12_foldsGrowth {n : Nat} {σ0 : ms_T}  : ∀ (d : Nat) {σ : ms_T} {a1 : Int32} {a2 : Int32} {a3 : Int32} {a4 : Int32}, kq σ0 σ → pr (f_X12_foldsGrowth n d σ a1 a2 a3 a4) (fun res => kq σ0 res) := by
  intro d
  induction d with
  | zero => intro σ a1 a2 a3 a4 h0; rw [f_X12_foldsGrowth.eq_1]; exact pr_0
  | succ d ih =>
    intro σ a1 a2 a3 a4 h0
    rw [f_X12_foldsGrowth.eq_2]
    refine pr_i (fun _ => ?_) (fun _ => ?_)
    ·
      refine pr_i (fun _ => ?_) (fun _ => ?_)
      ·
        refine pr_g (fun _ _ => ?_)
        exact z_X12_foldsGrowth_J24 h0 (fun h => ih h)
      ·
        exact z_X12_foldsGrowth_J24 h0 (fun h => ih h)
    ·
      refine pr_b pr_any (fun rh2 _ => ?_)
      refine pr_i (fun _ => ?_) (fun _ => ?_)
      ·
        refine pr_b (ih h0) (fun σh6 h_1 => ?_)
        replace h_1 : kq σ0 σh6 := h_1
        refine pr_g (fun _ _ => ?_)
        refine pr_b pr_any (fun rh8 _ => ?_)
        refine pr_ln (fun σh9 e2 => ?_)
        have h_2 : kq σ0 σh9 := by rw [e2]; exact kq_sI rfl h_1
        refine pr_g (fun _ _ => ?_)
        refine pr_b pr_any (fun rh11 _ => ?_)
        refine pr_ln (fun σh12 e3 => ?_)
        have h_3 : kq σ0 σh12 := by rw [e3]; exact kq_sI rfl h_2
        exact z_X12_foldsGrowth_J157 h_3 (fun h => ih h)
      ·
        refine pr_b (ih h0) (fun σh13 h_4 => ?_)
        replace h_4 : kq σ0 σh13 := h_4
        refine pr_g (fun _ _ => ?_)
        refine pr_b pr_any (fun rh15 _ => ?_)
        refine pr_ln (fun σh16 e5 => ?_)
        have h_5 : kq σ0 σh16 := by rw [e5]; exact kq_sI rfl h_4
        exact z_X12_foldsGrowth_J157 h_5 (fun h => ih h)
theorem z_X12_whyGrown_J39 {n : Nat} {σh3 : ms_T} {v2_h3 : Int32} {v3_h3 : Int32} {v4_h3 : Int32} {v5_h3 : Int32} {σ0 : ms_T} (h0 : kq σ0 σh3)  : pr (f_X12_whyGrown_J39 n σh3 v2_h3 v3_h3 v4_h3 v5_h3) (fun res => kq σ0 res.2) := by
  unfold f_X12_whyGrown_J39
  refine pr_i (fun _ => ?_) (fun _ => ?_)
  ·
    refine pr_i (fun _ => ?_) (fun _ => ?_)
    ·
      exact pr_s h0
    ·
      exact pr_s h0
  ·
    refine pr_i (fun _ => ?_) (fun _ => ?_)
    ·
      exact pr_s h0
    ·
      refine pr_ln (fun σh6 e1 => ?_)
      have h_1 : kq σ0 σh6 := by rw [e1]; exact kq_sI rfl h0
      refine pr_b (z_X12_foldsGrowth  _ h_1) (fun σh7 h_2 => ?_)
      replace h_2 : kq σ0 σh7 := h_2
      refine pr_i (fun _ => ?_) (fun _ => ?_)
      ·
        refine pr_i (fun _ => ?_) (fun _ => ?_)
        ·
          exact pr_s h_2
        ·
          exact pr_s h_2
      ·
        exact pr_s h_2
theorem z_X12_whyGrown {n : Nat} {σ : ms_T} {a1 : Int32} {a2 : Int32} {a3 : Int32} {a4 : Int32} {a5 : Int32} {σ0 : ms_T} (h0 : kq σ0 σ)  : pr (f_X12_whyGrown n σ a1 a2 a3 a4 a5) (fun res => kq σ0 res.2) := by
  unfold f_X12_whyGrown
  refine pr_b (z_X12_growth h0 ) (fun σh1 h_1 => ?_)
  replace h_1 : kq σ0 σh1 := h_1
  refine pr_i (fun _ => ?_) (fun _ => ?_)
  ·
    refine pr_i (fun _ => ?_) (fun _ => ?_)
    ·
      refine pr_i (fun _ => ?_) (fun _ => ?_)
      ·
        exact z_X12_whyGrown_J39 h_1 
      ·
        exact pr_s h_1
    ·
      exact z_X12_whyGrown_J39 h_1 
  ·
    refine pr_i (fun _ => ?_) (fun _ => ?_)
    ·
      exact pr_s h_1
    ·
      exact pr_s h_1
theorem z_X12_foldsBundle {n : Nat} {σ0 : ms_T}  : ∀ (d : Nat) {σ : ms_T} {a1 : Int32} {a2 : Int32} {a3 : Int32}, kq σ0 σ → pr (f_X12_foldsBundle n d σ a1 a2 a3) (fun res => kq σ0 res.2) := by
  intro d
  induction d with
  | zero => intro σ a1 a2 a3 h0; rw [f_X12_foldsBundle.eq_1]; exact pr_0
  | succ d ih =>
    intro σ a1 a2 a3 h0
    rw [f_X12_foldsBundle.eq_2]
    refine pr_b pr_any (fun rh1 _ => ?_)
    refine pr_i (fun _ => ?_) (fun _ => ?_)
    ·
      refine pr_ln (fun σh10 e1 => ?_)
      have h_1 : kq σ0 σh10 := by rw [e1]; exact kq_sI rfl h0
      refine pr_g (fun _ _ => ?_)
      exact pr_s h_1
    ·
      refine pr_i (fun _ => ?_) (fun _ => ?_)
      ·
        refine pr_ln (fun σh8 e2 => ?_)
        have h_2 : kq σ0 σh8 := by rw [e2]; exact kq_sI rfl h0
        refine pr_g (fun _ _ => ?_)
        exact pr_s h_2
      ·
        refine pr_b pr_any (fun rh4 _ => ?_)
        refine pr_c (ih h0) (fun rh5 σh5 h_3 => ?_)
        replace h_3 : kq σ0 σh5 := h_3
        refine pr_c (ih h_3) (fun rh6 σh6 h_4 => ?_)
        replace h_4 : kq σ0 σh6 := h_4
        refine pr_b pr_any (fun rh7 _ => ?_)
        exact pr_s h_4
theorem z_X12_whyByRecord {n : Nat} {σ : ms_T} {a1 : Int32} {a2 : Int32} {a3 : Int32} {a4 : Int32} {a5 : Int32} {σ0 : ms_T} (h0 : kq σ0 σ)  : pr (f_X12_whyByRecord n σ a1 a2 a3 a4 a5) (fun res => kq σ0 res.2) := by
  unfold f_X12_whyByRecord
  refine pr_b (z_X12_growth h0 ) (fun σh1 h_1 => ?_)
  replace h_1 : kq σ0 σh1 := h_1
  refine pr_b (z_X12_fetches h_1 ) (fun σh2 h_2 => ?_)
  replace h_2 : kq σ0 σh2 := h_2
  refine pr_c (z_X12_whyGrown h_2 ) (fun rh3 σh3 h_3 => ?_)
  replace h_3 : kq σ0 σh3 := h_3
  exact pr_s h_3
theorem z_X12_heard_J22 {n : Nat} {σh1 : ms_T} {v1_h1 : Int32} {w0_h1 : Int32} {σ0 : ms_T} (h0 : kq σ0 σh1)  : pr (f_X12_heard_J22 n σh1 v1_h1 w0_h1) (fun res => kq σ0 res.2) := by
  unfold f_X12_heard_J22
  refine pr_c (z_X12_is h0 ) (fun rh2 σh2 h_1 => ?_)
  replace h_1 : kq σ0 σh2 := h_1
  refine pr_i (fun _ => ?_) (fun _ => ?_)
  ·
    exact pr_s h_1
  ·
    refine pr_g (fun _ _ => ?_)
    exact pr_s h_1
theorem z_X12_heard {n : Nat} {σ : ms_T} {a1 : Int32} {σ0 : ms_T} (h0 : kq σ0 σ)  : pr (f_X12_heard n σ a1) (fun res => kq σ0 res.2) := by
  unfold f_X12_heard
  refine pr_i (fun _ => ?_) (fun _ => ?_)
  ·
    refine pr_i (fun _ => ?_) (fun _ => ?_)
    ·
      exact z_X12_heard_J22 h0 
    ·
      exact z_X12_heard_J22 h0 
  ·
    exact z_X12_heard_J22 h0 
theorem z_X12_fault {n : Nat} {σ : ms_T} {a1 : Int32} {σ0 : ms_T} (h0 : kq σ0 σ)  : pr (f_X12_fault n σ a1) (fun res => kq σ0 res.2) := by
  unfold f_X12_fault
  refine pr_ln (fun σh1 e1 => ?_)
  have h_1 : kq σ0 σh1 := by rw [e1]; exact kq_sI rfl h0
  refine pr_i (fun _ => ?_) (fun _ => ?_)
  ·
    exact pr_s h_1
  ·
    refine pr_i (fun _ => ?_) (fun _ => ?_)
    ·
      exact pr_s h_1
    ·
      exact pr_s h_1
theorem z_X12_many_L39 {n : Nat} {σ0 : ms_T}  : ∀ (k39 : Nat) {σh6 : ms_T} {v2_h6 : Int32} {v3_h6 : Int32}, kq σ0 σh6 → pr (f_X12_many_L39 n k39 σh6 v2_h6 v3_h6) (fun res => kq σ0 res.2) := by
  intro k39
  induction k39 with
  | zero => intro σh6 v2_h6 v3_h6 h0; rw [f_X12_many_L39.eq_1]; exact pr_0
  | succ k39 ih =>
    intro σh6 v2_h6 v3_h6 h0
    rw [f_X12_many_L39.eq_2]
    refine pr_i (fun _ => ?_) (fun _ => ?_)
    ·
      exact pr_s h0
    ·
      refine pr_b pr_any (fun rh8 _ => ?_)
      refine pr_ln (fun x9 _ => ?_)
      refine pr_ln (fun x10 _ => ?_)
      exact ih h0
theorem z_X12_many_J15 {n : Nat} {σh2 : ms_T} {v1_h2 : Int32} {w0_h2 : Int32} {σ0 : ms_T} (h0 : kq σ0 σh2)  : pr (f_X12_many_J15 n σh2 v1_h2 w0_h2) (fun res => kq σ0 res.2) := by
  unfold f_X12_many_J15
  refine pr_c (z_X12_is h0 ) (fun rh3 σh3 h_1 => ?_)
  replace h_1 : kq σ0 σh3 := h_1
  refine pr_i (fun _ => ?_) (fun _ => ?_)
  ·
    exact pr_s h_1
  ·
    refine pr_i (fun _ => ?_) (fun _ => ?_)
    ·
      exact z_X12_many_L39  _ h_1
    ·
      refine pr_g (fun _ _ => ?_)
      exact pr_s h_1
theorem z_X12_many {n : Nat} {σ : ms_T} {a1 : Int32} {σ0 : ms_T} (h0 : kq σ0 σ)  : pr (f_X12_many n σ a1) (fun res => kq σ0 res.2) := by
  unfold f_X12_many
  refine pr_b pr_any (fun rh1 _ => ?_)
  refine pr_i (fun _ => ?_) (fun _ => ?_)
  ·
    exact z_X12_many_J15 h0 
  ·
    exact z_X12_many_J15 h0 
theorem z_X12_size_J14 {n : Nat} {σh2 : ms_T} {v1_h2 : Int32} {w0_h2 : Int32} {σ0 : ms_T} (h0 : kq σ0 σh2)  : pr (f_X12_size_J14 n σh2 v1_h2 w0_h2) (fun res => kq σ0 res.2) := by
  unfold f_X12_size_J14
  refine pr_c (z_X12_is h0 ) (fun rh3 σh3 h_1 => ?_)
  replace h_1 : kq σ0 σh3 := h_1
  refine pr_i (fun _ => ?_) (fun _ => ?_)
  ·
    exact pr_s h_1
  ·
    refine pr_b pr_any (fun rh5 _ => ?_)
    exact pr_s h_1
theorem z_X12_size {n : Nat} {σ : ms_T} {a1 : Int32} {σ0 : ms_T} (h0 : kq σ0 σ)  : pr (f_X12_size n σ a1) (fun res => kq σ0 res.2) := by
  unfold f_X12_size
  refine pr_b pr_any (fun rh1 _ => ?_)
  refine pr_i (fun _ => ?_) (fun _ => ?_)
  ·
    exact z_X12_size_J14 h0 
  ·
    exact z_X12_size_J14 h0 
theorem z_X12_entry_J39 {n : Nat} {σh1 : ms_T} {v1_h1 : Int32} {v2_h1 : Int32} {v3_h1 : Int32} {w0_h1 : Int32} {σ0 : ms_T} (h0 : kq σ0 σh1)  : pr (f_X12_entry_J39 n σh1 v1_h1 v2_h1 v3_h1 w0_h1) (fun res => kq σ0 res.2) := by
  unfold f_X12_entry_J39
  refine pr_c (z_X12_is h0 ) (fun rh2 σh2 h_1 => ?_)
  replace h_1 : kq σ0 σh2 := h_1
  refine pr_i (fun _ => ?_) (fun _ => ?_)
  ·
    exact pr_s h_1
  ·
    refine pr_ln (fun x4 _ => ?_)
    refine pr_i (fun _ => ?_) (fun _ => ?_)
    ·
      refine pr_g (fun _ _ => ?_)
      refine pr_i (fun _ => ?_) (fun _ => ?_)
      ·
        refine pr_c (z_X12_refuse h_1 ) (fun rh8 σh8 h_2 => ?_)
        replace h_2 : kq σ0 σh8 := h_2
        exact pr_s h_2
      ·
        refine pr_g (fun _ _ => ?_)
        exact pr_s h_1
    ·
      refine pr_i (fun _ => ?_) (fun _ => ?_)
      ·
        refine pr_g (fun _ _ => ?_)
        exact pr_s h_1
      ·
        refine pr_b pr_any (fun rh11 _ => ?_)
        exact pr_s h_1
theorem z_X12_entry_J9 {n : Nat} {σh13 : ms_T} {v1_h13 : Int32} {v2_h13 : Int32} {v3_h13 : Int32} {σ0 : ms_T} (h0 : kq σ0 σh13)  : pr (f_X12_entry_J9 n σh13 v1_h13 v2_h13 v3_h13) (fun res => kq σ0 res.2) := by
  unfold f_X12_entry_J9
  exact z_X12_entry_J39 h0 
theorem z_X12_entry {n : Nat} {σ : ms_T} {a1 : Int32} {a2 : Int32} {a3 : Int32} {σ0 : ms_T} (h0 : kq σ0 σ)  : pr (f_X12_entry n σ a1 a2 a3) (fun res => kq σ0 res.2) := by
  unfold f_X12_entry
  refine pr_i (fun _ => ?_) (fun _ => ?_)
  ·
    exact z_X12_entry_J9 h0 
  ·
    refine pr_i (fun _ => ?_) (fun _ => ?_)
    ·
      refine pr_b pr_any (fun rh16 _ => ?_)
      refine pr_i (fun _ => ?_) (fun _ => ?_)
      ·
        exact z_X12_entry_J39 h0 
      ·
        refine pr_b pr_any (fun rh18 _ => ?_)
        refine pr_i (fun _ => ?_) (fun _ => ?_)
        ·
          exact z_X12_entry_J39 h0 
        ·
          exact z_X12_entry_J39 h0 
    ·
      exact z_X12_entry_J9 h0 
theorem z_X12_head {n : Nat} {σ : ms_T} {a1 : Int32} {a2 : Int32} {σ0 : ms_T} (h0 : kq σ0 σ)  : pr (f_X12_head n σ a1 a2) (fun res => kq σ0 res.2) := by
  unfold f_X12_head
  refine pr_b pr_any (fun rh1 _ => ?_)
  refine pr_c (z_X12_is h0 ) (fun rh2 σh2 h_1 => ?_)
  replace h_1 : kq σ0 σh2 := h_1
  refine pr_i (fun _ => ?_) (fun _ => ?_)
  ·
    exact pr_s h_1
  ·
    refine pr_b pr_any (fun rh4 _ => ?_)
    exact pr_s h_1
theorem z_X12_join_J22 {n : Nat} {σh2 : ms_T} {v1_h2 : Int32} {v2_h2 : Int32} {w0_h2 : Int32} {σ0 : ms_T} (h0 : kq σ0 σh2)  : pr (f_X12_join_J22 n σh2 v1_h2 v2_h2 w0_h2) (fun res => kq σ0 res.2) := by
  unfold f_X12_join_J22
  refine pr_c (z_X12_is h0 ) (fun rh3 σh3 h_1 => ?_)
  replace h_1 : kq σ0 σh3 := h_1
  refine pr_i (fun _ => ?_) (fun _ => ?_)
  ·
    exact pr_s h_1
  ·
    refine pr_b pr_any (fun rh5 _ => ?_)
    exact pr_s h_1
theorem z_X12_join_J21 {n : Nat} {σh6 : ms_T} {v1_h6 : Int32} {v2_h6 : Int32} {σ0 : ms_T} (h0 : kq σ0 σh6)  : pr (f_X12_join_J21 n σh6 v1_h6 v2_h6) (fun res => kq σ0 res.2) := by
  unfold f_X12_join_J21
  exact z_X12_join_J22 h0 
theorem z_X12_join {n : Nat} {σ : ms_T} {a1 : Int32} {a2 : Int32} {σ0 : ms_T} (h0 : kq σ0 σ)  : pr (f_X12_join n σ a1 a2) (fun res => kq σ0 res.2) := by
  unfold f_X12_join
  refine pr_b pr_any (fun rh1 _ => ?_)
  refine pr_i (fun _ => ?_) (fun _ => ?_)
  ·
    exact z_X12_join_J21 h0 
  ·
    refine pr_b pr_any (fun rh8 _ => ?_)
    refine pr_i (fun _ => ?_) (fun _ => ?_)
    ·
      exact z_X12_join_J21 h0 
    ·
      exact z_X12_join_J22 h0 
theorem z_X12_mark_L10 {n : Nat} {σ0 : ms_T}  : ∀ (k10 : Nat) {σh2 : ms_T} {v1_h2 : Int32} {v2_h2 : Int32}, kq σ0 σh2 → pr (f_X12_mark_L10 n k10 σh2 v1_h2 v2_h2) (fun res => kq σ0 res.2) := by
  intro k10
  induction k10 with
  | zero => intro σh2 v1_h2 v2_h2 h0; rw [f_X12_mark_L10.eq_1]; exact pr_0
  | succ k10 ih =>
    intro σh2 v1_h2 v2_h2 h0
    rw [f_X12_mark_L10.eq_2]
    refine pr_i (fun _ => ?_) (fun _ => ?_)
    ·
      exact pr_s h0
    ·
      refine pr_g (fun _ _ => ?_)
      refine pr_b pr_any (fun rh5 _ => ?_)
      refine pr_ln (fun x6 _ => ?_)
      exact ih h0
theorem z_X12_mark {n : Nat} {σ : ms_T} {σ0 : ms_T} (h0 : kq σ0 σ)  : pr (f_X12_mark n σ) (fun res => kq σ0 res.2) := by
  unfold f_X12_mark
  refine pr_c (z_X12_is h0 ) (fun rh1 σh1 h_1 => ?_)
  replace h_1 : kq σ0 σh1 := h_1
  exact z_X12_mark_L10  _ h_1
theorem z_X12_frozen_J33 {n : Nat} {σh1 : ms_T} {v1_h1 : Int32} {v2_h1 : Int32} {w0_h1 : Int32} {σ0 : ms_T} (h0 : kq σ0 σh1)  : pr (f_X12_frozen_J33 n σh1 v1_h1 v2_h1 w0_h1) (fun res => kq σ0 res.2) := by
  unfold f_X12_frozen_J33
  refine pr_c (z_X12_is h0 ) (fun rh2 σh2 h_1 => ?_)
  replace h_1 : kq σ0 σh2 := h_1
  refine pr_i (fun _ => ?_) (fun _ => ?_)
  ·
    exact pr_s h_1
  ·
    refine pr_i (fun _ => ?_) (fun _ => ?_)
    ·
      refine pr_b pr_any (fun rh5 _ => ?_)
      refine pr_i (fun _ => ?_) (fun _ => ?_)
      ·
        exact pr_s h_1
      ·
        exact pr_s h_1
    ·
      refine pr_b pr_any (fun rh7 _ => ?_)
      exact pr_s h_1
theorem z_X12_frozen_J14 {n : Nat} {σh8 : ms_T} {v1_h8 : Int32} {v2_h8 : Int32} {σ0 : ms_T} (h0 : kq σ0 σh8)  : pr (f_X12_frozen_J14 n σh8 v1_h8 v2_h8) (fun res => kq σ0 res.2) := by
  unfold f_X12_frozen_J14
  exact z_X12_frozen_J33 h0 
theorem z_X12_frozen {n : Nat} {σ : ms_T} {a1 : Int32} {a2 : Int32} {σ0 : ms_T} (h0 : kq σ0 σ)  : pr (f_X12_frozen n σ a1 a2) (fun res => kq σ0 res.2) := by
  unfold f_X12_frozen
  refine pr_i (fun _ => ?_) (fun _ => ?_)
  ·
    exact z_X12_frozen_J14 h0 
  ·
    refine pr_b pr_any (fun rh10 _ => ?_)
    refine pr_i (fun _ => ?_) (fun _ => ?_)
    ·
      exact z_X12_frozen_J14 h0 
    ·
      refine pr_g (fun _ _ => ?_)
      refine pr_i (fun _ => ?_) (fun _ => ?_)
      ·
        exact z_X12_frozen_J33 h0 
      ·
        exact z_X12_frozen_J33 h0 
theorem z_X12_watcher_J26 {n : Nat} {σh2 : ms_T} {v1_h2 : Int32} {v2_h2 : Int32} {w0_h2 : Int32} {σ0 : ms_T} (h0 : kq σ0 σh2)  : pr (f_X12_watcher_J26 n σh2 v1_h2 v2_h2 w0_h2) (fun res => kq σ0 res.2) := by
  unfold f_X12_watcher_J26
  refine pr_c (z_X12_is h0 ) (fun rh3 σh3 h_1 => ?_)
  replace h_1 : kq σ0 σh3 := h_1
  refine pr_i (fun _ => ?_) (fun _ => ?_)
  ·
    exact pr_s h_1
  ·
    refine pr_b pr_any (fun rh5 _ => ?_)
    exact pr_s h_1
theorem z_X12_watcher {n : Nat} {σ : ms_T} {a1 : Int32} {a2 : Int32} {σ0 : ms_T} (h0 : kq σ0 σ)  : pr (f_X12_watcher n σ a1 a2) (fun res => kq σ0 res.2) := by
  unfold f_X12_watcher
  refine pr_b pr_any (fun rh1 _ => ?_)
  refine pr_i (fun _ => ?_) (fun _ => ?_)
  ·
    exact z_X12_watcher_J26 h0 
  ·
    refine pr_b pr_any (fun rh7 _ => ?_)
    refine pr_i (fun _ => ?_) (fun _ => ?_)
    ·
      exact z_X12_watcher_J26 h0 
    ·
      exact z_X12_watcher_J26 h0 
theorem z_X12_pad_J24 {n : Nat} {σh1 : ms_T} {v1_h1 : Int32} {w0_h1 : Int32} {σ0 : ms_T} (h0 : kq σ0 σh1)  : pr (f_X12_pad_J24 n σh1 v1_h1 w0_h1) (fun res => kq σ0 res.2) := by
  unfold f_X12_pad_J24
  refine pr_c (z_X12_is h0 ) (fun rh2 σh2 h_1 => ?_)
  replace h_1 : kq σ0 σh2 := h_1
  refine pr_i (fun _ => ?_) (fun _ => ?_)
  ·
    exact pr_s h_1
  ·
    refine pr_g (fun _ _ => ?_)
    exact pr_s h_1
theorem z_X12_pad {n : Nat} {σ : ms_T} {a1 : Int32} {σ0 : ms_T} (h0 : kq σ0 σ)  : pr (f_X12_pad n σ a1) (fun res => kq σ0 res.2) := by
  unfold f_X12_pad
  refine pr_i (fun _ => ?_) (fun _ => ?_)
  ·
    refine pr_g (fun _ _ => ?_)
    refine pr_i (fun _ => ?_) (fun _ => ?_)
    ·
      exact z_X12_pad_J24 h0 
    ·
      exact z_X12_pad_J24 h0 
  ·
    exact z_X12_pad_J24 h0 
theorem z_X12_checks_J32 {n : Nat} {σh2 : ms_T} {v1_h2 : Int32} {v2_h2 : Int32} {v3_h2 : Int32} {v4_h2 : Int32} {w0_h2 : Int32} {σ0 : ms_T} (h0 : kq σ0 σh2)  : pr (f_X12_checks_J32 n σh2 v1_h2 v2_h2 v3_h2 v4_h2 w0_h2) (fun res => kq σ0 res.2) := by
  unfold f_X12_checks_J32
  refine pr_c (z_X12_is h0 ) (fun rh3 σh3 h_1 => ?_)
  replace h_1 : kq σ0 σh3 := h_1
  refine pr_i (fun _ => ?_) (fun _ => ?_)
  ·
    exact pr_s h_1
  ·
    refine pr_c (z_X12_fromPad h_1 ) (fun rh5 σh5 h_2 => ?_)
    replace h_2 : kq σ0 σh5 := h_2
    refine pr_c (z_X12_whyIn h_2 ) (fun rh6 σh6 h_3 => ?_)
    replace h_3 : kq σ0 σh6 := h_3
    exact pr_s h_3
theorem z_X12_checks_J31 {n : Nat} {σh7 : ms_T} {v1_h7 : Int32} {v2_h7 : Int32} {v3_h7 : Int32} {v4_h7 : Int32} {σ0 : ms_T} (h0 : kq σ0 σh7)  : pr (f_X12_checks_J31 n σh7 v1_h7 v2_h7 v3_h7 v4_h7) (fun res => kq σ0 res.2) := by
  unfold f_X12_checks_J31
  exact z_X12_checks_J32 h0 
theorem z_X12_checks {n : Nat} {σ : ms_T} {a1 : Int32} {a2 : Int32} {a3 : Int32} {a4 : Int32} {σ0 : ms_T} (h0 : kq σ0 σ)  : pr (f_X12_checks n σ a1 a2 a3 a4) (fun res => kq σ0 res.2) := by
  unfold f_X12_checks
  refine pr_b pr_any (fun rh1 _ => ?_)
  refine pr_i (fun _ => ?_) (fun _ => ?_)
  ·
    exact z_X12_checks_J31 h0 
  ·
    refine pr_b pr_any (fun rh9 _ => ?_)
    refine pr_i (fun _ => ?_) (fun _ => ?_)
    ·
      exact z_X12_checks_J31 h0 
    ·
      refine pr_b pr_any (fun rh11 _ => ?_)
      refine pr_i (fun _ => ?_) (fun _ => ?_)
      ·
        exact z_X12_checks_J31 h0 
      ·
        exact z_X12_checks_J32 h0 
theorem z_X12_growth__J32 {n : Nat} {σh1 : ms_T} {v1_h1 : Int32} {v2_h1 : Int32} {v3_h1 : Int32} {v4_h1 : Int32} {w0_h1 : Int32} {σ0 : ms_T} (h0 : kq σ0 σh1)  : pr (f_X12_growth__J32 n σh1 v1_h1 v2_h1 v3_h1 v4_h1 w0_h1) (fun res => kq σ0 res.2) := by
  unfold f_X12_growth__J32
  refine pr_c (z_X12_is h0 ) (fun rh2 σh2 h_1 => ?_)
  replace h_1 : kq σ0 σh2 := h_1
  refine pr_i (fun _ => ?_) (fun _ => ?_)
  ·
    exact pr_s h_1
  ·
    refine pr_c (z_X12_fromPad h_1 ) (fun rh4 σh4 h_2 => ?_)
    replace h_2 : kq σ0 σh4 := h_2
    refine pr_c (z_X12_whyGrown h_2 ) (fun rh5 σh5 h_3 => ?_)
    replace h_3 : kq σ0 σh5 := h_3
    exact pr_s h_3
theorem z_X12_growth__J31 {n : Nat} {σh6 : ms_T} {v1_h6 : Int32} {v2_h6 : Int32} {v3_h6 : Int32} {v4_h6 : Int32} {σ0 : ms_T} (h0 : kq σ0 σh6)  : pr (f_X12_growth__J31 n σh6 v1_h6 v2_h6 v3_h6 v4_h6) (fun res => kq σ0 res.2) := by
  unfold f_X12_growth__J31
  exact z_X12_growth__J32 h0 
theorem z_X12_growth_ {n : Nat} {σ : ms_T} {a1 : Int32} {a2 : Int32} {a3 : Int32} {a4 : Int32} {σ0 : ms_T} (h0 : kq σ0 σ)  : pr (f_X12_growth_ n σ a1 a2 a3 a4) (fun res => kq σ0 res.2) := by
  unfold f_X12_growth_
  refine pr_i (fun _ => ?_) (fun _ => ?_)
  ·
    exact z_X12_growth__J31 h0 
  ·
    refine pr_i (fun _ => ?_) (fun _ => ?_)
    ·
      exact z_X12_growth__J31 h0 
    ·
      refine pr_b pr_any (fun rh9 _ => ?_)
      refine pr_i (fun _ => ?_) (fun _ => ?_)
      ·
        exact z_X12_growth__J31 h0 
      ·
        refine pr_b pr_any (fun rh11 _ => ?_)
        refine pr_i (fun _ => ?_) (fun _ => ?_)
        ·
          exact z_X12_growth__J31 h0 
        ·
          exact z_X12_growth__J32 h0 
theorem z_X12_bundled_J104 {n : Nat} {σh10 : ms_T} {w0_h10 : Int32} {w1_h10 : Int32} {w2_h10 : Int32} {σ0 : ms_T} (h0 : kq σ0 σh10)  : pr (f_X12_bundled_J104 n σh10 w0_h10 w1_h10 w2_h10) (fun res => kq σ0 res.2) := by
  unfold f_X12_bundled_J104
  refine pr_b pr_any (fun rh11 _ => ?_)
  exact pr_s h0
theorem z_X12_bundled_J99 {n : Nat} {σh12 : ms_T} {w0_h12 : Int32} {w1_h12 : Int32} {σ0 : ms_T} (h0 : kq σ0 σh12)  : pr (f_X12_bundled_J99 n σh12 w0_h12 w1_h12) (fun res => kq σ0 res.2) := by
  unfold f_X12_bundled_J99
  exact z_X12_bundled_J104 h0 
theorem z_X12_bundled_J30 {n : Nat} {σh1 : ms_T} {v1_h1 : Int32} {v2_h1 : Int32} {v3_h1 : Int32} {w0_h1 : Int32} {σ0 : ms_T} (h0 : kq σ0 σh1)  : pr (f_X12_bundled_J30 n σh1 v1_h1 v2_h1 v3_h1 w0_h1) (fun res => kq σ0 res.2) := by
  unfold f_X12_bundled_J30
  refine pr_c (z_X12_is h0 ) (fun rh2 σh2 h_1 => ?_)
  replace h_1 : kq σ0 σh2 := h_1
  refine pr_i (fun _ => ?_) (fun _ => ?_)
  ·
    exact pr_s h_1
  ·
    refine pr_b (z_X12_bundleOf h_1 ) (fun σh4 h_2 => ?_)
    replace h_2 : kq σ0 σh4 := h_2
    refine pr_b pr_any (fun rh5 _ => ?_)
    refine pr_ln (fun x6 _ => ?_)
    refine pr_c (z_X12_fromPad h_2 ) (fun rh7 σh7 h_3 => ?_)
    replace h_3 : kq σ0 σh7 := h_3
    refine pr_ln (fun σh8 e4 => ?_)
    have h_4 : kq σ0 σh8 := by rw [e4]; exact kq_sI rfl h_3
    refine pr_ln (fun σh9 e5 => ?_)
    have h_5 : kq σ0 σh9 := by rw [e5]; exact kq_sI rfl h_4
    refine pr_i (fun _ => ?_) (fun _ => ?_)
    ·
      refine pr_c (z_X12_foldsBundle  _ h_5) (fun rh14 σh14 h_6 => ?_)
      replace h_6 : kq σ0 σh14 := h_6
      refine pr_i (fun _ => ?_) (fun _ => ?_)
      ·
        exact z_X12_bundled_J99 h_6 
      ·
        exact z_X12_bundled_J104 h_6 
    ·
      exact z_X12_bundled_J99 h_5 
theorem z_X12_bundled_J25 {n : Nat} {σh16 : ms_T} {v1_h16 : Int32} {v2_h16 : Int32} {v3_h16 : Int32} {σ0 : ms_T} (h0 : kq σ0 σh16)  : pr (f_X12_bundled_J25 n σh16 v1_h16 v2_h16 v3_h16) (fun res => kq σ0 res.2) := by
  unfold f_X12_bundled_J25
  exact z_X12_bundled_J30 h0 
theorem z_X12_bundled {n : Nat} {σ : ms_T} {a1 : Int32} {a2 : Int32} {a3 : Int32} {σ0 : ms_T} (h0 : kq σ0 σ)  : pr (f_X12_bundled n σ a1 a2 a3) (fun res => kq σ0 res.2) := by
  unfold f_X12_bundled
  refine pr_i (fun _ => ?_) (fun _ => ?_)
  ·
    exact z_X12_bundled_J25 h0 
  ·
    refine pr_i (fun _ => ?_) (fun _ => ?_)
    ·
      exact z_X12_bundled_J25 h0 
    ·
      refine pr_b pr_any (fun rh19 _ => ?_)
      refine pr_i (fun _ => ?_) (fun _ => ?_)
      ·
        refine pr_b pr_any (fun rh21 _ => ?_)
        refine pr_i (fun _ => ?_) (fun _ => ?_)
        ·
          exact z_X12_bundled_J25 h0 
        ·
          exact z_X12_bundled_J30 h0 
      ·
        exact z_X12_bundled_J25 h0 
theorem z_X12_fold_L43 {n : Nat} {σ0 : ms_T}  : ∀ (k43 : Nat) {σh8 : ms_T} {v1_h8 : Int32} {v2_h8 : Int32}, kq σ0 σh8 → pr (f_X12_fold_L43 n k43 σh8 v1_h8 v2_h8) (fun res => kq σ0 res.2) := by
  intro k43
  induction k43 with
  | zero => intro σh8 v1_h8 v2_h8 h0; rw [f_X12_fold_L43.eq_1]; exact pr_0
  | succ k43 ih =>
    intro σh8 v1_h8 v2_h8 h0
    rw [f_X12_fold_L43.eq_2]
    refine pr_i (fun _ => ?_) (fun _ => ?_)
    ·
      exact pr_s h0
    ·
      refine pr_g (fun _ _ => ?_)
      refine pr_b pr_any (fun rh11 _ => ?_)
      refine pr_ln (fun x12 _ => ?_)
      exact ih h0
theorem z_X12_fold {n : Nat} {σ : ms_T} {σ0 : ms_T} (h0 : kq σ0 σ)  : pr (f_X12_fold n σ) (fun res => kq σ0 res.2) := by
  unfold f_X12_fold
  refine pr_c (z_X12_is h0 ) (fun rh1 σh1 h_1 => ?_)
  replace h_1 : kq σ0 σh1 := h_1
  refine pr_g (fun _ _ => ?_)
  refine pr_i (fun _ => ?_) (fun _ => ?_)
  ·
    exact pr_s h_1
  ·
    refine pr_g (fun _ _ => ?_)
    refine pr_g (fun _ _ => ?_)
    refine pr_ln (fun x6 _ => ?_)
    refine pr_g (fun _ _ => ?_)
    refine pr_ln (fun x13 _ => ?_)
    exact z_X12_fold_L43  _ h_1
theorem z_X12_steps_J15 {n : Nat} {σh2 : ms_T} {v1_h2 : Int32} {v2_h2 : Int32} {w0_h2 : Int32} {σ0 : ms_T} (h0 : kq σ0 σh2)  : pr (f_X12_steps_J15 n σh2 v1_h2 v2_h2 w0_h2) (fun res => kq σ0 res.2) := by
  unfold f_X12_steps_J15
  refine pr_c (z_X12_is h0 ) (fun rh3 σh3 h_1 => ?_)
  replace h_1 : kq σ0 σh3 := h_1
  refine pr_i (fun _ => ?_) (fun _ => ?_)
  ·
    exact pr_s h_1
  ·
    refine pr_b (z_X12_inclusion h_1 ) (fun σh5 h_2 => ?_)
    replace h_2 : kq σ0 σh5 := h_2
    exact pr_s h_2
theorem z_X12_steps {n : Nat} {σ : ms_T} {a1 : Int32} {a2 : Int32} {σ0 : ms_T} (h0 : kq σ0 σ)  : pr (f_X12_steps n σ a1 a2) (fun res => kq σ0 res.2) := by
  unfold f_X12_steps
  refine pr_b pr_any (fun rh1 _ => ?_)
  refine pr_i (fun _ => ?_) (fun _ => ?_)
  ·
    exact z_X12_steps_J15 h0 
  ·
    exact z_X12_steps_J15 h0 
theorem z_X12_climbs_J15 {n : Nat} {σh1 : ms_T} {v1_h1 : Int32} {v2_h1 : Int32} {w0_h1 : Int32} {σ0 : ms_T} (h0 : kq σ0 σh1)  : pr (f_X12_climbs_J15 n σh1 v1_h1 v2_h1 w0_h1) (fun res => kq σ0 res.2) := by
  unfold f_X12_climbs_J15
  refine pr_c (z_X12_is h0 ) (fun rh2 σh2 h_1 => ?_)
  replace h_1 : kq σ0 σh2 := h_1
  refine pr_i (fun _ => ?_) (fun _ => ?_)
  ·
    exact pr_s h_1
  ·
    refine pr_b (z_X12_growth h_1 ) (fun σh4 h_2 => ?_)
    replace h_2 : kq σ0 σh4 := h_2
    exact pr_s h_2
theorem z_X12_climbs_J14 {n : Nat} {σh5 : ms_T} {v1_h5 : Int32} {v2_h5 : Int32} {σ0 : ms_T} (h0 : kq σ0 σh5)  : pr (f_X12_climbs_J14 n σh5 v1_h5 v2_h5) (fun res => kq σ0 res.2) := by
  unfold f_X12_climbs_J14
  exact z_X12_climbs_J15 h0 
theorem z_X12_climbs {n : Nat} {σ : ms_T} {a1 : Int32} {a2 : Int32} {σ0 : ms_T} (h0 : kq σ0 σ)  : pr (f_X12_climbs n σ a1 a2) (fun res => kq σ0 res.2) := by
  unfold f_X12_climbs
  refine pr_i (fun _ => ?_) (fun _ => ?_)
  ·
    exact z_X12_climbs_J14 h0 
  ·
    refine pr_i (fun _ => ?_) (fun _ => ?_)
    ·
      exact z_X12_climbs_J14 h0 
    ·
      exact z_X12_climbs_J15 h0 
theorem z_X12_agree_J20 {n : Nat} {σh2 : ms_T} {v1_h2 : Int32} {v2_h2 : Int32} {w0_h2 : Int32} {σ0 : ms_T} (h0 : kq σ0 σh2)  : pr (f_X12_agree_J20 n σh2 v1_h2 v2_h2 w0_h2) (fun res => kq σ0 res.2) := by
  unfold f_X12_agree_J20
  refine pr_c (z_X12_is h0 ) (fun rh3 σh3 h_1 => ?_)
  replace h_1 : kq σ0 σh3 := h_1
  refine pr_i (fun _ => ?_) (fun _ => ?_)
  ·
    exact pr_s h_1
  ·
    refine pr_b pr_any (fun rh5 _ => ?_)
    refine pr_i (fun _ => ?_) (fun _ => ?_)
    ·
      exact pr_s h_1
    ·
      exact pr_s h_1
theorem z_X12_agree_J19 {n : Nat} {σh7 : ms_T} {v1_h7 : Int32} {v2_h7 : Int32} {σ0 : ms_T} (h0 : kq σ0 σh7)  : pr (f_X12_agree_J19 n σh7 v1_h7 v2_h7) (fun res => kq σ0 res.2) := by
  unfold f_X12_agree_J19
  exact z_X12_agree_J20 h0 
theorem z_X12_agree {n : Nat} {σ : ms_T} {a1 : Int32} {a2 : Int32} {σ0 : ms_T} (h0 : kq σ0 σ)  : pr (f_X12_agree n σ a1 a2) (fun res => kq σ0 res.2) := by
  unfold f_X12_agree
  refine pr_b pr_any (fun rh1 _ => ?_)
  refine pr_i (fun _ => ?_) (fun _ => ?_)
  ·
    exact z_X12_agree_J19 h0 
  ·
    refine pr_b pr_any (fun rh9 _ => ?_)
    refine pr_i (fun _ => ?_) (fun _ => ?_)
    ·
      exact z_X12_agree_J19 h0 
    ·
      exact z_X12_agree_J20 h0 
theorem z_X12_where_J87 {n : Nat} {rec43 : ms_T → Int32 → Int32 → Int32 → Int32 → Int32 → Option (Int32 × ms_T)} {σh12 : ms_T} {v1_h12 : Int32} {v2_h12 : Int32} {v3_h12 : Int32} {v4_h12 : Int32} {v5_h12 : Int32} {σ0 : ms_T} (h0 : kq σ0 σh12) (hrec43 : ∀ {y0 : ms_T} {y1 : Int32} {y2 : Int32} {y3 : Int32} {y4 : Int32} {y5 : Int32}, kq σ0 y0 → pr (rec43 y0 y1 y2 y3 y4 y5) (fun res => kq σ0 res.2)) : pr (f_X12_where_J87 n rec43 σh12 v1_h12 v2_h12 v3_h12 v4_h12 v5_h12) (fun res => kq σ0 res.2) := by
  unfold f_X12_where_J87
  refine pr_ln (fun x13 _ => ?_)
  exact hrec43 h0
theorem z_X12_where_J85 {n : Nat} {rec43 : ms_T → Int32 → Int32 → Int32 → Int32 → Int32 → Option (Int32 × ms_T)} {σh16 : ms_T} {v1_h16 : Int32} {v2_h16 : Int32} {v3_h16 : Int32} {v5_h16 : Int32} {w0_h16 : Int32} {σ0 : ms_T} (h0 : kq σ0 σh16) (hrec43 : ∀ {y0 : ms_T} {y1 : Int32} {y2 : Int32} {y3 : Int32} {y4 : Int32} {y5 : Int32}, kq σ0 y0 → pr (rec43 y0 y1 y2 y3 y4 y5) (fun res => kq σ0 res.2)) : pr (f_X12_where_J85 n rec43 σh16 v1_h16 v2_h16 v3_h16 v5_h16 w0_h16) (fun res => kq σ0 res.2) := by
  unfold f_X12_where_J85
  exact z_X12_where_J87 h0 (fun h => hrec43 h)
theorem z_X12_where_L43 {n : Nat} {σ0 : ms_T}  : ∀ (k43 : Nat) {σh5 : ms_T} {v1_h5 : Int32} {v2_h5 : Int32} {v3_h5 : Int32} {v4_h5 : Int32} {v5_h5 : Int32}, kq σ0 σh5 → pr (f_X12_where_L43 n k43 σh5 v1_h5 v2_h5 v3_h5 v4_h5 v5_h5) (fun res => kq σ0 res.2) := by
  intro k43
  induction k43 with
  | zero => intro σh5 v1_h5 v2_h5 v3_h5 v4_h5 v5_h5 h0; rw [f_X12_where_L43.eq_1]; exact pr_0
  | succ k43 ih =>
    intro σh5 v1_h5 v2_h5 v3_h5 v4_h5 v5_h5 h0
    rw [f_X12_where_L43.eq_2]
    refine pr_b pr_any (fun rh6 _ => ?_)
    refine pr_i (fun _ => ?_) (fun _ => ?_)
    ·
      refine pr_i (fun _ => ?_) (fun _ => ?_)
      ·
        exact pr_s h0
      ·
        refine pr_i (fun _ => ?_) (fun _ => ?_)
        ·
          exact pr_s h0
        ·
          refine pr_c (z_X12_refuse h0 ) (fun rh10 σh10 h_1 => ?_)
          replace h_1 : kq σ0 σh10 := h_1
          exact pr_s h_1
    ·
      refine pr_b pr_any (fun rh11 _ => ?_)
      refine pr_i (fun _ => ?_) (fun _ => ?_)
      ·
        exact z_X12_where_J87 h0 (fun h => ih h)
      ·
        refine pr_ln (fun x15 _ => ?_)
        refine pr_i (fun _ => ?_) (fun _ => ?_)
        ·
          exact z_X12_where_J85 h0 (fun h => ih h)
        ·
          exact z_X12_where_J85 h0 (fun h => ih h)
theorem z_X12_where_J27 {n : Nat} {σh2 : ms_T} {v1_h2 : Int32} {v2_h2 : Int32} {w0_h2 : Int32} {σ0 : ms_T} (h0 : kq σ0 σh2)  : pr (f_X12_where_J27 n σh2 v1_h2 v2_h2 w0_h2) (fun res => kq σ0 res.2) := by
  unfold f_X12_where_J27
  refine pr_c (z_X12_is h0 ) (fun rh3 σh3 h_1 => ?_)
  replace h_1 : kq σ0 σh3 := h_1
  refine pr_i (fun _ => ?_) (fun _ => ?_)
  ·
    exact pr_s h_1
  ·
    exact z_X12_where_L43  _ h_1
theorem z_X12_where {n : Nat} {σ : ms_T} {a1 : Int32} {a2 : Int32} {σ0 : ms_T} (h0 : kq σ0 σ)  : pr (f_X12_where n σ a1 a2) (fun res => kq σ0 res.2) := by
  unfold f_X12_where
  refine pr_b pr_any (fun rh1 _ => ?_)
  refine pr_i (fun _ => ?_) (fun _ => ?_)
  ·
    exact z_X12_where_J27 h0 
  ·
    refine pr_b pr_any (fun rh19 _ => ?_)
    refine pr_i (fun _ => ?_) (fun _ => ?_)
    ·
      exact z_X12_where_J27 h0 
    ·
      exact z_X12_where_J27 h0 
theorem z_X12_seeks_J29 {n : Nat} {recM : ms_T → Int32 → Int32 → Option ms_T} {σh3 : ms_T} {v1_h3 : Int32} {v2_h3 : Int32} {σ0 : ms_T} (h0 : kq σ0 σh3) (hrecM : ∀ {y0 : ms_T} {y1 : Int32} {y2 : Int32}, kq σ0 y0 → pr (recM y0 y1 y2) (fun res => kq σ0 res)) : pr (f_X12_seeks_J29 n recM σh3 v1_h3 v2_h3) (fun res => kq σ0 res) := by
  unfold f_X12_seeks_J29
  refine pr_ln (fun σh4 e1 => ?_)
  have h_1 : kq σ0 σh4 := by rw [e1]; exact kq_sI rfl h0
  refine pr_i (fun _ => ?_) (fun _ => ?_)
  ·
    exact pr_s h_1
  ·
    refine pr_b pr_any (fun rh6 _ => ?_)
    refine pr_b (hrecM h_1) (fun σh7 h_2 => ?_)
    replace h_2 : kq σ0 σh7 := h_2
    refine pr_b (hrecM h_2) (fun σh8 h_3 => ?_)
    replace h_3 : kq σ0 σh8 := h_3
    exact pr_s h_3
theorem z_X12_seeks {n : Nat} {σ0 : ms_T}  : ∀ (d : Nat) {σ : ms_T} {a1 : Int32} {a2 : Int32}, kq σ0 σ → pr (f_X12_seeks n d σ a1 a2) (fun res => kq σ0 res) := by
  intro d
  induction d with
  | zero => intro σ a1 a2 h0; rw [f_X12_seeks.eq_1]; exact pr_0
  | succ d ih =>
    intro σ a1 a2 h0
    rw [f_X12_seeks.eq_2]
    refine pr_i (fun _ => ?_) (fun _ => ?_)
    ·
      exact pr_s h0
    ·
      refine pr_i (fun _ => ?_) (fun _ => ?_)
      ·
        refine pr_i (fun _ => ?_) (fun _ => ?_)
        ·
          refine pr_ln (fun σh10 e1 => ?_)
          have h_1 : kq σ0 σh10 := by rw [e1]; exact kq_sI rfl h0
          refine pr_ln (fun σh11 e2 => ?_)
          have h_2 : kq σ0 σh11 := by rw [e2]; exact kq_sI rfl h_1
          exact z_X12_seeks_J29 h_2 (fun h => ih h)
        ·
          exact z_X12_seeks_J29 h0 (fun h => ih h)
      ·
        exact pr_s h0
theorem z_X12_tree_J25 {n : Nat} {σh1 : ms_T} {v1_h1 : Int32} {v2_h1 : Int32} {v3_h1 : Int32} {v4_h1 : Int32} {w0_h1 : Int32} {σ0 : ms_T} (h0 : kq σ0 σh1)  : pr (f_X12_tree_J25 n σh1 v1_h1 v2_h1 v3_h1 v4_h1 w0_h1) (fun res => kq σ0 res.2) := by
  unfold f_X12_tree_J25
  refine pr_c (z_X12_is h0 ) (fun rh2 σh2 h_1 => ?_)
  replace h_1 : kq σ0 σh2 := h_1
  refine pr_i (fun _ => ?_) (fun _ => ?_)
  ·
    exact pr_s h_1
  ·
    refine pr_ln (fun σh4 e2 => ?_)
    have h_2 : kq σ0 σh4 := by rw [e2]; exact kq_sI rfl h_1
    refine pr_b (z_X12_seeks  _ h_2) (fun σh5 h_3 => ?_)
    replace h_3 : kq σ0 σh5 := h_3
    refine pr_i (fun _ => ?_) (fun _ => ?_)
    ·
      refine pr_i (fun _ => ?_) (fun _ => ?_)
      ·
        exact pr_s h_3
      ·
        refine pr_i (fun _ => ?_) (fun _ => ?_)
        ·
          exact pr_s h_3
        ·
          refine pr_b pr_any (fun rh9 _ => ?_)
          exact pr_s h_3
    ·
      refine pr_c (z_X12_refuse h_3 ) (fun rh10 σh10 h_4 => ?_)
      replace h_4 : kq σ0 σh10 := h_4
      exact pr_s h_4
theorem z_X12_tree_J15 {n : Nat} {σh11 : ms_T} {v1_h11 : Int32} {v2_h11 : Int32} {v3_h11 : Int32} {v4_h11 : Int32} {σ0 : ms_T} (h0 : kq σ0 σh11)  : pr (f_X12_tree_J15 n σh11 v1_h11 v2_h11 v3_h11 v4_h11) (fun res => kq σ0 res.2) := by
  unfold f_X12_tree_J15
  exact z_X12_tree_J25 h0 
theorem z_X12_tree {n : Nat} {σ : ms_T} {a1 : Int32} {a2 : Int32} {a3 : Int32} {a4 : Int32} {σ0 : ms_T} (h0 : kq σ0 σ)  : pr (f_X12_tree n σ a1 a2 a3 a4) (fun res => kq σ0 res.2) := by
  unfold f_X12_tree
  refine pr_i (fun _ => ?_) (fun _ => ?_)
  ·
    exact z_X12_tree_J15 h0 
  ·
    refine pr_b pr_any (fun rh13 _ => ?_)
    refine pr_i (fun _ => ?_) (fun _ => ?_)
    ·
      exact z_X12_tree_J15 h0 
    ·
      refine pr_b pr_any (fun rh15 _ => ?_)
      exact z_X12_tree_J25 h0 
theorem z_X12_proves_J57 {n : Nat} {σh1 : ms_T} {v1_h1 : Int32} {v2_h1 : Int32} {w0_h1 : Int32} {σ0 : ms_T} (h0 : kq σ0 σh1)  : pr (f_X12_proves_J57 n σh1 v1_h1 v2_h1 w0_h1) (fun res => kq σ0 res.2) := by
  unfold f_X12_proves_J57
  refine pr_c (z_X12_is h0 ) (fun rh2 σh2 h_1 => ?_)
  replace h_1 : kq σ0 σh2 := h_1
  refine pr_i (fun _ => ?_) (fun _ => ?_)
  ·
    exact pr_s h_1
  ·
    refine pr_b pr_any (fun rh4 _ => ?_)
    refine pr_b pr_any (fun rh5 _ => ?_)
    refine pr_b pr_any (fun rh6 _ => ?_)
    refine pr_b pr_any (fun rh7 _ => ?_)
    refine pr_b pr_any (fun rh8 _ => ?_)
    refine pr_c (z_X12_whyByRecord h_1 ) (fun rh9 σh9 h_2 => ?_)
    replace h_2 : kq σ0 σh9 := h_2
    exact pr_s h_2
theorem z_X12_proves_J9 {n : Nat} {σh10 : ms_T} {v1_h10 : Int32} {v2_h10 : Int32} {σ0 : ms_T} (h0 : kq σ0 σh10)  : pr (f_X12_proves_J9 n σh10 v1_h10 v2_h10) (fun res => kq σ0 res.2) := by
  unfold f_X12_proves_J9
  exact z_X12_proves_J57 h0 
theorem z_X12_proves_J33 {n : Nat} {σh14 : ms_T} {v1_h14 : Int32} {v2_h14 : Int32} {σ0 : ms_T} (h0 : kq σ0 σh14)  : pr (f_X12_proves_J33 n σh14 v1_h14 v2_h14) (fun res => kq σ0 res.2) := by
  unfold f_X12_proves_J33
  exact z_X12_proves_J57 h0 
theorem z_X12_proves {n : Nat} {σ : ms_T} {a1 : Int32} {a2 : Int32} {σ0 : ms_T} (h0 : kq σ0 σ)  : pr (f_X12_proves n σ a1 a2) (fun res => kq σ0 res.2) := by
  unfold f_X12_proves
  refine pr_i (fun _ => ?_) (fun _ => ?_)
  ·
    exact z_X12_proves_J9 h0 
  ·
    refine pr_i (fun _ => ?_) (fun _ => ?_)
    ·
      refine pr_g (fun _ _ => ?_)
      refine pr_i (fun _ => ?_) (fun _ => ?_)
      ·
        exact z_X12_proves_J33 h0 
      ·
        refine pr_g (fun _ _ => ?_)
        refine pr_i (fun _ => ?_) (fun _ => ?_)
        ·
          refine pr_b pr_any (fun rh18 _ => ?_)
          refine pr_b pr_any (fun rh19 _ => ?_)
          refine pr_i (fun _ => ?_) (fun _ => ?_)
          ·
            exact z_X12_proves_J57 h0 
          ·
            exact z_X12_proves_J57 h0 
        ·
          exact z_X12_proves_J33 h0 
    ·
      exact z_X12_proves_J9 h0 
theorem z_X12_longest_J100 {n : Nat} {rec45 : ms_T → Int32 → Int32 → Int32 → Int32 → Int32 → Int32 → Option (Int32 × ms_T)} {σh12 : ms_T} {v1_h12 : Int32} {v2_h12 : Int32} {v4_h12 : Int32} {v5_h12 : Int32} {v6_h12 : Int32} {w0_h12 : Int32} {σ0 : ms_T} (h0 : kq σ0 σh12) (hrec45 : ∀ {y0 : ms_T} {y1 : Int32} {y2 : Int32} {y3 : Int32} {y4 : Int32} {y5 : Int32} {y6 : Int32}, kq σ0 y0 → pr (rec45 y0 y1 y2 y3 y4 y5 y6) (fun res => kq σ0 res.2)) : pr (f_X12_longest_J100 n rec45 σh12 v1_h12 v2_h12 v4_h12 v5_h12 v6_h12 w0_h12) (fun res => kq σ0 res.2) := by
  unfold f_X12_longest_J100
  refine pr_ln (fun x13 _ => ?_)
  exact hrec45 h0
theorem z_X12_longest_J82 {n : Nat} {rec45 : ms_T → Int32 → Int32 → Int32 → Int32 → Int32 → Int32 → Option (Int32 × ms_T)} {σh11 : ms_T} {v1_h11 : Int32} {v2_h11 : Int32} {v3_h11 : Int32} {v5_h11 : Int32} {v6_h11 : Int32} {w0_h11 : Int32} {σ0 : ms_T} (h0 : kq σ0 σh11) (hrec45 : ∀ {y0 : ms_T} {y1 : Int32} {y2 : Int32} {y3 : Int32} {y4 : Int32} {y5 : Int32} {y6 : Int32}, kq σ0 y0 → pr (rec45 y0 y1 y2 y3 y4 y5 y6) (fun res => kq σ0 res.2)) : pr (f_X12_longest_J82 n rec45 σh11 v1_h11 v2_h11 v3_h11 v5_h11 v6_h11 w0_h11) (fun res => kq σ0 res.2) := by
  unfold f_X12_longest_J82
  refine pr_i (fun _ => ?_) (fun _ => ?_)
  ·
    exact z_X12_longest_J100 h0 (fun h => hrec45 h)
  ·
    exact z_X12_longest_J100 h0 (fun h => hrec45 h)
theorem z_X12_longest_L45 {n : Nat} {σ0 : ms_T}  : ∀ (k45 : Nat) {σh5 : ms_T} {v1_h5 : Int32} {v2_h5 : Int32} {v3_h5 : Int32} {v4_h5 : Int32} {v5_h5 : Int32} {v6_h5 : Int32}, kq σ0 σh5 → pr (f_X12_longest_L45 n k45 σh5 v1_h5 v2_h5 v3_h5 v4_h5 v5_h5 v6_h5) (fun res => kq σ0 res.2) := by
  intro k45
  induction k45 with
  | zero => intro σh5 v1_h5 v2_h5 v3_h5 v4_h5 v5_h5 v6_h5 h0; rw [f_X12_longest_L45.eq_1]; exact pr_0
  | succ k45 ih =>
    intro σh5 v1_h5 v2_h5 v3_h5 v4_h5 v5_h5 v6_h5 h0
    rw [f_X12_longest_L45.eq_2]
    refine pr_i (fun _ => ?_) (fun _ => ?_)
    ·
      refine pr_i (fun _ => ?_) (fun _ => ?_)
      ·
        exact pr_s h0
      ·
        refine pr_i (fun _ => ?_) (fun _ => ?_)
        ·
          exact pr_s h0
        ·
          exact pr_s h0
    ·
      refine pr_b (z_X12_inclusion h0 ) (fun σh9 h_1 => ?_)
      replace h_1 : kq σ0 σh9 := h_1
      refine pr_ln (fun x10 _ => ?_)
      refine pr_i (fun _ => ?_) (fun _ => ?_)
      ·
        exact z_X12_longest_J82 h_1 (fun h => ih h)
      ·
        exact z_X12_longest_J82 h_1 (fun h => ih h)
theorem z_X12_longest_J26 {n : Nat} {σh2 : ms_T} {v1_h2 : Int32} {v2_h2 : Int32} {w0_h2 : Int32} {σ0 : ms_T} (h0 : kq σ0 σh2)  : pr (f_X12_longest_J26 n σh2 v1_h2 v2_h2 w0_h2) (fun res => kq σ0 res.2) := by
  unfold f_X12_longest_J26
  refine pr_c (z_X12_is h0 ) (fun rh3 σh3 h_1 => ?_)
  replace h_1 : kq σ0 σh3 := h_1
  refine pr_i (fun _ => ?_) (fun _ => ?_)
  ·
    exact pr_s h_1
  ·
    exact z_X12_longest_L45  _ h_1
theorem z_X12_longest_J25 {n : Nat} {σh16 : ms_T} {v1_h16 : Int32} {v2_h16 : Int32} {σ0 : ms_T} (h0 : kq σ0 σh16)  : pr (f_X12_longest_J25 n σh16 v1_h16 v2_h16) (fun res => kq σ0 res.2) := by
  unfold f_X12_longest_J25
  exact z_X12_longest_J26 h0 
theorem z_X12_longest {n : Nat} {σ : ms_T} {a1 : Int32} {a2 : Int32} {σ0 : ms_T} (h0 : kq σ0 σ)  : pr (f_X12_longest n σ a1 a2) (fun res => kq σ0 res.2) := by
  unfold f_X12_longest
  refine pr_b pr_any (fun rh1 _ => ?_)
  refine pr_i (fun _ => ?_) (fun _ => ?_)
  ·
    exact z_X12_longest_J25 h0 
  ·
    refine pr_b pr_any (fun rh18 _ => ?_)
    refine pr_i (fun _ => ?_) (fun _ => ?_)
    ·
      exact z_X12_longest_J25 h0 
    ·
      exact z_X12_longest_J26 h0 
theorem z_X12_part_J198 {n : Nat} {rec123 : ms_T → Int32 → Int32 → Int32 → Int32 → Int32 → Int32 → Option (Int32 × ms_T)} {σh21 : ms_T} {v1_h21 : Int32} {v2_h21 : Int32} {v3_h21 : Int32} {v5_h21 : Int32} {v6_h21 : Int32} {w0_h21 : Int32} {σ0 : ms_T} (h0 : kq σ0 σh21) (hrec123 : ∀ {y0 : ms_T} {y1 : Int32} {y2 : Int32} {y3 : Int32} {y4 : Int32} {y5 : Int32} {y6 : Int32}, kq σ0 y0 → pr (rec123 y0 y1 y2 y3 y4 y5 y6) (fun res => kq σ0 res.2)) : pr (f_X12_part_J198 n rec123 σh21 v1_h21 v2_h21 v3_h21 v5_h21 v6_h21 w0_h21) (fun res => kq σ0 res.2) := by
  unfold f_X12_part_J198
  exact hrec123 h0
theorem z_X12_part_J180 {n : Nat} {rec123 : ms_T → Int32 → Int32 → Int32 → Int32 → Int32 → Int32 → Option (Int32 × ms_T)} {σh19 : ms_T} {v1_h19 : Int32} {v2_h19 : Int32} {v3_h19 : Int32} {v4_h19 : Int32} {v6_h19 : Int32} {v7_h19 : Int32} {v8_h19 : Int32} {w0_h19 : Int32} {w1_h19 : Int32} {σ0 : ms_T} (h0 : kq σ0 σh19) (hrec123 : ∀ {y0 : ms_T} {y1 : Int32} {y2 : Int32} {y3 : Int32} {y4 : Int32} {y5 : Int32} {y6 : Int32}, kq σ0 y0 → pr (rec123 y0 y1 y2 y3 y4 y5 y6) (fun res => kq σ0 res.2)) : pr (f_X12_part_J180 n rec123 σh19 v1_h19 v2_h19 v3_h19 v4_h19 v6_h19 v7_h19 v8_h19 w0_h19 w1_h19) (fun res => kq σ0 res.2) := by
  unfold f_X12_part_J180
  refine pr_ln (fun x20 _ => ?_)
  refine pr_i (fun _ => ?_) (fun _ => ?_)
  ·
    exact z_X12_part_J198 h0 (fun h => hrec123 h)
  ·
    exact z_X12_part_J198 h0 (fun h => hrec123 h)
theorem z_X12_part_J165 {n : Nat} {rec123 : ms_T → Int32 → Int32 → Int32 → Int32 → Int32 → Int32 → Option (Int32 × ms_T)} {σh18 : ms_T} {v1_h18 : Int32} {v2_h18 : Int32} {v3_h18 : Int32} {v4_h18 : Int32} {v5_h18 : Int32} {v6_h18 : Int32} {v7_h18 : Int32} {w0_h18 : Int32} {σ0 : ms_T} (h0 : kq σ0 σh18) (hrec123 : ∀ {y0 : ms_T} {y1 : Int32} {y2 : Int32} {y3 : Int32} {y4 : Int32} {y5 : Int32} {y6 : Int32}, kq σ0 y0 → pr (rec123 y0 y1 y2 y3 y4 y5 y6) (fun res => kq σ0 res.2)) : pr (f_X12_part_J165 n rec123 σh18 v1_h18 v2_h18 v3_h18 v4_h18 v5_h18 v6_h18 v7_h18 w0_h18) (fun res => kq σ0 res.2) := by
  unfold f_X12_part_J165
  refine pr_i (fun _ => ?_) (fun _ => ?_)
  ·
    exact z_X12_part_J180 h0 (fun h => hrec123 h)
  ·
    exact z_X12_part_J180 h0 (fun h => hrec123 h)
theorem z_X12_part_L123 {n : Nat} {σ0 : ms_T}  : ∀ (k123 : Nat) {σh11 : ms_T} {v1_h11 : Int32} {v2_h11 : Int32} {v3_h11 : Int32} {v4_h11 : Int32} {v5_h11 : Int32} {v6_h11 : Int32}, kq σ0 σh11 → pr (f_X12_part_L123 n k123 σh11 v1_h11 v2_h11 v3_h11 v4_h11 v5_h11 v6_h11) (fun res => kq σ0 res.2) := by
  intro k123
  induction k123 with
  | zero => intro σh11 v1_h11 v2_h11 v3_h11 v4_h11 v5_h11 v6_h11 h0; rw [f_X12_part_L123.eq_1]; exact pr_0
  | succ k123 ih =>
    intro σh11 v1_h11 v2_h11 v3_h11 v4_h11 v5_h11 v6_h11 h0
    rw [f_X12_part_L123.eq_2]
    refine pr_i (fun _ => ?_) (fun _ => ?_)
    ·
      refine pr_i (fun _ => ?_) (fun _ => ?_)
      ·
        exact pr_s h0
      ·
        exact pr_s h0
    ·
      refine pr_b pr_any (fun rh14 _ => ?_)
      refine pr_ln (fun x15 _ => ?_)
      refine pr_b pr_any (fun rh16 _ => ?_)
      refine pr_b pr_any (fun rh17 _ => ?_)
      refine pr_i (fun _ => ?_) (fun _ => ?_)
      ·
        exact z_X12_part_J165 h0 (fun h => ih h)
      ·
        exact z_X12_part_J165 h0 (fun h => ih h)
theorem z_X12_part_J69 {n : Nat} {σh7 : ms_T} {v1_h7 : Int32} {v2_h7 : Int32} {v3_h7 : Int32} {w0_h7 : Int32} {σ0 : ms_T} (h0 : kq σ0 σh7)  : pr (f_X12_part_J69 n σh7 v1_h7 v2_h7 v3_h7 w0_h7) (fun res => kq σ0 res.2) := by
  unfold f_X12_part_J69
  refine pr_b pr_any (fun rh8 _ => ?_)
  refine pr_b pr_any (fun rh9 _ => ?_)
  refine pr_i (fun _ => ?_) (fun _ => ?_)
  ·
    refine pr_i (fun _ => ?_) (fun _ => ?_)
    ·
      exact pr_s h0
    ·
      refine pr_b pr_any (fun rh26 _ => ?_)
      refine pr_b pr_any (fun rh27 _ => ?_)
      refine pr_i (fun _ => ?_) (fun _ => ?_)
      ·
        exact pr_s h0
      ·
        exact pr_s h0
  ·
    exact z_X12_part_L123  _ h0
theorem z_X12_part_J35 {n : Nat} {σh2 : ms_T} {v1_h2 : Int32} {v2_h2 : Int32} {v3_h2 : Int32} {w0_h2 : Int32} {σ0 : ms_T} (h0 : kq σ0 σh2)  : pr (f_X12_part_J35 n σh2 v1_h2 v2_h2 v3_h2 w0_h2) (fun res => kq σ0 res.2) := by
  unfold f_X12_part_J35
  refine pr_c (z_X12_is h0 ) (fun rh3 σh3 h_1 => ?_)
  replace h_1 : kq σ0 σh3 := h_1
  refine pr_i (fun _ => ?_) (fun _ => ?_)
  ·
    exact pr_s h_1
  ·
    refine pr_b pr_any (fun rh5 _ => ?_)
    refine pr_b pr_any (fun rh6 _ => ?_)
    refine pr_i (fun _ => ?_) (fun _ => ?_)
    ·
      refine pr_b pr_any (fun rh30 _ => ?_)
      exact z_X12_part_J69 h_1 
    ·
      refine pr_b pr_any (fun rh31 _ => ?_)
      exact z_X12_part_J69 h_1 
theorem z_X12_part_J30 {n : Nat} {σh34 : ms_T} {v1_h34 : Int32} {v2_h34 : Int32} {v3_h34 : Int32} {σ0 : ms_T} (h0 : kq σ0 σh34)  : pr (f_X12_part_J30 n σh34 v1_h34 v2_h34 v3_h34) (fun res => kq σ0 res.2) := by
  unfold f_X12_part_J30
  exact z_X12_part_J35 h0 
theorem z_X12_part {n : Nat} {σ : ms_T} {a1 : Int32} {a2 : Int32} {a3 : Int32} {σ0 : ms_T} (h0 : kq σ0 σ)  : pr (f_X12_part n σ a1 a2 a3) (fun res => kq σ0 res.2) := by
  unfold f_X12_part
  refine pr_b pr_any (fun rh1 _ => ?_)
  refine pr_i (fun _ => ?_) (fun _ => ?_)
  ·
    exact z_X12_part_J35 h0 
  ·
    refine pr_b pr_any (fun rh33 _ => ?_)
    refine pr_i (fun _ => ?_) (fun _ => ?_)
    ·
      exact z_X12_part_J30 h0 
    ·
      refine pr_b pr_any (fun rh36 _ => ?_)
      refine pr_i (fun _ => ?_) (fun _ => ?_)
      ·
        exact z_X12_part_J30 h0 
      ·
        exact z_X12_part_J35 h0 
theorem z_X12_blame_J190 {n : Nat} {rec127 : ms_T → Int32 → Int32 → Int32 → Int32 → Int32 → Int32 → Option (Int32 × ms_T)} {σh15 : ms_T} {v1_h15 : Int32} {v2_h15 : Int32} {v3_h15 : Int32} {v4_h15 : Int32} {v5_h15 : Int32} {v6_h15 : Int32} {σ0 : ms_T} (h0 : kq σ0 σh15) (hrec127 : ∀ {y0 : ms_T} {y1 : Int32} {y2 : Int32} {y3 : Int32} {y4 : Int32} {y5 : Int32} {y6 : Int32}, kq σ0 y0 → pr (rec127 y0 y1 y2 y3 y4 y5 y6) (fun res => kq σ0 res.2)) : pr (f_X12_blame_J190 n rec127 σh15 v1_h15 v2_h15 v3_h15 v4_h15 v5_h15 v6_h15) (fun res => kq σ0 res.2) := by
  unfold f_X12_blame_J190
  refine pr_ln (fun x16 _ => ?_)
  exact hrec127 h0
theorem z_X12_blame_L127 {n : Nat} {σ0 : ms_T}  : ∀ (k127 : Nat) {σh9 : ms_T} {v1_h9 : Int32} {v2_h9 : Int32} {v3_h9 : Int32} {v4_h9 : Int32} {v5_h9 : Int32} {v6_h9 : Int32}, kq σ0 σh9 → pr (f_X12_blame_L127 n k127 σh9 v1_h9 v2_h9 v3_h9 v4_h9 v5_h9 v6_h9) (fun res => kq σ0 res.2) := by
  intro k127
  induction k127 with
  | zero => intro σh9 v1_h9 v2_h9 v3_h9 v4_h9 v5_h9 v6_h9 h0; rw [f_X12_blame_L127.eq_1]; exact pr_0
  | succ k127 ih =>
    intro σh9 v1_h9 v2_h9 v3_h9 v4_h9 v5_h9 v6_h9 h0
    rw [f_X12_blame_L127.eq_2]
    refine pr_g (fun _ _ => ?_)
    refine pr_i (fun _ => ?_) (fun _ => ?_)
    ·
      refine pr_i (fun _ => ?_) (fun _ => ?_)
      ·
        exact pr_s h0
      ·
        refine pr_i (fun _ => ?_) (fun _ => ?_)
        ·
          exact pr_s h0
        ·
          exact pr_s h0
    ·
      refine pr_b pr_any (fun rh14 _ => ?_)
      refine pr_i (fun _ => ?_) (fun _ => ?_)
      ·
        refine pr_b pr_any (fun rh18 _ => ?_)
        refine pr_i (fun _ => ?_) (fun _ => ?_)
        ·
          exact z_X12_blame_J190 h0 (fun h => ih h)
        ·
          refine pr_b pr_any (fun rh20 _ => ?_)
          refine pr_i (fun _ => ?_) (fun _ => ?_)
          ·
            exact z_X12_blame_J190 h0 (fun h => ih h)
          ·
            refine pr_b pr_any (fun rh22 _ => ?_)
            refine pr_i (fun _ => ?_) (fun _ => ?_)
            ·
              exact z_X12_blame_J190 h0 (fun h => ih h)
            ·
              refine pr_b pr_any (fun rh24 _ => ?_)
              exact z_X12_blame_J190 h0 (fun h => ih h)
      ·
        exact z_X12_blame_J190 h0 (fun h => ih h)
theorem z_X12_blame_J122 {n : Nat} {σh8 : ms_T} {v1_h8 : Int32} {v2_h8 : Int32} {v3_h8 : Int32} {v4_h8 : Int32} {w0_h8 : Int32} {σ0 : ms_T} (h0 : kq σ0 σh8)  : pr (f_X12_blame_J122 n σh8 v1_h8 v2_h8 v3_h8 v4_h8 w0_h8) (fun res => kq σ0 res.2) := by
  unfold f_X12_blame_J122
  exact z_X12_blame_L127  _ h0
theorem z_X12_blame_J107 {n : Nat} {rec43 : ms_T → Int32 → Int32 → Int32 → Int32 → Int32 → Option (Int32 × ms_T)} {σh27 : ms_T} {v1_h27 : Int32} {v2_h27 : Int32} {v3_h27 : Int32} {v4_h27 : Int32} {v5_h27 : Int32} {σ0 : ms_T} (h0 : kq σ0 σh27) (hrec43 : ∀ {y0 : ms_T} {y1 : Int32} {y2 : Int32} {y3 : Int32} {y4 : Int32} {y5 : Int32}, kq σ0 y0 → pr (rec43 y0 y1 y2 y3 y4 y5) (fun res => kq σ0 res.2)) : pr (f_X12_blame_J107 n rec43 σh27 v1_h27 v2_h27 v3_h27 v4_h27 v5_h27) (fun res => kq σ0 res.2) := by
  unfold f_X12_blame_J107
  refine pr_ln (fun x28 _ => ?_)
  exact hrec43 h0
theorem z_X12_blame_J106 {n : Nat} {rec43 : ms_T → Int32 → Int32 → Int32 → Int32 → Int32 → Option (Int32 × ms_T)} {σh33 : ms_T} {v1_h33 : Int32} {v2_h33 : Int32} {v4_h33 : Int32} {v5_h33 : Int32} {w0_h33 : Int32} {σ0 : ms_T} (h0 : kq σ0 σh33) (hrec43 : ∀ {y0 : ms_T} {y1 : Int32} {y2 : Int32} {y3 : Int32} {y4 : Int32} {y5 : Int32}, kq σ0 y0 → pr (rec43 y0 y1 y2 y3 y4 y5) (fun res => kq σ0 res.2)) : pr (f_X12_blame_J106 n rec43 σh33 v1_h33 v2_h33 v4_h33 v5_h33 w0_h33) (fun res => kq σ0 res.2) := by
  unfold f_X12_blame_J106
  exact z_X12_blame_J107 h0 (fun h => hrec43 h)
theorem z_X12_blame_J95 {n : Nat} {rec43 : ms_T → Int32 → Int32 → Int32 → Int32 → Int32 → Option (Int32 × ms_T)} {σh34 : ms_T} {v1_h34 : Int32} {v2_h34 : Int32} {v4_h34 : Int32} {v5_h34 : Int32} {σ0 : ms_T} (h0 : kq σ0 σh34) (hrec43 : ∀ {y0 : ms_T} {y1 : Int32} {y2 : Int32} {y3 : Int32} {y4 : Int32} {y5 : Int32}, kq σ0 y0 → pr (rec43 y0 y1 y2 y3 y4 y5) (fun res => kq σ0 res.2)) : pr (f_X12_blame_J95 n rec43 σh34 v1_h34 v2_h34 v4_h34 v5_h34) (fun res => kq σ0 res.2) := by
  unfold f_X12_blame_J95
  refine pr_b pr_any (fun rh35 _ => ?_)
  exact z_X12_blame_J106 h0 (fun h => hrec43 h)
theorem z_X12_blame_L43 {n : Nat} {σ0 : ms_T}  : ∀ (k43 : Nat) {σh5 : ms_T} {v1_h5 : Int32} {v2_h5 : Int32} {v3_h5 : Int32} {v4_h5 : Int32} {v5_h5 : Int32}, kq σ0 σh5 → pr (f_X12_blame_L43 n k43 σh5 v1_h5 v2_h5 v3_h5 v4_h5 v5_h5) (fun res => kq σ0 res.2) := by
  intro k43
  induction k43 with
  | zero => intro σh5 v1_h5 v2_h5 v3_h5 v4_h5 v5_h5 h0; rw [f_X12_blame_L43.eq_1]; exact pr_0
  | succ k43 ih =>
    intro σh5 v1_h5 v2_h5 v3_h5 v4_h5 v5_h5 h0
    rw [f_X12_blame_L43.eq_2]
    refine pr_g (fun _ _ => ?_)
    refine pr_i (fun _ => ?_) (fun _ => ?_)
    ·
      refine pr_i (fun _ => ?_) (fun _ => ?_)
      ·
        exact z_X12_blame_J122 h0 
      ·
        exact z_X12_blame_J122 h0 
    ·
      refine pr_b pr_any (fun rh26 _ => ?_)
      refine pr_i (fun _ => ?_) (fun _ => ?_)
      ·
        refine pr_b pr_any (fun rh30 _ => ?_)
        refine pr_i (fun _ => ?_) (fun _ => ?_)
        ·
          refine pr_ln (fun x32 _ => ?_)
          refine pr_i (fun _ => ?_) (fun _ => ?_)
          ·
            exact z_X12_blame_J95 h0 (fun h => ih h)
          ·
            refine pr_b pr_any (fun rh37 _ => ?_)
            refine pr_i (fun _ => ?_) (fun _ => ?_)
            ·
              exact z_X12_blame_J106 h0 (fun h => ih h)
            ·
              exact z_X12_blame_J95 h0 (fun h => ih h)
        ·
          exact z_X12_blame_J107 h0 (fun h => ih h)
      ·
        exact z_X12_blame_J107 h0 (fun h => ih h)
theorem z_X12_blame_J27 {n : Nat} {σh2 : ms_T} {v1_h2 : Int32} {v2_h2 : Int32} {w0_h2 : Int32} {σ0 : ms_T} (h0 : kq σ0 σh2)  : pr (f_X12_blame_J27 n σh2 v1_h2 v2_h2 w0_h2) (fun res => kq σ0 res.2) := by
  unfold f_X12_blame_J27
  refine pr_c (z_X12_is h0 ) (fun rh3 σh3 h_1 => ?_)
  replace h_1 : kq σ0 σh3 := h_1
  refine pr_i (fun _ => ?_) (fun _ => ?_)
  ·
    exact pr_s h_1
  ·
    exact z_X12_blame_L43  _ h_1
theorem z_X12_blame {n : Nat} {σ : ms_T} {a1 : Int32} {a2 : Int32} {σ0 : ms_T} (h0 : kq σ0 σ)  : pr (f_X12_blame n σ a1 a2) (fun res => kq σ0 res.2) := by
  unfold f_X12_blame
  refine pr_b pr_any (fun rh1 _ => ?_)
  refine pr_i (fun _ => ?_) (fun _ => ?_)
  ·
    exact z_X12_blame_J27 h0 
  ·
    refine pr_b pr_any (fun rh40 _ => ?_)
    refine pr_i (fun _ => ?_) (fun _ => ?_)
    ·
      exact z_X12_blame_J27 h0 
    ·
      exact z_X12_blame_J27 h0 
theorem z_X12_weak_J108 {n : Nat} {rec73 : ms_T → Int32 → Int32 → Int32 → Int32 → Int32 → Int32 → Int32 → Int32 → Option (Int32 × ms_T)} {σh15 : ms_T} {v2_h15 : Int32} {v3_h15 : Int32} {v4_h15 : Int32} {v5_h15 : Int32} {v6_h15 : Int32} {v7_h15 : Int32} {v8_h15 : Int32} {v9_h15 : Int32} {σ0 : ms_T} (h0 : kq σ0 σh15) (hrec73 : ∀ {y0 : ms_T} {y1 : Int32} {y2 : Int32} {y3 : Int32} {y4 : Int32} {y5 : Int32} {y6 : Int32} {y7 : Int32} {y8 : Int32}, kq σ0 y0 → pr (rec73 y0 y1 y2 y3 y4 y5 y6 y7 y8) (fun res => kq σ0 res.2)) : pr (f_X12_weak_J108 n rec73 σh15 v2_h15 v3_h15 v4_h15 v5_h15 v6_h15 v7_h15 v8_h15 v9_h15) (fun res => kq σ0 res.2) := by
  unfold f_X12_weak_J108
  refine pr_ln (fun x16 _ => ?_)
  exact hrec73 h0
theorem z_X12_weak_L73 {n : Nat} {σ0 : ms_T}  : ∀ (k73 : Nat) {σh10 : ms_T} {v2_h10 : Int32} {v3_h10 : Int32} {v4_h10 : Int32} {v5_h10 : Int32} {v6_h10 : Int32} {v7_h10 : Int32} {v8_h10 : Int32} {v9_h10 : Int32}, kq σ0 σh10 → pr (f_X12_weak_L73 n k73 σh10 v2_h10 v3_h10 v4_h10 v5_h10 v6_h10 v7_h10 v8_h10 v9_h10) (fun res => kq σ0 res.2) := by
  intro k73
  induction k73 with
  | zero => intro σh10 v2_h10 v3_h10 v4_h10 v5_h10 v6_h10 v7_h10 v8_h10 v9_h10 h0; rw [f_X12_weak_L73.eq_1]; exact pr_0
  | succ k73 ih =>
    intro σh10 v2_h10 v3_h10 v4_h10 v5_h10 v6_h10 v7_h10 v8_h10 v9_h10 h0
    rw [f_X12_weak_L73.eq_2]
    refine pr_i (fun _ => ?_) (fun _ => ?_)
    ·
      refine pr_i (fun _ => ?_) (fun _ => ?_)
      ·
        exact pr_s h0
      ·
        refine pr_i (fun _ => ?_) (fun _ => ?_)
        ·
          exact pr_s h0
        ·
          refine pr_c (z_X12_refuse h0 ) (fun rh14 σh14 h_1 => ?_)
          replace h_1 : kq σ0 σh14 := h_1
          exact pr_s h_1
    ·
      refine pr_i (fun _ => ?_) (fun _ => ?_)
      ·
        exact z_X12_weak_J108 h0 (fun h => ih h)
      ·
        refine pr_c (z_X12_folded h0 ) (fun rh18 σh18 h_2 => ?_)
        replace h_2 : kq σ0 σh18 := h_2
        refine pr_i (fun _ => ?_) (fun _ => ?_)
        ·
          refine pr_ln (fun x20 _ => ?_)
          exact z_X12_weak_J108 h_2 (fun h => ih h)
        ·
          exact z_X12_weak_J108 h_2 (fun h => ih h)
theorem z_X12_weak_J22 {n : Nat} {σh2 : ms_T} {v1_h2 : Int32} {v2_h2 : Int32} {v3_h2 : Int32} {v4_h2 : Int32} {w0_h2 : Int32} {σ0 : ms_T} (h0 : kq σ0 σh2)  : pr (f_X12_weak_J22 n σh2 v1_h2 v2_h2 v3_h2 v4_h2 w0_h2) (fun res => kq σ0 res.2) := by
  unfold f_X12_weak_J22
  refine pr_c (z_X12_is h0 ) (fun rh3 σh3 h_1 => ?_)
  replace h_1 : kq σ0 σh3 := h_1
  refine pr_i (fun _ => ?_) (fun _ => ?_)
  ·
    exact pr_s h_1
  ·
    refine pr_b (z_X12_inclusion h_1 ) (fun σh5 h_2 => ?_)
    replace h_2 : kq σ0 σh5 := h_2
    refine pr_b (z_X12_fetches h_2 ) (fun σh6 h_3 => ?_)
    replace h_3 : kq σ0 σh6 := h_3
    refine pr_b pr_any (fun rh7 _ => ?_)
    refine pr_b pr_any (fun rh8 _ => ?_)
    refine pr_g (fun _ _ => ?_)
    refine pr_ln (fun x21 _ => ?_)
    exact z_X12_weak_L73  _ h_3
theorem z_X12_weak {n : Nat} {σ : ms_T} {a1 : Int32} {a2 : Int32} {a3 : Int32} {a4 : Int32} {σ0 : ms_T} (h0 : kq σ0 σ)  : pr (f_X12_weak n σ a1 a2 a3 a4) (fun res => kq σ0 res.2) := by
  unfold f_X12_weak
  refine pr_b pr_any (fun rh1 _ => ?_)
  refine pr_i (fun _ => ?_) (fun _ => ?_)
  ·
    exact z_X12_weak_J22 h0 
  ·
    refine pr_b pr_any (fun rh23 _ => ?_)
    exact z_X12_weak_J22 h0 
theorem z_X12_stepsIn_J102 {n : Nat} {recM : ms_T → Int32 → Int32 → Int32 → Option (Int32 × ms_T)} {σh7 : ms_T} {w0_h7 : Int32} {w1_h7 : Int32} {σ0 : ms_T} (h0 : kq σ0 σh7) (hrecM : ∀ {y0 : ms_T} {y1 : Int32} {y2 : Int32} {y3 : Int32}, kq σ0 y0 → pr (recM y0 y1 y2 y3) (fun res => kq σ0 res.2)) : pr (f_X12_stepsIn_J102 n recM σh7 w0_h7 w1_h7) (fun res => kq σ0 res.2) := by
  unfold f_X12_stepsIn_J102
  refine pr_g (fun _ _ => ?_)
  refine pr_ln (fun σh9 e1 => ?_)
  have h_1 : kq σ0 σh9 := by rw [e1]; exact kq_sE rfl h0
  refine pr_g (fun _ _ => ?_)
  refine pr_g (fun _ _ => ?_)
  refine pr_b pr_any (fun rh12 _ => ?_)
  refine pr_g (fun _ _ => ?_)
  refine pr_ln (fun σh14 e2 => ?_)
  have h_2 : kq σ0 σh14 := by rw [e2]; exact kq_sE rfl h_1
  refine pr_ln (fun σh15 e3 => ?_)
  have h_3 : kq σ0 σh15 := by rw [e3]; exact kq_sI rfl h_2
  refine pr_g (fun _ _ => ?_)
  exact pr_s h_3
theorem z_X12_stepsIn_J73 {n : Nat} {recM : ms_T → Int32 → Int32 → Int32 → Option (Int32 × ms_T)} {σh4 : ms_T} {v2_h4 : Int32} {v4_h4 : Int32} {v5_h4 : Int32} {w0_h4 : Int32} {w1_h4 : Int32} {σ0 : ms_T} (h0 : kq σ0 σh4) (hrecM : ∀ {y0 : ms_T} {y1 : Int32} {y2 : Int32} {y3 : Int32}, kq σ0 y0 → pr (recM y0 y1 y2 y3) (fun res => kq σ0 res.2)) : pr (f_X12_stepsIn_J73 n recM σh4 v2_h4 v4_h4 v5_h4 w0_h4 w1_h4) (fun res => kq σ0 res.2) := by
  unfold f_X12_stepsIn_J73
  refine pr_g (fun _ _ => ?_)
  refine pr_ln (fun σh6 e1 => ?_)
  have h_1 : kq σ0 σh6 := by rw [e1]; exact kq_sE rfl h0
  refine pr_i (fun _ => ?_) (fun _ => ?_)
  ·
    exact z_X12_stepsIn_J102 h_1 (fun h => hrecM h)
  ·
    refine pr_g (fun _ _ => ?_)
    exact z_X12_stepsIn_J102 h_1 (fun h => hrecM h)
theorem z_X12_stepsIn_J43 {n : Nat} {recM : ms_T → Int32 → Int32 → Int32 → Option (Int32 × ms_T)} {σh3 : ms_T} {v2_h3 : Int32} {v4_h3 : Int32} {w0_h3 : Int32} {σ0 : ms_T} (h0 : kq σ0 σh3) (hrecM : ∀ {y0 : ms_T} {y1 : Int32} {y2 : Int32} {y3 : Int32}, kq σ0 y0 → pr (recM y0 y1 y2 y3) (fun res => kq σ0 res.2)) : pr (f_X12_stepsIn_J43 n recM σh3 v2_h3 v4_h3 w0_h3) (fun res => kq σ0 res.2) := by
  unfold f_X12_stepsIn_J43
  refine pr_i (fun _ => ?_) (fun _ => ?_)
  ·
    refine pr_g (fun _ _ => ?_)
    exact z_X12_stepsIn_J73 h0 (fun h => hrecM h)
  ·
    exact z_X12_stepsIn_J73 h0 (fun h => hrecM h)
theorem z_X12_stepsIn {n : Nat} {σ0 : ms_T}  : ∀ (d : Nat) {σ : ms_T} {a1 : Int32} {a2 : Int32} {a3 : Int32}, kq σ0 σ → pr (f_X12_stepsIn n d σ a1 a2 a3) (fun res => kq σ0 res.2) := by
  intro d
  induction d with
  | zero => intro σ a1 a2 a3 h0; rw [f_X12_stepsIn.eq_1]; exact pr_0
  | succ d ih =>
    intro σ a1 a2 a3 h0
    rw [f_X12_stepsIn.eq_2]
    refine pr_i (fun _ => ?_) (fun _ => ?_)
    ·
      exact pr_s h0
    ·
      refine pr_b pr_any (fun rh2 _ => ?_)
      refine pr_i (fun _ => ?_) (fun _ => ?_)
      ·
        refine pr_c (ih h0) (fun rh22 σh22 h_1 => ?_)
        replace h_1 : kq σ0 σh22 := h_1
        exact z_X12_stepsIn_J43 h_1 (fun h => ih h)
      ·
        refine pr_c (ih h0) (fun rh23 σh23 h_2 => ?_)
        replace h_2 : kq σ0 σh23 := h_2
        exact z_X12_stepsIn_J43 h_2 (fun h => ih h)
theorem z_X12_clash_J301 {n : Nat} {rec172 : ms_T → Int32 → Int32 → Option (Int32 × ms_T)} {σh23 : ms_T} {v5_h23 : Int32} {v6_h23 : Int32} {σ0 : ms_T} (h0 : kq σ0 σh23) (hrec172 : ∀ {y0 : ms_T} {y1 : Int32} {y2 : Int32}, kq σ0 y0 → pr (rec172 y0 y1 y2) (fun res => kq σ0 res.2)) : pr (f_X12_clash_J301 n rec172 σh23 v5_h23 v6_h23) (fun res => kq σ0 res.2) := by
  unfold f_X12_clash_J301
  refine pr_ln (fun x24 _ => ?_)
  exact hrec172 h0
theorem z_X12_clash_J235 {n : Nat} {σh28 : ms_T} {v5_h28 : Int32} {v6_h28 : Int32} {σ0 : ms_T} (h0 : kq σ0 σh28)  : pr (f_X12_clash_J235 n σh28 v5_h28 v6_h28) (fun res => kq σ0 res.2) := by
  unfold f_X12_clash_J235
  refine pr_i (fun _ => ?_) (fun _ => ?_)
  ·
    exact pr_s h0
  ·
    refine pr_i (fun _ => ?_) (fun _ => ?_)
    ·
      refine pr_g (fun _ _ => ?_)
      exact pr_s h0
    ·
      refine pr_i (fun _ => ?_) (fun _ => ?_)
      ·
        refine pr_g (fun _ _ => ?_)
        exact pr_s h0
      ·
        refine pr_i (fun _ => ?_) (fun _ => ?_)
        ·
          refine pr_g (fun _ _ => ?_)
          exact pr_s h0
        ·
          refine pr_g (fun _ _ => ?_)
          exact pr_s h0
theorem z_X12_clash_L172 {n : Nat} {σ0 : ms_T}  : ∀ (k172 : Nat) {σh18 : ms_T} {v5_h18 : Int32} {v6_h18 : Int32}, kq σ0 σh18 → pr (f_X12_clash_L172 n k172 σh18 v5_h18 v6_h18) (fun res => kq σ0 res.2) := by
  intro k172
  induction k172 with
  | zero => intro σh18 v5_h18 v6_h18 h0; rw [f_X12_clash_L172.eq_1]; exact pr_0
  | succ k172 ih =>
    intro σh18 v5_h18 v6_h18 h0
    rw [f_X12_clash_L172.eq_2]
    refine pr_i (fun _ => ?_) (fun _ => ?_)
    ·
      refine pr_c (z_X12_refuse h0 ) (fun rh20 σh20 h_1 => ?_)
      replace h_1 : kq σ0 σh20 := h_1
      exact pr_s h_1
    ·
      refine pr_g (fun _ _ => ?_)
      refine pr_g (fun _ _ => ?_)
      refine pr_i (fun _ => ?_) (fun _ => ?_)
      ·
        refine pr_g (fun _ _ => ?_)
        refine pr_g (fun _ _ => ?_)
        refine pr_i (fun _ => ?_) (fun _ => ?_)
        ·
          refine pr_g (fun _ _ => ?_)
          refine pr_g (fun _ _ => ?_)
          refine pr_i (fun _ => ?_) (fun _ => ?_)
          ·
            exact z_X12_clash_J301 h0 (fun h => ih h)
          ·
            exact z_X12_clash_J235 h0 
        ·
          exact z_X12_clash_J235 h0 
      ·
        exact z_X12_clash_J301 h0 (fun h => ih h)
theorem z_X12_clash_L83 {n : Nat} {σ0 : ms_T}  : ∀ (k83 : Nat) {σh11 : ms_T} {v1_h11 : Int32} {v2_h11 : Int32} {v3_h11 : Int32} {v5_h11 : Int32} {v6_h11 : Int32}, kq σ0 σh11 → pr (f_X12_clash_L83 n k83 σh11 v1_h11 v2_h11 v3_h11 v5_h11 v6_h11) (fun res => kq σ0 res.2) := by
  intro k83
  induction k83 with
  | zero => intro σh11 v1_h11 v2_h11 v3_h11 v5_h11 v6_h11 h0; rw [f_X12_clash_L83.eq_1]; exact pr_0
  | succ k83 ih =>
    intro σh11 v1_h11 v2_h11 v3_h11 v5_h11 v6_h11 h0
    rw [f_X12_clash_L83.eq_2]
    refine pr_i (fun _ => ?_) (fun _ => ?_)
    ·
      refine pr_b (z_X12_inclusion h0 ) (fun σh13 h_1 => ?_)
      replace h_1 : kq σ0 σh13 := h_1
      refine pr_b (z_X12_fetches h_1 ) (fun σh14 h_2 => ?_)
      replace h_2 : kq σ0 σh14 := h_2
      refine pr_ln (fun σh15 e3 => ?_)
      have h_3 : kq σ0 σh15 := by rw [e3]; exact kq_sI rfl h_2
      refine pr_b pr_any (fun rh16 _ => ?_)
      refine pr_c (z_X12_stepsIn  _ h_3) (fun rh17 σh17 h_4 => ?_)
      replace h_4 : kq σ0 σh17 := h_4
      exact z_X12_clash_L172  _ h_4
    ·
      refine pr_g (fun _ _ => ?_)
      refine pr_g (fun _ _ => ?_)
      refine pr_ln (fun σh43 e5 => ?_)
      have h_5 : kq σ0 σh43 := by rw [e5]; exact kq_sE rfl h0
      refine pr_g (fun _ _ => ?_)
      refine pr_g (fun _ _ => ?_)
      refine pr_ln (fun σh46 e6 => ?_)
      have h_6 : kq σ0 σh46 := by rw [e6]; exact kq_sE rfl h_5
      refine pr_g (fun _ _ => ?_)
      refine pr_g (fun _ _ => ?_)
      refine pr_ln (fun σh49 e7 => ?_)
      have h_7 : kq σ0 σh49 := by rw [e7]; exact kq_sE rfl h_6
      refine pr_ln (fun x50 _ => ?_)
      exact ih h_7
theorem z_X12_clash_J31 {n : Nat} {σh2 : ms_T} {v1_h2 : Int32} {v2_h2 : Int32} {v3_h2 : Int32} {v4_h2 : Int32} {v5_h2 : Int32} {w0_h2 : Int32} {σ0 : ms_T} (h0 : kq σ0 σh2)  : pr (f_X12_clash_J31 n σh2 v1_h2 v2_h2 v3_h2 v4_h2 v5_h2 w0_h2) (fun res => kq σ0 res.2) := by
  unfold f_X12_clash_J31
  refine pr_c (z_X12_is h0 ) (fun rh3 σh3 h_1 => ?_)
  replace h_1 : kq σ0 σh3 := h_1
  refine pr_i (fun _ => ?_) (fun _ => ?_)
  ·
    exact pr_s h_1
  ·
    refine pr_c (z_X12_fromPad h_1 ) (fun rh5 σh5 h_2 => ?_)
    replace h_2 : kq σ0 σh5 := h_2
    refine pr_b pr_any (fun rh6 _ => ?_)
    refine pr_c (z_X12_whyIn h_2 ) (fun rh7 σh7 h_3 => ?_)
    replace h_3 : kq σ0 σh7 := h_3
    refine pr_i (fun _ => ?_) (fun _ => ?_)
    ·
      refine pr_ln (fun σh9 e4 => ?_)
      have h_4 : kq σ0 σh9 := by rw [e4]; exact kq_sI rfl h_3
      refine pr_c (z_X12_stepsIn  _ h_4) (fun rh10 σh10 h_5 => ?_)
      replace h_5 : kq σ0 σh10 := h_5
      exact z_X12_clash_L83  _ h_5
    ·
      refine pr_c (z_X12_refuse h_3 ) (fun rh51 σh51 h_6 => ?_)
      replace h_6 : kq σ0 σh51 := h_6
      exact pr_s h_6
theorem z_X12_clash_J20 {n : Nat} {σh52 : ms_T} {v1_h52 : Int32} {v2_h52 : Int32} {v3_h52 : Int32} {v4_h52 : Int32} {v5_h52 : Int32} {σ0 : ms_T} (h0 : kq σ0 σh52)  : pr (f_X12_clash_J20 n σh52 v1_h52 v2_h52 v3_h52 v4_h52 v5_h52) (fun res => kq σ0 res.2) := by
  unfold f_X12_clash_J20
  exact z_X12_clash_J31 h0 
theorem z_X12_clash {n : Nat} {σ : ms_T} {a1 : Int32} {a2 : Int32} {a3 : Int32} {a4 : Int32} {a5 : Int32} {σ0 : ms_T} (h0 : kq σ0 σ)  : pr (f_X12_clash n σ a1 a2 a3 a4 a5) (fun res => kq σ0 res.2) := by
  unfold f_X12_clash
  refine pr_b pr_any (fun rh1 _ => ?_)
  refine pr_i (fun _ => ?_) (fun _ => ?_)
  ·
    exact z_X12_clash_J20 h0 
  ·
    refine pr_b pr_any (fun rh54 _ => ?_)
    refine pr_i (fun _ => ?_) (fun _ => ?_)
    ·
      exact z_X12_clash_J20 h0 
    ·
      refine pr_b pr_any (fun rh56 _ => ?_)
      exact z_X12_clash_J31 h0 
theorem z_X12_forge_J71 {n : Nat} {σh7 : ms_T} {σ0 : ms_T} (h0 : kq σ0 σh7)  : pr (f_X12_forge_J71 n σh7) (fun res => kq σ0 res.2) := by
  unfold f_X12_forge_J71
  refine pr_c (z_X12_refuse h0 ) (fun rh8 σh8 h_1 => ?_)
  replace h_1 : kq σ0 σh8 := h_1
  exact pr_s h_1
theorem z_X12_forge_L80 {n : Nat} {σ0 : ms_T}  : ∀ (k80 : Nat) {σh11 : ms_T} {v1_h11 : Int32} {v2_h11 : Int32} {v3_h11 : Int32} {v4_h11 : Int32} {v5_h11 : Int32} {v6_h11 : Int32}, kq σ0 σh11 → pr (f_X12_forge_L80 n k80 σh11 v1_h11 v2_h11 v3_h11 v4_h11 v5_h11 v6_h11) (fun res => kq σ0 res.2) := by
  intro k80
  induction k80 with
  | zero => intro σh11 v1_h11 v2_h11 v3_h11 v4_h11 v5_h11 v6_h11 h0; rw [f_X12_forge_L80.eq_1]; exact pr_0
  | succ k80 ih =>
    intro σh11 v1_h11 v2_h11 v3_h11 v4_h11 v5_h11 v6_h11 h0
    rw [f_X12_forge_L80.eq_2]
    refine pr_g (fun _ _ => ?_)
    refine pr_i (fun _ => ?_) (fun _ => ?_)
    ·
      refine pr_c (z_X12_refuse h0 ) (fun rh14 σh14 h_1 => ?_)
      replace h_1 : kq σ0 σh14 := h_1
      exact pr_s h_1
    ·
      refine pr_g (fun _ _ => ?_)
      refine pr_ln (fun σh16 e2 => ?_)
      have h_2 : kq σ0 σh16 := by rw [e2]; exact kq_sE rfl h0
      refine pr_c (z_X12_folded h_2 ) (fun rh17 σh17 h_3 => ?_)
      replace h_3 : kq σ0 σh17 := h_3
      refine pr_i (fun _ => ?_) (fun _ => ?_)
      ·
        exact pr_s h_3
      ·
        refine pr_ln (fun x19 _ => ?_)
        exact ih h_3
theorem z_X12_forge_J37 {n : Nat} {σh2 : ms_T} {v1_h2 : Int32} {v2_h2 : Int32} {v3_h2 : Int32} {v4_h2 : Int32} {v5_h2 : Int32} {w0_h2 : Int32} {σ0 : ms_T} (h0 : kq σ0 σh2)  : pr (f_X12_forge_J37 n σh2 v1_h2 v2_h2 v3_h2 v4_h2 v5_h2 w0_h2) (fun res => kq σ0 res.2) := by
  unfold f_X12_forge_J37
  refine pr_c (z_X12_is h0 ) (fun rh3 σh3 h_1 => ?_)
  replace h_1 : kq σ0 σh3 := h_1
  refine pr_i (fun _ => ?_) (fun _ => ?_)
  ·
    exact pr_s h_1
  ·
    refine pr_b (z_X12_inclusion h_1 ) (fun σh5 h_2 => ?_)
    replace h_2 : kq σ0 σh5 := h_2
    refine pr_c (z_X12_fromPad h_2 ) (fun rh6 σh6 h_3 => ?_)
    replace h_3 : kq σ0 σh6 := h_3
    refine pr_i (fun _ => ?_) (fun _ => ?_)
    ·
      refine pr_i (fun _ => ?_) (fun _ => ?_)
      ·
        exact z_X12_forge_L80  _ h_3
      ·
        exact z_X12_forge_J71 h_3 
    ·
      exact z_X12_forge_J71 h_3 
theorem z_X12_forge_J36 {n : Nat} {σh20 : ms_T} {v1_h20 : Int32} {v2_h20 : Int32} {v3_h20 : Int32} {v4_h20 : Int32} {v5_h20 : Int32} {σ0 : ms_T} (h0 : kq σ0 σh20)  : pr (f_X12_forge_J36 n σh20 v1_h20 v2_h20 v3_h20 v4_h20 v5_h20) (fun res => kq σ0 res.2) := by
  unfold f_X12_forge_J36
  exact z_X12_forge_J37 h0 
theorem z_X12_forge {n : Nat} {σ : ms_T} {a1 : Int32} {a2 : Int32} {a3 : Int32} {a4 : Int32} {a5 : Int32} {σ0 : ms_T} (h0 : kq σ0 σ)  : pr (f_X12_forge n σ a1 a2 a3 a4 a5) (fun res => kq σ0 res.2) := by
  unfold f_X12_forge
  refine pr_b pr_any (fun rh1 _ => ?_)
  refine pr_i (fun _ => ?_) (fun _ => ?_)
  ·
    exact z_X12_forge_J36 h0 
  ·
    refine pr_i (fun _ => ?_) (fun _ => ?_)
    ·
      exact z_X12_forge_J36 h0 
    ·
      refine pr_b pr_any (fun rh23 _ => ?_)
      refine pr_i (fun _ => ?_) (fun _ => ?_)
      ·
        exact z_X12_forge_J36 h0 
      ·
        refine pr_b pr_any (fun rh25 _ => ?_)
        refine pr_i (fun _ => ?_) (fun _ => ?_)
        ·
          exact z_X12_forge_J36 h0 
        ·
          exact z_X12_forge_J37 h0 
theorem z_X12_trace_J60 {n : Nat} {σh6 : ms_T} {σ0 : ms_T} (h0 : kq σ0 σh6)  : pr (f_X12_trace_J60 n σh6) (fun res => kq σ0 res.2) := by
  unfold f_X12_trace_J60
  refine pr_c (z_X12_refuse h0 ) (fun rh7 σh7 h_1 => ?_)
  replace h_1 : kq σ0 σh7 := h_1
  exact pr_s h_1
theorem z_X12_trace_L72 {n : Nat} {σ0 : ms_T}  : ∀ (k72 : Nat) {σh12 : ms_T} {v1_h12 : Int32} {v2_h12 : Int32} {v3_h12 : Int32} {v4_h12 : Int32} {v5_h12 : Int32}, kq σ0 σh12 → pr (f_X12_trace_L72 n k72 σh12 v1_h12 v2_h12 v3_h12 v4_h12 v5_h12) (fun res => kq σ0 res.2) := by
  intro k72
  induction k72 with
  | zero => intro σh12 v1_h12 v2_h12 v3_h12 v4_h12 v5_h12 h0; rw [f_X12_trace_L72.eq_1]; exact pr_0
  | succ k72 ih =>
    intro σh12 v1_h12 v2_h12 v3_h12 v4_h12 v5_h12 h0
    rw [f_X12_trace_L72.eq_2]
    refine pr_i (fun _ => ?_) (fun _ => ?_)
    ·
      refine pr_ln (fun σh14 e1 => ?_)
      have h_1 : kq σ0 σh14 := by rw [e1]; exact kq_sI rfl h0
      refine pr_c (z_X12_stepsIn  _ h_1) (fun rh15 σh15 h_2 => ?_)
      replace h_2 : kq σ0 σh15 := h_2
      refine pr_i (fun _ => ?_) (fun _ => ?_)
      ·
        exact pr_s h_2
      ·
        refine pr_g (fun _ _ => ?_)
        exact pr_s h_2
    ·
      refine pr_g (fun _ _ => ?_)
      refine pr_ln (fun σh19 e3 => ?_)
      have h_3 : kq σ0 σh19 := by rw [e3]; exact kq_sE rfl h0
      refine pr_ln (fun x20 _ => ?_)
      exact ih h_3
theorem z_X12_trace_J28 {n : Nat} {σh2 : ms_T} {v1_h2 : Int32} {v2_h2 : Int32} {v3_h2 : Int32} {v4_h2 : Int32} {w0_h2 : Int32} {σ0 : ms_T} (h0 : kq σ0 σh2)  : pr (f_X12_trace_J28 n σh2 v1_h2 v2_h2 v3_h2 v4_h2 w0_h2) (fun res => kq σ0 res.2) := by
  unfold f_X12_trace_J28
  refine pr_c (z_X12_is h0 ) (fun rh3 σh3 h_1 => ?_)
  replace h_1 : kq σ0 σh3 := h_1
  refine pr_i (fun _ => ?_) (fun _ => ?_)
  ·
    exact pr_s h_1
  ·
    refine pr_b (z_X12_inclusion h_1 ) (fun σh5 h_2 => ?_)
    replace h_2 : kq σ0 σh5 := h_2
    refine pr_i (fun _ => ?_) (fun _ => ?_)
    ·
      exact z_X12_trace_J60 h_2 
    ·
      refine pr_c (z_X12_fromPad h_2 ) (fun rh9 σh9 h_3 => ?_)
      replace h_3 : kq σ0 σh9 := h_3
      refine pr_i (fun _ => ?_) (fun _ => ?_)
      ·
        refine pr_c (z_X12_fromPad h_3 ) (fun rh11 σh11 h_4 => ?_)
        replace h_4 : kq σ0 σh11 := h_4
        exact z_X12_trace_L72  _ h_4
      ·
        exact z_X12_trace_J60 h_3 
theorem z_X12_trace_J27 {n : Nat} {σh21 : ms_T} {v1_h21 : Int32} {v2_h21 : Int32} {v3_h21 : Int32} {v4_h21 : Int32} {σ0 : ms_T} (h0 : kq σ0 σh21)  : pr (f_X12_trace_J27 n σh21 v1_h21 v2_h21 v3_h21 v4_h21) (fun res => kq σ0 res.2) := by
  unfold f_X12_trace_J27
  exact z_X12_trace_J28 h0 
theorem z_X12_trace {n : Nat} {σ : ms_T} {a1 : Int32} {a2 : Int32} {a3 : Int32} {a4 : Int32} {σ0 : ms_T} (h0 : kq σ0 σ)  : pr (f_X12_trace n σ a1 a2 a3 a4) (fun res => kq σ0 res.2) := by
  unfold f_X12_trace
  refine pr_b pr_any (fun rh1 _ => ?_)
  refine pr_i (fun _ => ?_) (fun _ => ?_)
  ·
    exact z_X12_trace_J27 h0 
  ·
    refine pr_i (fun _ => ?_) (fun _ => ?_)
    ·
      exact z_X12_trace_J27 h0 
    ·
      refine pr_b pr_any (fun rh24 _ => ?_)
      refine pr_i (fun _ => ?_) (fun _ => ?_)
      ·
        exact z_X12_trace_J27 h0 
      ·
        exact z_X12_trace_J28 h0 
theorem z_X12_wayAt {n : Nat} {σ : ms_T} {a1 : Int32} {a2 : Int32} {σ0 : ms_T} (h0 : kq σ0 σ)  : pr (f_X12_wayAt n σ a1 a2) (fun res => kq σ0 res.2) := by
  unfold f_X12_wayAt
  refine pr_i (fun _ => ?_) (fun _ => ?_)
  ·
    refine pr_i (fun _ => ?_) (fun _ => ?_)
    ·
      refine pr_g (fun _ _ => ?_)
      exact pr_s h0
    ·
      refine pr_g (fun _ _ => ?_)
      exact pr_s h0
  ·
    refine pr_c (z_X12_refuse h0 ) (fun rh5 σh5 h_1 => ?_)
    replace h_1 : kq σ0 σh5 := h_1
    exact pr_s h_1
theorem z_X12_span_J29 {n : Nat} {σh2 : ms_T} {v1_h2 : Int32} {v2_h2 : Int32} {v3_h2 : Int32} {v4_h2 : Int32} {w0_h2 : Int32} {σ0 : ms_T} (h0 : kq σ0 σh2)  : pr (f_X12_span_J29 n σh2 v1_h2 v2_h2 v3_h2 v4_h2 w0_h2) (fun res => kq σ0 res.2) := by
  unfold f_X12_span_J29
  refine pr_c (z_X12_is h0 ) (fun rh3 σh3 h_1 => ?_)
  replace h_1 : kq σ0 σh3 := h_1
  refine pr_i (fun _ => ?_) (fun _ => ?_)
  ·
    exact pr_s h_1
  ·
    refine pr_b (z_X12_inclusion h_1 ) (fun σh5 h_2 => ?_)
    replace h_2 : kq σ0 σh5 := h_2
    refine pr_c (z_X12_wayAt h_2 ) (fun rh6 σh6 h_3 => ?_)
    replace h_3 : kq σ0 σh6 := h_3
    exact pr_s h_3
theorem z_X12_span_J28 {n : Nat} {σh7 : ms_T} {v1_h7 : Int32} {v2_h7 : Int32} {v3_h7 : Int32} {v4_h7 : Int32} {σ0 : ms_T} (h0 : kq σ0 σh7)  : pr (f_X12_span_J28 n σh7 v1_h7 v2_h7 v3_h7 v4_h7) (fun res => kq σ0 res.2) := by
  unfold f_X12_span_J28
  exact z_X12_span_J29 h0 
theorem z_X12_span {n : Nat} {σ : ms_T} {a1 : Int32} {a2 : Int32} {a3 : Int32} {a4 : Int32} {σ0 : ms_T} (h0 : kq σ0 σ)  : pr (f_X12_span n σ a1 a2 a3 a4) (fun res => kq σ0 res.2) := by
  unfold f_X12_span
  refine pr_b pr_any (fun rh1 _ => ?_)
  refine pr_i (fun _ => ?_) (fun _ => ?_)
  ·
    exact z_X12_span_J28 h0 
  ·
    refine pr_i (fun _ => ?_) (fun _ => ?_)
    ·
      exact z_X12_span_J28 h0 
    ·
      refine pr_b pr_any (fun rh10 _ => ?_)
      refine pr_i (fun _ => ?_) (fun _ => ?_)
      ·
        exact z_X12_span_J28 h0 
      ·
        exact z_X12_span_J29 h0 
theorem z_X12_rise_J29 {n : Nat} {σh1 : ms_T} {v1_h1 : Int32} {v2_h1 : Int32} {v3_h1 : Int32} {v4_h1 : Int32} {w0_h1 : Int32} {σ0 : ms_T} (h0 : kq σ0 σh1)  : pr (f_X12_rise_J29 n σh1 v1_h1 v2_h1 v3_h1 v4_h1 w0_h1) (fun res => kq σ0 res.2) := by
  unfold f_X12_rise_J29
  refine pr_c (z_X12_is h0 ) (fun rh2 σh2 h_1 => ?_)
  replace h_1 : kq σ0 σh2 := h_1
  refine pr_i (fun _ => ?_) (fun _ => ?_)
  ·
    exact pr_s h_1
  ·
    refine pr_b (z_X12_growth h_1 ) (fun σh4 h_2 => ?_)
    replace h_2 : kq σ0 σh4 := h_2
    refine pr_c (z_X12_wayAt h_2 ) (fun rh5 σh5 h_3 => ?_)
    replace h_3 : kq σ0 σh5 := h_3
    exact pr_s h_3
theorem z_X12_rise_J28 {n : Nat} {σh6 : ms_T} {v1_h6 : Int32} {v2_h6 : Int32} {v3_h6 : Int32} {v4_h6 : Int32} {σ0 : ms_T} (h0 : kq σ0 σh6)  : pr (f_X12_rise_J28 n σh6 v1_h6 v2_h6 v3_h6 v4_h6) (fun res => kq σ0 res.2) := by
  unfold f_X12_rise_J28
  exact z_X12_rise_J29 h0 
theorem z_X12_rise {n : Nat} {σ : ms_T} {a1 : Int32} {a2 : Int32} {a3 : Int32} {a4 : Int32} {σ0 : ms_T} (h0 : kq σ0 σ)  : pr (f_X12_rise n σ a1 a2 a3 a4) (fun res => kq σ0 res.2) := by
  unfold f_X12_rise
  refine pr_i (fun _ => ?_) (fun _ => ?_)
  ·
    exact z_X12_rise_J28 h0 
  ·
    refine pr_i (fun _ => ?_) (fun _ => ?_)
    ·
      exact z_X12_rise_J28 h0 
    ·
      refine pr_i (fun _ => ?_) (fun _ => ?_)
      ·
        exact z_X12_rise_J28 h0 
      ·
        refine pr_b pr_any (fun rh10 _ => ?_)
        refine pr_i (fun _ => ?_) (fun _ => ?_)
        ·
          exact z_X12_rise_J28 h0 
        ·
          exact z_X12_rise_J29 h0 
theorem z_X12_notes_J72 {n : Nat} {rec2 : ms_T → Int32 → Option ms_T} {σh6 : ms_T} {v1_h6 : Int32} {σ0 : ms_T} (h0 : kq σ0 σh6) (hrec2 : ∀ {y0 : ms_T} {y1 : Int32}, kq σ0 y0 → pr (rec2 y0 y1) (fun res => kq σ0 res)) : pr (f_X12_notes_J72 n rec2 σh6 v1_h6) (fun res => kq σ0 res) := by
  unfold f_X12_notes_J72
  refine pr_ln (fun x7 _ => ?_)
  exact hrec2 h0
theorem z_X12_notes_L2 {n : Nat} {σ0 : ms_T}  : ∀ (k2 : Nat) {σh1 : ms_T} {v1_h1 : Int32}, kq σ0 σh1 → pr (f_X12_notes_L2 n k2 σh1 v1_h1) (fun res => kq σ0 res) := by
  intro k2
  induction k2 with
  | zero => intro σh1 v1_h1 h0; rw [f_X12_notes_L2.eq_1]; exact pr_0
  | succ k2 ih =>
    intro σh1 v1_h1 h0
    rw [f_X12_notes_L2.eq_2]
    refine pr_i (fun _ => ?_) (fun _ => ?_)
    ·
      exact pr_s h0
    ·
      refine pr_g (fun _ _ => ?_)
      refine pr_g (fun _ _ => ?_)
      refine pr_b pr_any (fun rh5 _ => ?_)
      refine pr_i (fun _ => ?_) (fun _ => ?_)
      ·
        refine pr_g (fun _ _ => ?_)
        refine pr_g (fun _ _ => ?_)
        refine pr_ln (fun σh11 e1 => ?_)
        have h_1 : kq σ0 σh11 := by rw [e1]; exact kq_sE rfl h0
        refine pr_g (fun _ _ => ?_)
        refine pr_g (fun _ _ => ?_)
        refine pr_ln (fun σh14 e2 => ?_)
        have h_2 : kq σ0 σh14 := by rw [e2]; exact kq_sE rfl h_1
        refine pr_ln (fun σh15 e3 => ?_)
        have h_3 : kq σ0 σh15 := by rw [e3]; exact kq_sI rfl h_2
        exact z_X12_notes_J72 h_3 (fun h => ih h)
      ·
        exact z_X12_notes_J72 h0 (fun h => ih h)
theorem z_X12_notes {n : Nat} {σ : ms_T} {σ0 : ms_T} (h0 : kq σ0 σ)  : pr (f_X12_notes n σ) (fun res => kq σ0 res) := by
  unfold f_X12_notes
  exact z_X12_notes_L2  _ h0
theorem z_X12_kept_J92 {n : Nat} {rec55 : ms_T → Int32 → Int32 → Option (Int32 × ms_T)} {σh14 : ms_T} {v5_h14 : Int32} {w0_h14 : Int32} {w1_h14 : Int32} {σ0 : ms_T} (h0 : kq σ0 σh14) (hrec55 : ∀ {y0 : ms_T} {y1 : Int32} {y2 : Int32}, kq σ0 y0 → pr (rec55 y0 y1 y2) (fun res => kq σ0 res.2)) : pr (f_X12_kept_J92 n rec55 σh14 v5_h14 w0_h14 w1_h14) (fun res => kq σ0 res.2) := by
  unfold f_X12_kept_J92
  refine pr_ln (fun x15 _ => ?_)
  refine pr_ln (fun x16 _ => ?_)
  exact hrec55 h0
theorem z_X12_kept_L55 {n : Nat} {σ0 : ms_T}  : ∀ (k55 : Nat) {σh9 : ms_T} {v4_h9 : Int32} {v5_h9 : Int32}, kq σ0 σh9 → pr (f_X12_kept_L55 n k55 σh9 v4_h9 v5_h9) (fun res => kq σ0 res.2) := by
  intro k55
  induction k55 with
  | zero => intro σh9 v4_h9 v5_h9 h0; rw [f_X12_kept_L55.eq_1]; exact pr_0
  | succ k55 ih =>
    intro σh9 v4_h9 v5_h9 h0
    rw [f_X12_kept_L55.eq_2]
    refine pr_i (fun _ => ?_) (fun _ => ?_)
    ·
      exact pr_s h0
    ·
      refine pr_g (fun _ _ => ?_)
      refine pr_g (fun _ _ => ?_)
      refine pr_b pr_any (fun rh13 _ => ?_)
      refine pr_i (fun _ => ?_) (fun _ => ?_)
      ·
        exact z_X12_kept_J92 h0 (fun h => ih h)
      ·
        exact z_X12_kept_J92 h0 (fun h => ih h)
theorem z_X12_kept_J20 {n : Nat} {σh2 : ms_T} {v1_h2 : Int32} {v2_h2 : Int32} {v3_h2 : Int32} {w0_h2 : Int32} {σ0 : ms_T} (h0 : kq σ0 σh2)  : pr (f_X12_kept_J20 n σh2 v1_h2 v2_h2 v3_h2 w0_h2) (fun res => kq σ0 res.2) := by
  unfold f_X12_kept_J20
  refine pr_c (z_X12_is h0 ) (fun rh3 σh3 h_1 => ?_)
  replace h_1 : kq σ0 σh3 := h_1
  refine pr_i (fun _ => ?_) (fun _ => ?_)
  ·
    exact pr_s h_1
  ·
    refine pr_ln (fun σh5 e2 => ?_)
    have h_2 : kq σ0 σh5 := by rw [e2]; exact kq_sI rfl h_1
    refine pr_b (z_X12_inclusion h_2 ) (fun σh6 h_3 => ?_)
    replace h_3 : kq σ0 σh6 := h_3
    refine pr_b (z_X12_notes h_3 ) (fun σh7 h_4 => ?_)
    replace h_4 : kq σ0 σh7 := h_4
    refine pr_b (z_X12_inclusion h_4 ) (fun σh8 h_5 => ?_)
    replace h_5 : kq σ0 σh8 := h_5
    exact z_X12_kept_L55  _ h_5
theorem z_X12_kept_J19 {n : Nat} {σh18 : ms_T} {v1_h18 : Int32} {v2_h18 : Int32} {v3_h18 : Int32} {σ0 : ms_T} (h0 : kq σ0 σh18)  : pr (f_X12_kept_J19 n σh18 v1_h18 v2_h18 v3_h18) (fun res => kq σ0 res.2) := by
  unfold f_X12_kept_J19
  exact z_X12_kept_J20 h0 
theorem z_X12_kept {n : Nat} {σ : ms_T} {a1 : Int32} {a2 : Int32} {a3 : Int32} {σ0 : ms_T} (h0 : kq σ0 σ)  : pr (f_X12_kept n σ a1 a2 a3) (fun res => kq σ0 res.2) := by
  unfold f_X12_kept
  refine pr_b pr_any (fun rh1 _ => ?_)
  refine pr_i (fun _ => ?_) (fun _ => ?_)
  ·
    exact z_X12_kept_J19 h0 
  ·
    refine pr_i (fun _ => ?_) (fun _ => ?_)
    ·
      exact z_X12_kept_J19 h0 
    ·
      exact z_X12_kept_J20 h0 
theorem z_X12_sick_J89 {n : Nat} {rec56 : ms_T → Int32 → Int32 → Int32 → Option (Int32 × ms_T)} {σh12 : ms_T} {v1_h12 : Int32} {v3_h12 : Int32} {w0_h12 : Int32} {w1_h12 : Int32} {σ0 : ms_T} (h0 : kq σ0 σh12) (hrec56 : ∀ {y0 : ms_T} {y1 : Int32} {y2 : Int32} {y3 : Int32}, kq σ0 y0 → pr (rec56 y0 y1 y2 y3) (fun res => kq σ0 res.2)) : pr (f_X12_sick_J89 n rec56 σh12 v1_h12 v3_h12 w0_h12 w1_h12) (fun res => kq σ0 res.2) := by
  unfold f_X12_sick_J89
  refine pr_ln (fun x13 _ => ?_)
  refine pr_ln (fun x14 _ => ?_)
  exact hrec56 h0
theorem z_X12_sick_L56 {n : Nat} {σ0 : ms_T}  : ∀ (k56 : Nat) {σh8 : ms_T} {v1_h8 : Int32} {v2_h8 : Int32} {v3_h8 : Int32}, kq σ0 σh8 → pr (f_X12_sick_L56 n k56 σh8 v1_h8 v2_h8 v3_h8) (fun res => kq σ0 res.2) := by
  intro k56
  induction k56 with
  | zero => intro σh8 v1_h8 v2_h8 v3_h8 h0; rw [f_X12_sick_L56.eq_1]; exact pr_0
  | succ k56 ih =>
    intro σh8 v1_h8 v2_h8 v3_h8 h0
    rw [f_X12_sick_L56.eq_2]
    refine pr_i (fun _ => ?_) (fun _ => ?_)
    ·
      exact pr_s h0
    ·
      refine pr_g (fun _ _ => ?_)
      refine pr_b pr_any (fun rh11 _ => ?_)
      refine pr_i (fun _ => ?_) (fun _ => ?_)
      ·
        exact z_X12_sick_J89 h0 (fun h => ih h)
      ·
        exact z_X12_sick_J89 h0 (fun h => ih h)
theorem z_X12_sick_J24 {n : Nat} {σh1 : ms_T} {v1_h1 : Int32} {w0_h1 : Int32} {σ0 : ms_T} (h0 : kq σ0 σh1)  : pr (f_X12_sick_J24 n σh1 v1_h1 w0_h1) (fun res => kq σ0 res.2) := by
  unfold f_X12_sick_J24
  refine pr_c (z_X12_is h0 ) (fun rh2 σh2 h_1 => ?_)
  replace h_1 : kq σ0 σh2 := h_1
  refine pr_i (fun _ => ?_) (fun _ => ?_)
  ·
    exact pr_s h_1
  ·
    refine pr_b pr_any (fun rh4 _ => ?_)
    refine pr_b (z_X12_peaksOf h_1 ) (fun σh5 h_2 => ?_)
    replace h_2 : kq σ0 σh5 := h_2
    refine pr_b pr_any (fun rh6 _ => ?_)
    refine pr_b (z_X12_fetches h_2 ) (fun σh7 h_3 => ?_)
    replace h_3 : kq σ0 σh7 := h_3
    exact z_X12_sick_L56  _ h_3
theorem z_X12_sick {n : Nat} {σ : ms_T} {a1 : Int32} {σ0 : ms_T} (h0 : kq σ0 σ)  : pr (f_X12_sick n σ a1) (fun res => kq σ0 res.2) := by
  unfold f_X12_sick
  refine pr_i (fun _ => ?_) (fun _ => ?_)
  ·
    refine pr_g (fun _ _ => ?_)
    refine pr_i (fun _ => ?_) (fun _ => ?_)
    ·
      exact z_X12_sick_J24 h0 
    ·
      exact z_X12_sick_J24 h0 
  ·
    exact z_X12_sick_J24 h0 
theorem z_X12_chain_J82 {n : Nat} {rec56 : ms_T → Int32 → Int32 → Int32 → Int32 → Int32 → Int32 → Option (Int32 × ms_T)} {σh13 : ms_T} {v1_h13 : Int32} {v2_h13 : Int32} {v3_h13 : Int32} {v4_h13 : Int32} {v6_h13 : Int32} {σ0 : ms_T} (h0 : kq σ0 σh13) (hrec56 : ∀ {y0 : ms_T} {y1 : Int32} {y2 : Int32} {y3 : Int32} {y4 : Int32} {y5 : Int32} {y6 : Int32}, kq σ0 y0 → pr (rec56 y0 y1 y2 y3 y4 y5 y6) (fun res => kq σ0 res.2)) : pr (f_X12_chain_J82 n rec56 σh13 v1_h13 v2_h13 v3_h13 v4_h13 v6_h13) (fun res => kq σ0 res.2) := by
  unfold f_X12_chain_J82
  refine pr_ln (fun x14 _ => ?_)
  refine pr_b (z_X12_notes h0 ) (fun σh15 h_1 => ?_)
  replace h_1 : kq σ0 σh15 := h_1
  refine pr_b pr_any (fun rh16 _ => ?_)
  exact hrec56 h_1
theorem z_X12_chain_L56 {n : Nat} {σ0 : ms_T}  : ∀ (k56 : Nat) {σh7 : ms_T} {v1_h7 : Int32} {v2_h7 : Int32} {v3_h7 : Int32} {v4_h7 : Int32} {v5_h7 : Int32} {v6_h7 : Int32}, kq σ0 σh7 → pr (f_X12_chain_L56 n k56 σh7 v1_h7 v2_h7 v3_h7 v4_h7 v5_h7 v6_h7) (fun res => kq σ0 res.2) := by
  intro k56
  induction k56 with
  | zero => intro σh7 v1_h7 v2_h7 v3_h7 v4_h7 v5_h7 v6_h7 h0; rw [f_X12_chain_L56.eq_1]; exact pr_0
  | succ k56 ih =>
    intro σh7 v1_h7 v2_h7 v3_h7 v4_h7 v5_h7 v6_h7 h0
    rw [f_X12_chain_L56.eq_2]
    refine pr_i (fun _ => ?_) (fun _ => ?_)
    ·
      refine pr_i (fun _ => ?_) (fun _ => ?_)
      ·
        exact pr_s h0
      ·
        refine pr_i (fun _ => ?_) (fun _ => ?_)
        ·
          exact pr_s h0
        ·
          exact pr_s h0
    ·
      refine pr_ln (fun x11 _ => ?_)
      refine pr_ln (fun σh12 e1 => ?_)
      have h_1 : kq σ0 σh12 := by rw [e1]; exact kq_sI rfl h0
      refine pr_i (fun _ => ?_) (fun _ => ?_)
      ·
        exact z_X12_chain_J82 h_1 (fun h => ih h)
      ·
        refine pr_b (z_X12_growth h_1 ) (fun σh18 h_2 => ?_)
        replace h_2 : kq σ0 σh18 := h_2
        exact z_X12_chain_J82 h_2 (fun h => ih h)
theorem z_X12_chain_J27 {n : Nat} {σh2 : ms_T} {v1_h2 : Int32} {v2_h2 : Int32} {w0_h2 : Int32} {σ0 : ms_T} (h0 : kq σ0 σh2)  : pr (f_X12_chain_J27 n σh2 v1_h2 v2_h2 w0_h2) (fun res => kq σ0 res.2) := by
  unfold f_X12_chain_J27
  refine pr_c (z_X12_is h0 ) (fun rh3 σh3 h_1 => ?_)
  replace h_1 : kq σ0 σh3 := h_1
  refine pr_i (fun _ => ?_) (fun _ => ?_)
  ·
    exact pr_s h_1
  ·
    refine pr_ln (fun σh5 e2 => ?_)
    have h_2 : kq σ0 σh5 := by rw [e2]; exact kq_sI rfl h_1
    refine pr_b pr_any (fun rh6 _ => ?_)
    exact z_X12_chain_L56  _ h_2
theorem z_X12_chain {n : Nat} {σ : ms_T} {a1 : Int32} {a2 : Int32} {σ0 : ms_T} (h0 : kq σ0 σ)  : pr (f_X12_chain n σ a1 a2) (fun res => kq σ0 res.2) := by
  unfold f_X12_chain
  refine pr_b pr_any (fun rh1 _ => ?_)
  refine pr_i (fun _ => ?_) (fun _ => ?_)
  ·
    exact z_X12_chain_J27 h0 
  ·
    refine pr_b pr_any (fun rh20 _ => ?_)
    refine pr_i (fun _ => ?_) (fun _ => ?_)
    ·
      exact z_X12_chain_J27 h0 
    ·
      exact z_X12_chain_J27 h0 
theorem z_X12_split_J82 {n : Nat} {rec30 : ms_T → Int32 → Int32 → Int32 → Int32 → Option (Int32 × ms_T)} {rec42 : ms_T → Int32 → Int32 → Int32 → Int32 → Int32 → Option (Int32 × ms_T)} {σh14 : ms_T} {v1_h14 : Int32} {v2_h14 : Int32} {v3_h14 : Int32} {v4_h14 : Int32} {v5_h14 : Int32} {σ0 : ms_T} (h0 : kq σ0 σh14) (hrec30 : ∀ {y0 : ms_T} {y1 : Int32} {y2 : Int32} {y3 : Int32} {y4 : Int32}, kq σ0 y0 → pr (rec30 y0 y1 y2 y3 y4) (fun res => kq σ0 res.2)) (hrec42 : ∀ {y0 : ms_T} {y1 : Int32} {y2 : Int32} {y3 : Int32} {y4 : Int32} {y5 : Int32}, kq σ0 y0 → pr (rec42 y0 y1 y2 y3 y4 y5) (fun res => kq σ0 res.2)) : pr (f_X12_split_J82 n rec30 rec42 σh14 v1_h14 v2_h14 v3_h14 v4_h14 v5_h14) (fun res => kq σ0 res.2) := by
  unfold f_X12_split_J82
  refine pr_ln (fun x15 _ => ?_)
  exact hrec42 h0
theorem z_X12_split_J81 {n : Nat} {rec30 : ms_T → Int32 → Int32 → Int32 → Int32 → Option (Int32 × ms_T)} {rec42 : ms_T → Int32 → Int32 → Int32 → Int32 → Int32 → Option (Int32 × ms_T)} {σh18 : ms_T} {v1_h18 : Int32} {v2_h18 : Int32} {v4_h18 : Int32} {v5_h18 : Int32} {w0_h18 : Int32} {σ0 : ms_T} (h0 : kq σ0 σh18) (hrec30 : ∀ {y0 : ms_T} {y1 : Int32} {y2 : Int32} {y3 : Int32} {y4 : Int32}, kq σ0 y0 → pr (rec30 y0 y1 y2 y3 y4) (fun res => kq σ0 res.2)) (hrec42 : ∀ {y0 : ms_T} {y1 : Int32} {y2 : Int32} {y3 : Int32} {y4 : Int32} {y5 : Int32}, kq σ0 y0 → pr (rec42 y0 y1 y2 y3 y4 y5) (fun res => kq σ0 res.2)) : pr (f_X12_split_J81 n rec30 rec42 σh18 v1_h18 v2_h18 v4_h18 v5_h18 w0_h18) (fun res => kq σ0 res.2) := by
  unfold f_X12_split_J81
  exact z_X12_split_J82 h0 (fun h => hrec30 h) (fun h => hrec42 h)
theorem z_X12_split_L42 {n : Nat} {rec30 : ms_T → Int32 → Int32 → Int32 → Int32 → Option (Int32 × ms_T)} {σ0 : ms_T} (hrec30 : ∀ {y0 : ms_T} {y1 : Int32} {y2 : Int32} {y3 : Int32} {y4 : Int32}, kq σ0 y0 → pr (rec30 y0 y1 y2 y3 y4) (fun res => kq σ0 res.2)) : ∀ (k42 : Nat) {σh10 : ms_T} {v1_h10 : Int32} {v2_h10 : Int32} {v3_h10 : Int32} {v4_h10 : Int32} {v5_h10 : Int32}, kq σ0 σh10 → pr (f_X12_split_L42 n rec30 k42 σh10 v1_h10 v2_h10 v3_h10 v4_h10 v5_h10) (fun res => kq σ0 res.2) := by
  intro k42
  induction k42 with
  | zero => intro σh10 v1_h10 v2_h10 v3_h10 v4_h10 v5_h10 h0; rw [f_X12_split_L42.eq_1]; exact pr_0
  | succ k42 ih =>
    intro σh10 v1_h10 v2_h10 v3_h10 v4_h10 v5_h10 h0
    rw [f_X12_split_L42.eq_2]
    refine pr_i (fun _ => ?_) (fun _ => ?_)
    ·
      refine pr_ln (fun x12 _ => ?_)
      exact hrec30 h0
    ·
      refine pr_b pr_any (fun rh13 _ => ?_)
      refine pr_i (fun _ => ?_) (fun _ => ?_)
      ·
        refine pr_ln (fun x17 _ => ?_)
        refine pr_i (fun _ => ?_) (fun _ => ?_)
        ·
          exact z_X12_split_J81 h0 (fun h => hrec30 h) (fun h => ih h)
        ·
          exact z_X12_split_J81 h0 (fun h => hrec30 h) (fun h => ih h)
      ·
        exact z_X12_split_J82 h0 (fun h => hrec30 h) (fun h => ih h)
theorem z_X12_split_L30 {n : Nat} {σ0 : ms_T}  : ∀ (k30 : Nat) {σh5 : ms_T} {v1_h5 : Int32} {v2_h5 : Int32} {v3_h5 : Int32} {v4_h5 : Int32}, kq σ0 σh5 → pr (f_X12_split_L30 n k30 σh5 v1_h5 v2_h5 v3_h5 v4_h5) (fun res => kq σ0 res.2) := by
  intro k30
  induction k30 with
  | zero => intro σh5 v1_h5 v2_h5 v3_h5 v4_h5 h0; rw [f_X12_split_L30.eq_1]; exact pr_0
  | succ k30 ih =>
    intro σh5 v1_h5 v2_h5 v3_h5 v4_h5 h0
    rw [f_X12_split_L30.eq_2]
    refine pr_i (fun _ => ?_) (fun _ => ?_)
    ·
      refine pr_i (fun _ => ?_) (fun _ => ?_)
      ·
        exact pr_s h0
      ·
        refine pr_i (fun _ => ?_) (fun _ => ?_)
        ·
          exact pr_s h0
        ·
          refine pr_c (z_X12_refuse h0 ) (fun rh9 σh9 h_1 => ?_)
          replace h_1 : kq σ0 σh9 := h_1
          exact pr_s h_1
    ·
      refine pr_ln (fun x20 _ => ?_)
      exact z_X12_split_L42 (fun h => ih h) _ h0
theorem z_X12_split_J15 {n : Nat} {σh2 : ms_T} {v1_h2 : Int32} {w0_h2 : Int32} {σ0 : ms_T} (h0 : kq σ0 σh2)  : pr (f_X12_split_J15 n σh2 v1_h2 w0_h2) (fun res => kq σ0 res.2) := by
  unfold f_X12_split_J15
  refine pr_c (z_X12_is h0 ) (fun rh3 σh3 h_1 => ?_)
  replace h_1 : kq σ0 σh3 := h_1
  refine pr_i (fun _ => ?_) (fun _ => ?_)
  ·
    exact pr_s h_1
  ·
    exact z_X12_split_L30  _ h_1
theorem z_X12_split {n : Nat} {σ : ms_T} {a1 : Int32} {σ0 : ms_T} (h0 : kq σ0 σ)  : pr (f_X12_split n σ a1) (fun res => kq σ0 res.2) := by
  unfold f_X12_split
  refine pr_b pr_any (fun rh1 _ => ?_)
  refine pr_i (fun _ => ?_) (fun _ => ?_)
  ·
    exact z_X12_split_J15 h0 
  ·
    exact z_X12_split_J15 h0 
theorem z_X12_tells {n : Nat} {σ : ms_T} {a1 : Int32} {σ0 : ms_T} (h0 : kq σ0 σ)  : pr (f_X12_tells n σ a1) (fun res => kq σ0 res) := by
  unfold f_X12_tells
  refine pr_g (fun _ _ => ?_)
  refine pr_ln (fun σh2 e1 => ?_)
  have h_1 : kq σ0 σh2 := by rw [e1]; exact kq_sE rfl h0
  refine pr_ln (fun σh3 e2 => ?_)
  have h_2 : kq σ0 σh3 := by rw [e2]; exact kq_sI rfl h_1
  exact pr_s h_2
theorem z_X12_tellsNumber_L18 {n : Nat} {σ0 : ms_T}  : ∀ (k18 : Nat) {σh3 : ms_T} {v1_h3 : Int32} {v2_h3 : Int32}, kq σ0 σh3 → pr (f_X12_tellsNumber_L18 n k18 σh3 v1_h3 v2_h3) (fun res => kq σ0 res) := by
  intro k18
  induction k18 with
  | zero => intro σh3 v1_h3 v2_h3 h0; rw [f_X12_tellsNumber_L18.eq_1]; exact pr_0
  | succ k18 ih =>
    intro σh3 v1_h3 v2_h3 h0
    rw [f_X12_tellsNumber_L18.eq_2]
    refine pr_i (fun _ => ?_) (fun _ => ?_)
    ·
      exact pr_s h0
    ·
      refine pr_n (fun _ => ?_)
      refine pr_b (z_X12_tells h0 ) (fun σh6 h_1 => ?_)
      replace h_1 : kq σ0 σh6 := h_1
      refine pr_ln (fun x7 _ => ?_)
      exact ih h_1
theorem z_X12_tellsNumber_L2 {n : Nat} {σ0 : ms_T}  : ∀ (k2 : Nat) {σh1 : ms_T} {v1_h1 : Int32} {v2_h1 : Int32}, kq σ0 σh1 → pr (f_X12_tellsNumber_L2 n k2 σh1 v1_h1 v2_h1) (fun res => kq σ0 res) := by
  intro k2
  induction k2 with
  | zero => intro σh1 v1_h1 v2_h1 h0; rw [f_X12_tellsNumber_L2.eq_1]; exact pr_0
  | succ k2 ih =>
    intro σh1 v1_h1 v2_h1 h0
    rw [f_X12_tellsNumber_L2.eq_2]
    refine pr_n (fun _ => ?_)
    refine pr_i (fun _ => ?_) (fun _ => ?_)
    ·
      exact z_X12_tellsNumber_L18  _ h0
    ·
      refine pr_ln (fun x9 _ => ?_)
      exact ih h0
theorem z_X12_tellsNumber {n : Nat} {σ : ms_T} {a1 : Int32} {σ0 : ms_T} (h0 : kq σ0 σ)  : pr (f_X12_tellsNumber n σ a1) (fun res => kq σ0 res) := by
  unfold f_X12_tellsNumber
  exact z_X12_tellsNumber_L2  _ h0
theorem z_X12_says_L15 {n : Nat} {i1 : Nat} {σ0 : ms_T}  : ∀ (k15 : Nat) {σh2 : ms_T} {v2_h2 : Int32} {v3_h2 : Int32}, kq σ0 σh2 → pr (f_X12_says_L15 n i1 k15 σh2 v2_h2 v3_h2) (fun res => kq σ0 res) := by
  intro k15
  induction k15 with
  | zero => intro σh2 v2_h2 v3_h2 h0; rw [f_X12_says_L15.eq_1]; exact pr_0
  | succ k15 ih =>
    intro σh2 v2_h2 v3_h2 h0
    rw [f_X12_says_L15.eq_2]
    refine pr_i (fun _ => ?_) (fun _ => ?_)
    ·
      refine pr_b (z_X12_tells h0 ) (fun σh5 h_1 => ?_)
      replace h_1 : kq σ0 σh5 := h_1
      refine pr_b (z_X12_tellsNumber h_1 ) (fun σh6 h_2 => ?_)
      replace h_2 : kq σ0 σh6 := h_2
      exact pr_s h_2
    ·
      refine pr_q (fun _ _ => ?_)
      refine pr_b (z_X12_tells h0 ) (fun σh9 h_3 => ?_)
      replace h_3 : kq σ0 σh9 := h_3
      refine pr_ln (fun x10 _ => ?_)
      exact ih h_3
theorem z_X12_says_J13 {n : Nat} {i1 : Nat} {σh1 : ms_T} {v2_h1 : Int32} {σ0 : ms_T} (h0 : kq σ0 σh1)  : pr (f_X12_says_J13 n i1 σh1 v2_h1) (fun res => kq σ0 res) := by
  unfold f_X12_says_J13
  exact z_X12_says_L15  _ h0
theorem z_X12_says {n : Nat} {σ : ms_T} {i1 : Nat} {a2 : Int32} {σ0 : ms_T} (h0 : kq σ0 σ)  : pr (f_X12_says n σ i1 a2) (fun res => kq σ0 res) := by
  unfold f_X12_says
  refine pr_i (fun _ => ?_) (fun _ => ?_)
  ·
    exact z_X12_says_J13 h0 
  ·
    refine pr_b (z_X12_tells h0 ) (fun σh12 h_1 => ?_)
    replace h_1 : kq σ0 σh12 := h_1
    exact z_X12_says_J13 h_1 
theorem z_X12_tellsMarks_L25 {n : Nat} {σ0 : ms_T}  : ∀ (k25 : Nat) {σh5 : ms_T} {v2_h5 : Int32}, kq σ0 σh5 → pr (f_X12_tellsMarks_L25 n k25 σh5 v2_h5) (fun res => kq σ0 res.2) := by
  intro k25
  induction k25 with
  | zero => intro σh5 v2_h5 h0; rw [f_X12_tellsMarks_L25.eq_1]; exact pr_0
  | succ k25 ih =>
    intro σh5 v2_h5 h0
    rw [f_X12_tellsMarks_L25.eq_2]
    refine pr_i (fun _ => ?_) (fun _ => ?_)
    ·
      refine pr_b (z_X12_tells h0 ) (fun σh7 h_1 => ?_)
      replace h_1 : kq σ0 σh7 := h_1
      exact pr_s h_1
    ·
      refine pr_b (z_X12_tells h0 ) (fun σh8 h_2 => ?_)
      replace h_2 : kq σ0 σh8 := h_2
      refine pr_g (fun _ _ => ?_)
      refine pr_b (z_X12_tellsNumber h_2 ) (fun σh10 h_3 => ?_)
      replace h_3 : kq σ0 σh10 := h_3
      refine pr_ln (fun x11 _ => ?_)
      exact ih h_3
theorem z_X12_tellsMarks {n : Nat} {σ : ms_T} {a1 : Int32} {σ0 : ms_T} (h0 : kq σ0 σ)  : pr (f_X12_tellsMarks n σ a1) (fun res => kq σ0 res.2) := by
  unfold f_X12_tellsMarks
  refine pr_b (z_X12_fetches h0 ) (fun σh1 h_1 => ?_)
  replace h_1 : kq σ0 σh1 := h_1
  refine pr_b (z_X12_tells h_1 ) (fun σh2 h_2 => ?_)
  replace h_2 : kq σ0 σh2 := h_2
  refine pr_b (z_X12_tells h_2 ) (fun σh3 h_3 => ?_)
  replace h_3 : kq σ0 σh3 := h_3
  refine pr_b (z_X12_tells h_3 ) (fun σh4 h_4 => ?_)
  replace h_4 : kq σ0 σh4 := h_4
  exact z_X12_tellsMarks_L25  _ h_4
theorem z_X12_tell {n : Nat} {σ : ms_T} {a1 : Int32} {a2 : Int32} {a3 : Int32} {σ0 : ms_T} (h0 : kq σ0 σ)  : pr (f_X12_tell n σ a1 a2 a3) (fun res => kq σ0 res.2) := by
  unfold f_X12_tell
  refine pr_b pr_any (fun rh1 _ => ?_)
  refine pr_c (z_X12_is h0 ) (fun rh2 σh2 h_1 => ?_)
  replace h_1 : kq σ0 σh2 := h_1
  refine pr_i (fun _ => ?_) (fun _ => ?_)
  ·
    exact pr_s h_1
  ·
    refine pr_ln (fun σh4 e2 => ?_)
    have h_2 : kq σ0 σh4 := by rw [e2]; exact kq_sI rfl h_1
    refine pr_b (z_X12_says h_2 ) (fun σh5 h_3 => ?_)
    replace h_3 : kq σ0 σh5 := h_3
    refine pr_b (z_X12_says h_3 ) (fun σh6 h_4 => ?_)
    replace h_4 : kq σ0 σh6 := h_4
    refine pr_b pr_any (fun rh7 _ => ?_)
    refine pr_b (z_X12_says h_4 ) (fun σh8 h_5 => ?_)
    replace h_5 : kq σ0 σh8 := h_5
    refine pr_b pr_any (fun rh9 _ => ?_)
    refine pr_b (z_X12_says h_5 ) (fun σh10 h_6 => ?_)
    replace h_6 : kq σ0 σh10 := h_6
    refine pr_b (z_X12_inclusion h_6 ) (fun σh11 h_7 => ?_)
    replace h_7 : kq σ0 σh11 := h_7
    refine pr_c (z_X12_tellsMarks h_7 ) (fun rh12 σh12 h_8 => ?_)
    replace h_8 : kq σ0 σh12 := h_8
    exact pr_s h_8
theorem z_X12_tellGrowth_J20 {n : Nat} {σh1 : ms_T} {v1_h1 : Int32} {v2_h1 : Int32} {v3_h1 : Int32} {w0_h1 : Int32} {σ0 : ms_T} (h0 : kq σ0 σh1)  : pr (f_X12_tellGrowth_J20 n σh1 v1_h1 v2_h1 v3_h1 w0_h1) (fun res => kq σ0 res.2) := by
  unfold f_X12_tellGrowth_J20
  refine pr_c (z_X12_is h0 ) (fun rh2 σh2 h_1 => ?_)
  replace h_1 : kq σ0 σh2 := h_1
  refine pr_i (fun _ => ?_) (fun _ => ?_)
  ·
    exact pr_s h_1
  ·
    refine pr_ln (fun σh4 e2 => ?_)
    have h_2 : kq σ0 σh4 := by rw [e2]; exact kq_sI rfl h_1
    refine pr_b (z_X12_says h_2 ) (fun σh5 h_3 => ?_)
    replace h_3 : kq σ0 σh5 := h_3
    refine pr_b pr_any (fun rh6 _ => ?_)
    refine pr_b (z_X12_says h_3 ) (fun σh7 h_4 => ?_)
    replace h_4 : kq σ0 σh7 := h_4
    refine pr_b (z_X12_says h_4 ) (fun σh8 h_5 => ?_)
    replace h_5 : kq σ0 σh8 := h_5
    refine pr_b pr_any (fun rh9 _ => ?_)
    refine pr_b (z_X12_says h_5 ) (fun σh10 h_6 => ?_)
    replace h_6 : kq σ0 σh10 := h_6
    refine pr_b (z_X12_growth h_6 ) (fun σh11 h_7 => ?_)
    replace h_7 : kq σ0 σh11 := h_7
    refine pr_c (z_X12_tellsMarks h_7 ) (fun rh12 σh12 h_8 => ?_)
    replace h_8 : kq σ0 σh12 := h_8
    exact pr_s h_8
theorem z_X12_tellGrowth_J10 {n : Nat} {σh13 : ms_T} {v1_h13 : Int32} {v2_h13 : Int32} {v3_h13 : Int32} {σ0 : ms_T} (h0 : kq σ0 σh13)  : pr (f_X12_tellGrowth_J10 n σh13 v1_h13 v2_h13 v3_h13) (fun res => kq σ0 res.2) := by
  unfold f_X12_tellGrowth_J10
  exact z_X12_tellGrowth_J20 h0 
theorem z_X12_tellGrowth {n : Nat} {σ : ms_T} {a1 : Int32} {a2 : Int32} {a3 : Int32} {σ0 : ms_T} (h0 : kq σ0 σ)  : pr (f_X12_tellGrowth n σ a1 a2 a3) (fun res => kq σ0 res.2) := by
  unfold f_X12_tellGrowth
  refine pr_i (fun _ => ?_) (fun _ => ?_)
  ·
    exact z_X12_tellGrowth_J10 h0 
  ·
    refine pr_i (fun _ => ?_) (fun _ => ?_)
    ·
      refine pr_b pr_any (fun rh16 _ => ?_)
      exact z_X12_tellGrowth_J20 h0 
    ·
      exact z_X12_tellGrowth_J10 h0 
theorem z_X12_out_J22 {n : Nat} {σh1 : ms_T} {v1_h1 : Int32} {w0_h1 : Int32} {σ0 : ms_T} (h0 : kq σ0 σh1)  : pr (f_X12_out_J22 n σh1 v1_h1 w0_h1) (fun res => kq σ0 res.2) := by
  unfold f_X12_out_J22
  refine pr_c (z_X12_is h0 ) (fun rh2 σh2 h_1 => ?_)
  replace h_1 : kq σ0 σh2 := h_1
  refine pr_i (fun _ => ?_) (fun _ => ?_)
  ·
    exact pr_s h_1
  ·
    refine pr_g (fun _ _ => ?_)
    exact pr_s h_1
theorem z_X12_out {n : Nat} {σ : ms_T} {a1 : Int32} {σ0 : ms_T} (h0 : kq σ0 σ)  : pr (f_X12_out n σ a1) (fun res => kq σ0 res.2) := by
  unfold f_X12_out
  refine pr_i (fun _ => ?_) (fun _ => ?_)
  ·
    refine pr_i (fun _ => ?_) (fun _ => ?_)
    ·
      exact z_X12_out_J22 h0 
    ·
      exact z_X12_out_J22 h0 
  ·
    exact z_X12_out_J22 h0 
theorem z_X12_trusted_J65 {n : Nat} {rec31 : ms_T → Int32 → Int32 → Int32 → Int32 → Option (Int32 × ms_T)} {σh7 : ms_T} {v1_h7 : Int32} {v2_h7 : Int32} {v4_h7 : Int32} {w0_h7 : Int32} {w1_h7 : Int32} {σ0 : ms_T} (h0 : kq σ0 σh7) (hrec31 : ∀ {y0 : ms_T} {y1 : Int32} {y2 : Int32} {y3 : Int32} {y4 : Int32}, kq σ0 y0 → pr (rec31 y0 y1 y2 y3 y4) (fun res => kq σ0 res.2)) : pr (f_X12_trusted_J65 n rec31 σh7 v1_h7 v2_h7 v4_h7 w0_h7 w1_h7) (fun res => kq σ0 res.2) := by
  unfold f_X12_trusted_J65
  refine pr_ln (fun x8 _ => ?_)
  refine pr_ln (fun x9 _ => ?_)
  exact hrec31 h0
theorem z_X12_trusted_J64 {n : Nat} {rec31 : ms_T → Int32 → Int32 → Int32 → Int32 → Option (Int32 × ms_T)} {σh10 : ms_T} {v1_h10 : Int32} {v2_h10 : Int32} {v4_h10 : Int32} {w0_h10 : Int32} {σ0 : ms_T} (h0 : kq σ0 σh10) (hrec31 : ∀ {y0 : ms_T} {y1 : Int32} {y2 : Int32} {y3 : Int32} {y4 : Int32}, kq σ0 y0 → pr (rec31 y0 y1 y2 y3 y4) (fun res => kq σ0 res.2)) : pr (f_X12_trusted_J64 n rec31 σh10 v1_h10 v2_h10 v4_h10 w0_h10) (fun res => kq σ0 res.2) := by
  unfold f_X12_trusted_J64
  exact z_X12_trusted_J65 h0 (fun h => hrec31 h)
theorem z_X12_trusted_L31 {n : Nat} {σ0 : ms_T}  : ∀ (k31 : Nat) {σh4 : ms_T} {v1_h4 : Int32} {v2_h4 : Int32} {v3_h4 : Int32} {v4_h4 : Int32}, kq σ0 σh4 → pr (f_X12_trusted_L31 n k31 σh4 v1_h4 v2_h4 v3_h4 v4_h4) (fun res => kq σ0 res.2) := by
  intro k31
  induction k31 with
  | zero => intro σh4 v1_h4 v2_h4 v3_h4 v4_h4 h0; rw [f_X12_trusted_L31.eq_1]; exact pr_0
  | succ k31 ih =>
    intro σh4 v1_h4 v2_h4 v3_h4 v4_h4 h0
    rw [f_X12_trusted_L31.eq_2]
    refine pr_i (fun _ => ?_) (fun _ => ?_)
    ·
      exact pr_s h0
    ·
      refine pr_b pr_any (fun rh6 _ => ?_)
      refine pr_i (fun _ => ?_) (fun _ => ?_)
      ·
        refine pr_b pr_any (fun rh12 _ => ?_)
        refine pr_i (fun _ => ?_) (fun _ => ?_)
        ·
          exact z_X12_trusted_J65 h0 (fun h => ih h)
        ·
          exact z_X12_trusted_J64 h0 (fun h => ih h)
      ·
        exact z_X12_trusted_J64 h0 (fun h => ih h)
theorem z_X12_trusted_J18 {n : Nat} {σh1 : ms_T} {v1_h1 : Int32} {v2_h1 : Int32} {w0_h1 : Int32} {σ0 : ms_T} (h0 : kq σ0 σh1)  : pr (f_X12_trusted_J18 n σh1 v1_h1 v2_h1 w0_h1) (fun res => kq σ0 res.2) := by
  unfold f_X12_trusted_J18
  refine pr_c (z_X12_is h0 ) (fun rh2 σh2 h_1 => ?_)
  replace h_1 : kq σ0 σh2 := h_1
  refine pr_i (fun _ => ?_) (fun _ => ?_)
  ·
    exact pr_s h_1
  ·
    exact z_X12_trusted_L31  _ h_1
theorem z_X12_trusted_J13 {n : Nat} {σh14 : ms_T} {v1_h14 : Int32} {v2_h14 : Int32} {σ0 : ms_T} (h0 : kq σ0 σh14)  : pr (f_X12_trusted_J13 n σh14 v1_h14 v2_h14) (fun res => kq σ0 res.2) := by
  unfold f_X12_trusted_J13
  exact z_X12_trusted_J18 h0 
theorem z_X12_trusted {n : Nat} {σ : ms_T} {a1 : Int32} {a2 : Int32} {σ0 : ms_T} (h0 : kq σ0 σ)  : pr (f_X12_trusted n σ a1 a2) (fun res => kq σ0 res.2) := by
  unfold f_X12_trusted
  refine pr_i (fun _ => ?_) (fun _ => ?_)
  ·
    exact z_X12_trusted_J13 h0 
  ·
    refine pr_b pr_any (fun rh16 _ => ?_)
    refine pr_i (fun _ => ?_) (fun _ => ?_)
    ·
      exact z_X12_trusted_J13 h0 
    ·
      exact z_X12_trusted_J18 h0 
theorem z_X12_saves_J64 {n : Nat} {rec31 : ms_T → Int32 → Int32 → Int32 → Int32 → Option (Int32 × ms_T)} {σh7 : ms_T} {v1_h7 : Int32} {v2_h7 : Int32} {v3_h7 : Int32} {v4_h7 : Int32} {σ0 : ms_T} (h0 : kq σ0 σh7) (hrec31 : ∀ {y0 : ms_T} {y1 : Int32} {y2 : Int32} {y3 : Int32} {y4 : Int32}, kq σ0 y0 → pr (rec31 y0 y1 y2 y3 y4) (fun res => kq σ0 res.2)) : pr (f_X12_saves_J64 n rec31 σh7 v1_h7 v2_h7 v3_h7 v4_h7) (fun res => kq σ0 res.2) := by
  unfold f_X12_saves_J64
  refine pr_ln (fun x8 _ => ?_)
  exact hrec31 h0
theorem z_X12_saves_L31 {n : Nat} {σ0 : ms_T}  : ∀ (k31 : Nat) {σh4 : ms_T} {v1_h4 : Int32} {v2_h4 : Int32} {v3_h4 : Int32} {v4_h4 : Int32}, kq σ0 σh4 → pr (f_X12_saves_L31 n k31 σh4 v1_h4 v2_h4 v3_h4 v4_h4) (fun res => kq σ0 res.2) := by
  intro k31
  induction k31 with
  | zero => intro σh4 v1_h4 v2_h4 v3_h4 v4_h4 h0; rw [f_X12_saves_L31.eq_1]; exact pr_0
  | succ k31 ih =>
    intro σh4 v1_h4 v2_h4 v3_h4 v4_h4 h0
    rw [f_X12_saves_L31.eq_2]
    refine pr_i (fun _ => ?_) (fun _ => ?_)
    ·
      refine pr_b (z_X12_bundleOf h0 ) (fun σh6 h_1 => ?_)
      replace h_1 : kq σ0 σh6 := h_1
      exact pr_s h_1
    ·
      refine pr_i (fun _ => ?_) (fun _ => ?_)
      ·
        exact z_X12_saves_J64 h0 (fun h => ih h)
      ·
        refine pr_b (z_X12_inclusion h0 ) (fun σh10 h_2 => ?_)
        replace h_2 : kq σ0 σh10 := h_2
        refine pr_ln (fun x11 _ => ?_)
        exact z_X12_saves_J64 h_2 (fun h => ih h)
theorem z_X12_saves_J18 {n : Nat} {σh1 : ms_T} {v1_h1 : Int32} {v2_h1 : Int32} {w0_h1 : Int32} {σ0 : ms_T} (h0 : kq σ0 σh1)  : pr (f_X12_saves_J18 n σh1 v1_h1 v2_h1 w0_h1) (fun res => kq σ0 res.2) := by
  unfold f_X12_saves_J18
  refine pr_c (z_X12_is h0 ) (fun rh2 σh2 h_1 => ?_)
  replace h_1 : kq σ0 σh2 := h_1
  refine pr_i (fun _ => ?_) (fun _ => ?_)
  ·
    exact pr_s h_1
  ·
    exact z_X12_saves_L31  _ h_1
theorem z_X12_saves_J13 {n : Nat} {σh12 : ms_T} {v1_h12 : Int32} {v2_h12 : Int32} {σ0 : ms_T} (h0 : kq σ0 σh12)  : pr (f_X12_saves_J13 n σh12 v1_h12 v2_h12) (fun res => kq σ0 res.2) := by
  unfold f_X12_saves_J13
  exact z_X12_saves_J18 h0 
theorem z_X12_saves {n : Nat} {σ : ms_T} {a1 : Int32} {a2 : Int32} {σ0 : ms_T} (h0 : kq σ0 σ)  : pr (f_X12_saves n σ a1 a2) (fun res => kq σ0 res.2) := by
  unfold f_X12_saves
  refine pr_i (fun _ => ?_) (fun _ => ?_)
  ·
    exact z_X12_saves_J13 h0 
  ·
    refine pr_b pr_any (fun rh14 _ => ?_)
    refine pr_i (fun _ => ?_) (fun _ => ?_)
    ·
      exact z_X12_saves_J18 h0 
    ·
      exact z_X12_saves_J13 h0 
theorem z_X12_who_J62 {n : Nat} {rec31 : ms_T → Int32 → Int32 → Int32 → Int32 → Option (Int32 × ms_T)} {σh8 : ms_T} {v1_h8 : Int32} {v2_h8 : Int32} {v4_h8 : Int32} {w0_h8 : Int32} {w1_h8 : Int32} {σ0 : ms_T} (h0 : kq σ0 σh8) (hrec31 : ∀ {y0 : ms_T} {y1 : Int32} {y2 : Int32} {y3 : Int32} {y4 : Int32}, kq σ0 y0 → pr (rec31 y0 y1 y2 y3 y4) (fun res => kq σ0 res.2)) : pr (f_X12_who_J62 n rec31 σh8 v1_h8 v2_h8 v4_h8 w0_h8 w1_h8) (fun res => kq σ0 res.2) := by
  unfold f_X12_who_J62
  refine pr_ln (fun x9 _ => ?_)
  refine pr_ln (fun x10 _ => ?_)
  exact hrec31 h0
theorem z_X12_who_L31 {n : Nat} {σ0 : ms_T}  : ∀ (k31 : Nat) {σh4 : ms_T} {v1_h4 : Int32} {v2_h4 : Int32} {v3_h4 : Int32} {v4_h4 : Int32}, kq σ0 σh4 → pr (f_X12_who_L31 n k31 σh4 v1_h4 v2_h4 v3_h4 v4_h4) (fun res => kq σ0 res.2) := by
  intro k31
  induction k31 with
  | zero => intro σh4 v1_h4 v2_h4 v3_h4 v4_h4 h0; rw [f_X12_who_L31.eq_1]; exact pr_0
  | succ k31 ih =>
    intro σh4 v1_h4 v2_h4 v3_h4 v4_h4 h0
    rw [f_X12_who_L31.eq_2]
    refine pr_g (fun _ _ => ?_)
    refine pr_i (fun _ => ?_) (fun _ => ?_)
    ·
      exact pr_s h0
    ·
      refine pr_b pr_any (fun rh7 _ => ?_)
      refine pr_i (fun _ => ?_) (fun _ => ?_)
      ·
        exact z_X12_who_J62 h0 (fun h => ih h)
      ·
        exact z_X12_who_J62 h0 (fun h => ih h)
theorem z_X12_who_J18 {n : Nat} {σh1 : ms_T} {v1_h1 : Int32} {v2_h1 : Int32} {w0_h1 : Int32} {σ0 : ms_T} (h0 : kq σ0 σh1)  : pr (f_X12_who_J18 n σh1 v1_h1 v2_h1 w0_h1) (fun res => kq σ0 res.2) := by
  unfold f_X12_who_J18
  refine pr_c (z_X12_is h0 ) (fun rh2 σh2 h_1 => ?_)
  replace h_1 : kq σ0 σh2 := h_1
  refine pr_i (fun _ => ?_) (fun _ => ?_)
  ·
    exact pr_s h_1
  ·
    exact z_X12_who_L31  _ h_1
theorem z_X12_who_J13 {n : Nat} {σh12 : ms_T} {v1_h12 : Int32} {v2_h12 : Int32} {σ0 : ms_T} (h0 : kq σ0 σh12)  : pr (f_X12_who_J13 n σh12 v1_h12 v2_h12) (fun res => kq σ0 res.2) := by
  unfold f_X12_who_J13
  exact z_X12_who_J18 h0 
theorem z_X12_who {n : Nat} {σ : ms_T} {a1 : Int32} {a2 : Int32} {σ0 : ms_T} (h0 : kq σ0 σ)  : pr (f_X12_who n σ a1 a2) (fun res => kq σ0 res.2) := by
  unfold f_X12_who
  refine pr_i (fun _ => ?_) (fun _ => ?_)
  ·
    exact z_X12_who_J13 h0 
  ·
    refine pr_b pr_any (fun rh14 _ => ?_)
    refine pr_i (fun _ => ?_) (fun _ => ?_)
    ·
      exact z_X12_who_J13 h0 
    ·
      exact z_X12_who_J18 h0 
/-! ===== what calls that write the pad leave of the reference's cells ===== -/
def kpd (σ τ : ms_T) : Prop := ms_I τ 664 = ms_I σ 664 ∧ (∀ κ, (κ == 45 || κ == 47) = true → ∀ j, ms_E τ κ j = ms_E σ κ j) ∧ ∀ j : Nat, j ≠ 2 → (j < 8 ∨ 8 + (ms_E τ 40 2).toInt ≤ (j : Int)) → ms_E τ 40 j = ms_E σ 40 j
theorem kq_45 {κ : Nat} (h : (κ == 45 || κ == 47) = true) : (κ == 40 || κ == 45 || κ == 47) = true := by rw [Bool.or_assoc, h, Bool.or_true]
theorem kpd_kq {σ τ : ms_T} (h : kq σ τ) : kpd σ τ := ⟨h.1 664 rfl, fun κ hκ j => h.2 κ (kq_45 hκ) j, fun j _ _ => h.2 40 rfl j⟩
theorem kpd_l {σ τ υ : ms_T} (h : kpd τ υ) (e1 : ms_I τ 664 = ms_I σ 664) (e2 : ∀ κ, (κ == 45 || κ == 47) = true → ∀ j, ms_E τ κ j = ms_E σ κ j) (e3 : ∀ j, j ≠ 2 → ms_E τ 40 j = ms_E σ 40 j) : kpd σ υ :=
  ⟨h.1.trans e1, fun κ hκ j => (h.2.1 κ hκ j).trans (e2 κ hκ j), fun j h2 hj => (h.2.2 j h2 hj).trans (e3 j h2)⟩
theorem kpd_lq {σ τ υ : ms_T} (h : kpd τ υ) (g : kq σ τ) : kpd σ υ := kpd_l h (g.1 664 rfl) (fun κ hκ j => g.2 κ (kq_45 hκ) j) (fun j _ => g.2 40 rfl j)
theorem n40_45 {κ : Nat} (h : (κ == 45 || κ == 47) = true) : κ ≠ 40 := fun e => by rw [e] at h; cases h
theorem zp_pads_L {n : Nat} {σ0 : ms_T} : ∀ (k : Nat) (σ : ms_T) (v : Nat) (vI : Int32), vI.toInt = (v : Int) → ms_I σ 657 = ms_I σ0 657 → ms_I σ 664 = ms_I σ0 664 → (∀ κ, (κ == 45 || κ == 47) = true → ∀ j, ms_E σ κ j = ms_E σ0 κ j) → (∀ j : Nat, (j < 8 ∨ 8 + v ≤ j) → ms_E σ 40 j = ms_E σ0 40 j) → (v = 0 ∨ (v : Int) ≤ (ms_I σ0 657).toInt) → pr (f_X12_pads_L7 n k σ vI) (fun res => kpd σ0 res.2) := by
  intro k
  induction k with
  | zero => intro σ v vI _ _ _ _ _ _; rw [f_X12_pads_L7.eq_1]; exact pr_0
  | succ k ih =>
    intro σ v vI hv h7 h4 hE hc hv0
    rw [f_X12_pads_L7.eq_2, c2]
    refine pr_le (fun e => pr_g (fun _ _ => pr_l (pr_s ⟨h4, fun κ hκ j => ?_, fun j h2 hj => ?_⟩))) (fun e => pr_g (fun g0 g1 => pr_g (fun _ _ => pr_l (pr_l ?_))))
    · show ms_E (ms_sE σ 40 2 _) κ j = _
      rw [mE_sE, if_neg (fun q => n40_45 hκ q.1)]
      exact hE κ hκ j
    · have q : ms_E (ms_sE σ 40 2 (ms_I σ 657)) 40 2 = ms_I σ 657 := by rw [mE_sE, if_pos ⟨rfl, rfl⟩]
      replace hj : j < 8 ∨ 8 + (ms_E (ms_sE σ 40 2 (ms_I σ 657)) 40 2).toInt ≤ (j : Int) := hj
      rw [q, h7] at hj
      show ms_E (ms_sE σ 40 2 _) 40 j = _
      rw [mE_sE, if_neg (fun q => h2 q.2)]
      exact hc j (by omega)
    · have ec : ((8 : Int32) + vI).toNatClampNeg = 8 + v := cl_n (by rw [iw_add, t_8]; omega)
      have e1 : (vI + 1).toInt = ((v + 1 : Nat) : Int) := by rw [iw_add, lt1]; omega
      rw [ec]
      refine ih _ (v + 1) _ e1 h7 h4 (fun κ hκ j => ?_) (fun j hj => ?_) (Or.inr (by rw [h7] at e; omega))
      · rw [mE_sE, if_neg (fun q => n40_45 hκ q.1)]; exact hE κ hκ j
      · rw [mE_sE, if_neg (fun q => by omega)]; exact hc j (by omega)
theorem zp_pads {n : Nat} {σ : ms_T} {a1 : Int32} : pr (f_X12_pads n σ a1) (fun res => kpd σ res.2) := by
  unfold f_X12_pads
  refine pr_b (z_X12_fetches kq_rf) (fun τ hτ => ?_)
  exact pr_m (zp_pads_L n τ 0 0 rfl rfl rfl (fun _ _ _ => rfl) (fun _ _ => rfl) (Or.inl rfl)) (fun res hr => kpd_lq hr hτ)
theorem zc_include (n : Nat) (σ : ms_T) (a b c : Int32) : pr (f_X12_include n σ a b c) (fun res => kpd σ res.2) := by
  unfold f_X12_include
  refine pr_b pr_any (fun _ _ => pr_c (z_X12_is kq_rf) (fun _ τ hτ => pr_i (fun _ => pr_s (kpd_kq hτ)) (fun _ => pr_b (z_X12_inclusion hτ) (fun υ hυ => pr_c zp_pads (fun _ ξ hξ => pr_s (kpd_lq hξ hυ))))))
theorem zc_grow (n : Nat) (σ : ms_T) (a b c : Int32) : pr (f_X12_grow n σ a b c) (fun res => kpd σ res.2) := by
  have hJ : ∀ w, pr (f_X12_grow_J20 n σ a b c w) (fun res => kpd σ res.2) := by
    intro w
    unfold f_X12_grow_J20
    exact pr_c (z_X12_is kq_rf) (fun _ τ hτ => pr_i (fun _ => pr_s (kpd_kq hτ)) (fun _ => pr_b (z_X12_growth hτ) (fun υ hυ => pr_c zp_pads (fun _ ξ hξ => pr_s (kpd_lq hξ hυ)))))
  unfold f_X12_grow f_X12_grow_J10
  exact pr_i (fun _ => hJ _) (fun _ => pr_i (fun _ => pr_b pr_any (fun _ _ => hJ _)) (fun _ => hJ _))
theorem zc_bundle (n : Nat) (σ : ms_T) (a b c : Int32) : pr (f_X12_bundle n σ a b c) (fun res => kpd σ res.2) := by
  have hJ : ∀ w, pr (f_X12_bundle_J19 n σ a b c w) (fun res => kpd σ res.2) := by
    intro w
    unfold f_X12_bundle_J19
    exact pr_c (z_X12_is kq_rf) (fun _ τ hτ => pr_i (fun _ => pr_s (kpd_kq hτ)) (fun _ => pr_b pr_any (fun _ _ => pr_i (fun _ => pr_b (z_X12_bundleOf hτ) (fun υ hυ => pr_c zp_pads (fun _ ξ hξ => pr_s (kpd_lq hξ hυ)))) (fun _ => pr_c (z_X12_refuse hτ) (fun _ υ hυ => pr_s (kpd_kq hυ))))))
  unfold f_X12_bundle f_X12_bundle_J9
  exact pr_i (fun _ => hJ _) (fun _ => pr_i (fun _ => pr_b pr_any (fun _ _ => hJ _)) (fun _ => hJ _))
theorem zc_peaks (n : Nat) (σ : ms_T) (a b : Int32) : pr (f_X12_peaks n σ a b) (fun res => kpd σ res.2) := by
  unfold f_X12_peaks
  refine pr_b pr_any (fun _ _ => pr_c (z_X12_is kq_rf) (fun _ τ hτ => pr_i (fun _ => pr_s (kpd_kq hτ)) (fun _ => pr_b (z_X12_peaksOf hτ) (fun υ hυ => pr_c zp_pads (fun _ ξ hξ => pr_s (kpd_lq hξ hυ))))))
theorem zc_cut (n : Nat) (σ : ms_T) (a : Int32) : pr (f_X12_cut n σ a) (fun res => kpd σ res.2) := by
  have hJ : ∀ w, pr (f_X12_cut_J24 n σ a w) (fun res => kpd σ res.2) := by
    intro w
    unfold f_X12_cut_J24
    rw [c2]
    refine pr_c (z_X12_is kq_rf) (fun _ τ hτ => pr_i (fun _ => pr_s (kpd_kq hτ)) (fun _ => pr_g (fun _ _ => pr_l (pr_s (kpd_lq (τ := τ) ⟨rfl, fun κ hκ j => ?_, fun j h2 _ => ?_⟩ hτ)))))
    · show ms_E (ms_sE τ 40 2 a) κ j = _
      rw [mE_sE, if_neg (fun q => n40_45 hκ q.1)]
    · show ms_E (ms_sE τ 40 2 a) 40 j = _
      rw [mE_sE, if_neg (fun q => h2 q.2)]
  unfold f_X12_cut
  exact pr_i (fun _ => pr_g (fun _ _ => pr_i (fun _ => hJ _) (fun _ => hJ _))) (fun _ => hJ _)
theorem zc_push (n : Nat) (σ : ms_T) (hC : rC (ms_E σ 40)) (a : Int32) : pr (f_X12_push n σ a) (fun res => kpd σ res.2) := by
  have hJ : ∀ w, pr (f_X12_push_J29 n σ a w) (fun res => kpd σ res.2) := by
    intro w
    unfold f_X12_push_J29
    rw [c2]
    refine pr_c (z_X12_is kq_rf) (fun _ τ hτ => pr_i (fun _ => pr_s (kpd_kq hτ)) (fun _ => pr_g (fun _ _ => pr_g (fun _ _ => pr_l (pr_g (fun _ _ => pr_g (fun _ _ => pr_l (pr_g (fun _ _ => pr_s ?_)))))))))
    replace hτ : kq σ τ := hτ
    have h2 : 0 ≤ (ms_E τ 40 2).toInt ∧ (ms_E τ 40 2).toInt ≤ 64 := by rw [hτ.2 40 rfl 2]; exact hC.2.2.1
    have ec : ((8 : Int32) + ms_E τ 40 2).toNatClampNeg = 8 + (ms_E τ 40 2).toInt.toNat := cl_n (by rw [iw_add, t_8]; omega)
    have e1 : (ms_E τ 40 2 + 1).toInt = (ms_E τ 40 2).toInt + 1 := by rw [iw_add, lt1]; omega
    rw [ec]
    have q2 : ms_E (ms_sE τ 40 (8 + (ms_E τ 40 2).toInt.toNat) a) 40 2 = ms_E τ 40 2 := by rw [mE_sE, if_neg (fun q => by omega)]
    rw [q2]
    refine kpd_lq (τ := τ) ⟨rfl, fun κ hκ j => ?_, fun j h3 hj => ?_⟩ hτ
    · show ms_E (ms_sE (ms_sE τ 40 _ a) 40 2 _) κ j = _
      rw [mE_sE, if_neg (fun q => n40_45 hκ q.1), mE_sE, if_neg (fun q => n40_45 hκ q.1)]
    · replace hj : j < 8 ∨ 8 + (ms_E (ms_sE (ms_sE τ 40 (8 + (ms_E τ 40 2).toInt.toNat) a) 40 2 (ms_E τ 40 2 + 1)) 40 2).toInt ≤ (j : Int) := hj
      rw [mE_sE, if_pos ⟨rfl, rfl⟩, e1] at hj
      show ms_E (ms_sE (ms_sE τ 40 _ a) 40 2 _) 40 j = _
      rw [mE_sE, if_neg (fun q => h3 q.2), mE_sE, if_neg (fun q => by omega)]
  unfold f_X12_push
  exact pr_b pr_any (fun _ _ => pr_i (fun _ => hJ _) (fun _ => pr_g (fun _ _ => pr_i (fun _ => hJ _) (fun _ => hJ _))))
theorem zc_poke (n : Nat) (σ : ms_T) (hC : rC (ms_E σ 40)) (a b : Int32) : pr (f_X12_poke n σ a b) (fun res => kpd σ res.2) := by
  have hz : ∀ w, ¬ w = 0 → pr (f_X12_poke_J32 n σ a b w) (fun res => kpd σ res.2) := by
    intro w hw
    unfold f_X12_poke_J32
    exact v_is1 n σ w hw (pr_s (kpd_kq (kq_sI rfl (kq_sI rfl kq_rf))))
  unfold f_X12_poke f_X12_poke_J13
  refine pr_lt (fun _ => hz _ (by decide)) (fun h0 => pr_b pr_any (fun _ _ => pr_i (fun _ => hz _ (by decide)) (fun _ => pr_g (fun _ _ => ?_))))
  rw [c2]
  refine pr_lt (fun h1 => ?_) (fun _ => hz _ (by decide))
  unfold f_X12_poke_J32
  refine v_is0 n σ (pr_g (fun g0 g1 => pr_l (pr_g (fun _ _ => pr_l (pr_s ?_)))))
  rw [lt0] at h0
  have h2 := hC.2.2.1
  have ec : ((8 : Int32) + a).toNatClampNeg = 8 + a.toInt.toNat := cl_n (by rw [iw_add, t_8]; omega)
  rw [ec]
  refine ⟨rfl, fun κ hκ j => ?_, fun j h3 hj => ?_⟩
  · show ms_E (ms_sE (ms_sI (ms_sI σ 653 0) 652 0) 40 _ b) κ j = _
    rw [mE_sE, if_neg (fun q => n40_45 hκ q.1)]; rfl
  · replace hj : j < 8 ∨ 8 + (ms_E (ms_sE (ms_sI (ms_sI σ 653 0) 652 0) 40 (8 + a.toInt.toNat) b) 40 2).toInt ≤ (j : Int) := hj
    rw [mE_sE, if_neg (fun q => by omega)] at hj
    replace hj : j < 8 ∨ 8 + (ms_E σ 40 2).toInt ≤ (j : Int) := hj
    show ms_E (ms_sE (ms_sI (ms_sI σ 653 0) 652 0) 40 _ b) 40 j = _
    rw [mE_sE, if_neg (fun q => by omega)]; rfl
theorem zc_extend_L (n : Nat) (A P : Nat) (hA : A < 1048576) (hP : P = bc A) (hP63 : P ≤ 63) : ∀ (k t : Nat) (τ : ms_T) (x v : Int32), RI τ → (ms_E τ 40 2).toInt = (P : Int) - t → A % 2 ^ t = 2 ^ t - 1 → v.toInt = ((A / 2 ^ t : Nat) : Int) → t ≤ 20 → pr (f_X12_extend_L55 n k τ x v) (fun res => kpd τ res.2) := by
  intro k
  induction k with
  | zero => intro t τ x v hR hc hm hv ht; rw [f_X12_extend_L55.eq_1]; exact pr_0
  | succ k ih =>
    intro t τ x v hR hc hm hv ht
    rw [f_X12_extend_L55.eq_2, c2]
    have h64 := hR.2.2.2.1
    have hv0 : 0 ≤ v.toInt := by
      generalize A / 2 ^ t = Q at hv
      omega
    have hrem : (v - v / 2 * 2).toInt = v.toInt % 2 := by rw [ii_rem (x := v) (y := 2) hv0 (by decide), t_2]
    have l1 := lt1
    refine pr_i (fun e => ?_) (fun e => ?_)
    · have e' : (v - v / 2 * 2).toInt = 1 := by rw [e, lt1]
      have ho : A / 2 ^ t % 2 = 1 := by omega
      have hp := Nat.one_le_two_pow (n := t)
      have ht2 : t + 1 ≤ 20 := by
        rcases Nat.lt_or_ge t 20 with q | q
        · omega
        · have e20 : t = 20 := by omega
          rw [e20, Nat.div_eq_of_lt (by omega)] at ho
          omega
      have hm2 : A % 2 ^ (t + 1) = 2 ^ (t + 1) - 1 := by
        rw [Nat.pow_succ, Nat.mod_mul, hm, ho]
        omega
      have hle := bc_t A (t + 1) hA ht2 hm2
      rw [← hP] at hle
      have e1 : (ms_E τ 40 2 - 1).toInt = (P : Int) - t - 1 := by rw [iw_sub, lt1]; omega
      have ed : (v / 2).toInt = ((A / 2 ^ (t + 1) : Nat) : Int) := by
        rw [ii_div hv0 (by decide), t_2, hv, Nat.pow_succ, ← Nat.div_div_eq_div_mul]
        generalize A / 2 ^ t = Q
        omega
      refine pr_g (fun _ _ => pr_g (fun _ _ => pr_ln (fun σ1 hs => pr_g (fun _ _ => pr_g (fun _ _ => pr_b pr_any (fun y _ => pr_l ?_))))))
      have hR1 : RI σ1 := by rw [hs]; exact RI_sE hR ⟨fun _ => by omega, fun _ => by omega, fun _ => by omega, fun _ => by omega, fun _ _ _ => by omega, fun _ _ _ => by omega, fun _ _ _ => by omega, fun _ _ _ => by omega, fun _ _ _ => by omega⟩
      have ez : ms_E σ1 40 2 = ms_E τ 40 2 - 1 := by rw [hs, mE_sE, if_pos ⟨rfl, rfl⟩]
      refine pr_m (ih (t + 1) σ1 y (v / 2) hR1 (by rw [ez, e1]; omega) hm2 ed ht2) (fun q hq => kpd_l hq (by rw [hs]; rfl) (fun κ hκ j => ?_) (fun j hj => ?_))
      · rw [hs, mE_sE, if_neg (fun q => n40_45 hκ q.1)]
      · rw [hs, mE_sE, if_neg (fun q => hj q.2)]
    · have e8 : ((8 : Int32) + ms_E τ 40 2).toInt = 8 + (ms_E τ 40 2).toInt := by rw [iw_add, t_8]; omega
      have e1 : (ms_E τ 40 2 + 1).toInt = (ms_E τ 40 2).toInt + 1 := by rw [iw_add, lt1]; omega
      have ec := cl_n (i := (8 : Int32) + ms_E τ 40 2) (k := 8 + (ms_E τ 40 2).toInt.toNat) (by omega)
      refine pr_g (fun _ _ => pr_g (fun _ _ => pr_l (pr_g (fun _ _ => pr_g (fun _ _ => pr_l (pr_g (fun _ _ => pr_s ?_)))))))
      rw [ec]
      have q2 : ms_E (ms_sE τ 40 (8 + (ms_E τ 40 2).toInt.toNat) x) 40 2 = ms_E τ 40 2 := by rw [mE_sE, if_neg (fun q => by omega)]
      rw [q2]
      refine ⟨rfl, fun κ hκ j => ?_, fun j h3 hj => ?_⟩
      · show ms_E (ms_sE (ms_sE τ 40 _ x) 40 2 _) κ j = _
        rw [mE_sE, if_neg (fun q => n40_45 hκ q.1), mE_sE, if_neg (fun q => n40_45 hκ q.1)]
      · replace hj : j < 8 ∨ 8 + (ms_E (ms_sE (ms_sE τ 40 (8 + (ms_E τ 40 2).toInt.toNat) x) 40 2 (ms_E τ 40 2 + 1)) 40 2).toInt ≤ (j : Int) := hj
        rw [mE_sE, if_pos ⟨rfl, rfl⟩, e1] at hj
        show ms_E (ms_sE (ms_sE τ 40 _ x) 40 2 _) 40 j = _
        rw [mE_sE, if_neg (fun q => h3 q.2), mE_sE, if_neg (fun q => by omega)]
theorem zc_extend (n : Nat) (hn : 70000 ≤ n) (σ : ms_T) (hR : RI σ) (a1 a2 : Int32) : pr (f_X12_extend n σ a1 a2) (fun res => kpd σ res.2) := by
  have L := lits
  have tm := t_mil
  have hC := hR.2
  have hJ : ∀ w : Int32, (w = 0 → 0 ≤ a1.toInt ∧ a1.toInt ≤ 1000000 ∧ (ms_E σ 40 2).toInt = (bc a1.toInt.toNat : Int) ∧ bc a1.toInt.toNat ≤ 63) → pr (f_X12_extend_J42 n σ a1 a2 w) (fun res => kpd σ res.2) := by
    intro w hw
    unfold f_X12_extend_J42
    by_cases e : w = 0
    · obtain ⟨q1, q2, q3, q4⟩ := hw e
      subst e
      refine v_is0 n σ ?_
      have hR2 : RI (ms_sI (ms_sI σ 653 0) 652 0) := hR
      exact pr_m (zc_extend_L n a1.toInt.toNat _ (by omega) rfl q4 n 0 _ a2 a1 hR2 (by show (ms_E σ 40 2).toInt = _; omega) (by rw [Nat.pow_zero, Nat.mod_one]) (by rw [Nat.pow_zero, Nat.div_one]; omega) (by omega)) (fun res hr => kpd_lq hr (kq_sI rfl (kq_sI rfl kq_rf)))
    · exact v_is1 n σ w e (pr_s (kpd_kq (kq_sI rfl (kq_sI rfl kq_rf))))
  unfold f_X12_extend f_X12_extend_J20
  rw [c2]
  refine pr_bo (pr_w (s_isIn n _ _ _)) (fun _ => hJ _ (fun h => absurd h (by decide))) (fun q => pr_bo (pr_w (s_isMark hC _)) (fun _ => hJ _ (fun h => absurd h (by decide))) (fun _ => ?_))
  obtain ⟨r, er, hr⟩ := s_bitCount2 n a1 (by omega) (by omega)
  obtain ⟨r', er', hr'⟩ := s_bitCount n a1
  rw [er] at er'
  cases er'
  refine pr_b (T := fun x => x = r) (fun x hx => by rw [er] at hx; cases hx; rfl) (fun x hx => ?_)
  subst hx
  refine pr_g (fun _ _ => pr_i (fun e => hJ _ (fun _ => ⟨by omega, by omega, by rw [← e]; omega, by omega⟩)) (fun _ => hJ _ (fun h => absurd h (by decide))))
