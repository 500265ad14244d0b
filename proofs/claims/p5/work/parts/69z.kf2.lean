set_option maxRecDepth 100000
theorem x_X12_status {n : Nat} {σ : ms_T} {σ0 : ms_T} (h0 : kf σ0 σ)  : pr (f_X12_status n σ) (fun res => kf σ0 res.2) := by
  unfold f_X12_status
  refine pr_ln (fun σh1 e1 => ?_)
  have h_1 : kf σ0 σh1 := by rw [e1]; exact kf_sI rfl h0
  exact pr_s h_1
theorem x_X12_growth__J32 {n : Nat} {σh1 : ms_T} {v1_h1 : Int32} {v2_h1 : Int32} {v3_h1 : Int32} {v4_h1 : Int32} {w0_h1 : Int32} {σ0 : ms_T} (h0 : kf σ0 σh1)  : pr (f_X12_growth__J32 n σh1 v1_h1 v2_h1 v3_h1 v4_h1 w0_h1) (fun res => kf σ0 res.2) := by
  unfold f_X12_growth__J32
  refine pr_c (x_X12_is h0 ) (fun rh2 σh2 h_1 => ?_)
  replace h_1 : kf σ0 σh2 := h_1
  refine pr_i (fun _ => ?_) (fun _ => ?_)
  ·
    exact pr_s h_1
  ·
    refine pr_c (x_X12_fromPad h_1 ) (fun rh4 σh4 h_2 => ?_)
    replace h_2 : kf σ0 σh4 := h_2
    refine pr_c (x_X12_whyGrown h_2 ) (fun rh5 σh5 h_3 => ?_)
    replace h_3 : kf σ0 σh5 := h_3
    exact pr_s h_3
theorem x_X12_growth__J31 {n : Nat} {σh6 : ms_T} {v1_h6 : Int32} {v2_h6 : Int32} {v3_h6 : Int32} {v4_h6 : Int32} {σ0 : ms_T} (h0 : kf σ0 σh6)  : pr (f_X12_growth__J31 n σh6 v1_h6 v2_h6 v3_h6 v4_h6) (fun res => kf σ0 res.2) := by
  unfold f_X12_growth__J31
  exact x_X12_growth__J32 h0
theorem x_X12_growth_ {n : Nat} {σ : ms_T} {a1 : Int32} {a2 : Int32} {a3 : Int32} {a4 : Int32} {σ0 : ms_T} (h0 : kf σ0 σ)  : pr (f_X12_growth_ n σ a1 a2 a3 a4) (fun res => kf σ0 res.2) := by
  unfold f_X12_growth_
  refine pr_i (fun _ => ?_) (fun _ => ?_)
  ·
    exact x_X12_growth__J31 h0 
  ·
    refine pr_i (fun _ => ?_) (fun _ => ?_)
    ·
      exact x_X12_growth__J31 h0 
    ·
      refine pr_b pr_any (fun rh9 _ => ?_)
      refine pr_i (fun _ => ?_) (fun _ => ?_)
      ·
        exact x_X12_growth__J31 h0 
      ·
        refine pr_b pr_any (fun rh11 _ => ?_)
        refine pr_i (fun _ => ?_) (fun _ => ?_)
        ·
          exact x_X12_growth__J31 h0 
        ·
          exact x_X12_growth__J32 h0
