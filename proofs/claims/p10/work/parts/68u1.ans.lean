set_option maxRecDepth 100000
/-! ===== size ===== -/
def szA (f : Nat → Int32) (a : Int32) : Int32 := if 0 ≤ a.toInt ∧ a.toInt < (f 0).toInt then f (72 + a.toInt.toNat) else -1
theorem v_size (n : Nat) (σ : ms_T) (hC : rC (ms_E σ 40)) (a : Int32) : pr (f_X12_size n σ a) (fun res => res.1 = szA (ms_E σ 40) a) := by
  have h4 := hC.1
  unfold f_X12_size f_X12_size_J14
  refine pr_bo (pr_w (s_isRecord hC a)) (fun h0 => v_is1 n σ 2 (by decide) (pr_s ?_)) (fun h1 => v_is0 n σ ?_)
  · unfold szA; rw [if_neg h0]
  · unfold f_X12_sizeOf
    refine pr_b (T := fun v => v = ms_E σ 40 (72 + a.toInt.toNat)) (pr_g (fun g0 g1 => pr_s ?_)) (fun v hv => pr_s ?_)
    · rw [cl_n (i := (72 : Int32) + a) (k := 72 + a.toInt.toNat) (by rw [iw_add, t_72]; omega)]; rfl
    · unfold szA; rw [if_pos h1]; exact hv
theorem k_size (n : Nat) (α : hp_T) (x : Nat) (f : Nat → Int32) (hC : rC f) (h : RWX α x f) (a : Int32) : ws (f_X11_size n α x a) (fun res => res.1 = szA f a) := by
  obtain ⟨w, u, h1, h2, h3, h4, -⟩ := h
  unfold f_X11_size
  refine ws_l ?_
  rw [h1]
  refine ws_b (k_logAt n h4 hC a) (fun o ho => ?_)
  unfold szA
  by_cases hr : 0 ≤ a.toInt ∧ a.toInt < (f 0).toInt
  · rw [if_pos hr] at ho
    subst ho
    refine ws_hS (ws_l ?_)
    rw [(h4.2.2.1 a.toInt.toNat (by omega)).1, if_pos hr]
    exact ws_hc (k_answer n α x _) (fun z γ hz => ws_s hz.1)
  · rw [if_neg hr] at ho
    subst ho
    rw [if_neg hr]
    refine ws_hN ?_
    exact ws_hc (k_refuse n α x 2) (fun z γ hz => ws_s hz.1)
