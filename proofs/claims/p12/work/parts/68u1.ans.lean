set_option maxRecDepth 100000
/-! ===== head ===== -/
theorem v_noSize (n : Nat) (σ : ms_T) (hC : rC (ms_E σ 40)) (a b : Int32) : pr (f_X12_noSize n σ a b) (fun v => (v = 0 ∧ 0 ≤ b.toInt ∧ (0 ≤ a.toInt ∧ a.toInt < (ms_E σ 40 0).toInt) ∧ b.toInt ≤ (ms_E σ 40 (72 + a.toInt.toNat)).toInt) ∨ (¬ v = 0 ∧ ¬ (0 ≤ b.toInt ∧ (0 ≤ a.toInt ∧ a.toInt < (ms_E σ 40 0).toInt) ∧ b.toInt ≤ (ms_E σ 40 (72 + a.toInt.toNat)).toInt))) := by
  have h4 := hC.1
  unfold f_X12_noSize
  refine pr_le (fun e => pr_bo (pr_w (s_isRecord hC a)) (fun h0 => pr_s (Or.inr ⟨by decide, fun q => h0 q.2.1⟩)) (fun h1 => ?_)) (fun e => pr_s (Or.inr ⟨by decide, fun q => by rw [lt0] at e; omega⟩))
  rw [lt0] at e
  unfold f_X12_sizeOf
  refine pr_b (T := fun v => v = ms_E σ 40 (72 + a.toInt.toNat)) (pr_g (fun g0 g1 => pr_s ?_)) (fun v hv => ?_)
  · rw [cl_n (i := (72 : Int32) + a) (k := 72 + a.toInt.toNat) (by rw [iw_add, t_72]; omega)]
  · rw [hv]
    exact pr_le (fun e2 => pr_s (Or.inl ⟨rfl, e, h1, e2⟩)) (fun e2 => pr_s (Or.inr ⟨by decide, fun q => by omega⟩))
abbrev hdOK (f : Nat → Int32) (a b : Int32) : Prop := 0 ≤ b.toInt ∧ (0 ≤ a.toInt ∧ a.toInt < (f 0).toInt) ∧ b.toInt ≤ (f (72 + a.toInt.toNat)).toInt
def hdA (f : Nat → Int32) (a b : Int32) : Int32 := if hdOK f a b then TMK (f 1) (EL f a.toInt.toNat) 0 b.toInt.toNat else -1
theorem v_head (n : Nat) (σ : ms_T) (hC : rC (ms_E σ 40)) (a b : Int32) : pr (f_X12_head n σ a b) (fun res => res.1 = hdA (ms_E σ 40) a b) := by
  have h4 := hC.1
  unfold f_X12_head hdA
  refine pr_b (v_noSize n σ hC a b) (fun v hv => ?_)
  rcases hv with ⟨rfl, ok⟩ | ⟨hv, no⟩
  · refine v_is0 n σ ?_
    rw [if_pos ok]
    refine pr_b (v_headOf n (ms_sI (ms_sI σ 653 0) 652 0) hC a.toInt.toNat (by omega) a (by omega) b.toInt.toNat b (by omega) ?_) (fun v hv => pr_s hv)
    rw [EL_len]
    show b.toInt.toNat ≤ (ms_E σ 40 (72 + a.toInt.toNat)).toInt.toNat
    omega
  · refine v_is1 n σ v hv (pr_s ?_)
    rw [if_neg no]
theorem k_head (n : Nat) (hn : 70000 ≤ n) (α : hp_T) (x : Nat) (f : Nat → Int32) (hC : rC f) (h : RWX α x f) (a b : Int32) : ws (f_X11_head n α x a b) (fun res => res.1 = hdA f a b) := by
  obtain ⟨w, u, h1, h2, h3, h4, -⟩ := h
  have hm := h4.2.1.1
  have hm0 := hC.2.1
  have bad : ∀ v : Int32, ¬ hdOK f a b → ws (hq_c (f_X11_refuse n α x v) fun r β => some (r, β)) (fun res => res.1 = hdA f a b) := fun v hno => by
    unfold hdA
    rw [if_neg hno]
    exact ws_hc (k_refuse n α x v) (fun z γ hz => ws_s hz.1)
  unfold f_X11_head f_X11_wrongGrowth
  refine ws_l ?_
  rw [h1]
  refine ws_b (k_logAt n h4 hC a) (fun o ho => ?_)
  by_cases hr : 0 ≤ a.toInt ∧ a.toInt < (f 0).toInt
  · rw [if_pos hr] at ho
    subst ho
    have q152 := (h4.2.2.1 a.toInt.toNat (by have := hC.1; omega)).1
    refine ws_hS ?_
    refine ws_b (S := fun v => (v = 0 ∧ hdOK f a b) ∨ (¬ v = 0 ∧ ¬ hdOK f a b)) (ws_hS (ws_lt (fun e => absurd e (by decide)) (fun _ => ws_le (fun e => ws_l ?_) (fun e => ws_s (Or.inr ⟨by decide, fun q => by rw [lt0] at e; have := q.1; omega⟩))))) (fun v hv => ?_)
    · rw [lt0] at e
      rw [q152]
      exact ws_le (fun e2 => ws_s (Or.inl ⟨rfl, e, hr, e2⟩)) (fun e2 => ws_s (Or.inr ⟨by decide, fun q => by have := q.2.2; omega⟩))
    · rcases hv with ⟨rfl, ok⟩ | ⟨hv, no⟩
      · refine ws_i (fun _ => ws_l ?_) (fun q => absurd rfl q)
        refine ws_hc (k_headOf n hn w α (f 1) (by omega) hm (lpA w a.toInt.toNat) (EL f a.toInt.toNat) (WR_LM h4 hC (by omega)) b.toInt.toNat (by rw [EL_len]; have := ok.2.2; omega) b (by have := ok.1; omega)) (fun v β hβ => ws_hc (k_answer n β x v) (fun z γ hz => ws_s ?_))
        unfold hdA
        rw [if_pos ok]
        exact hz.1.trans hβ.1
      · exact ws_i (fun q => absurd q hv) (fun _ => bad v no)
  · rw [if_neg hr] at ho
    subst ho
    refine ws_hN ?_
    refine ws_b (S := fun v => ¬ v = 0) (ws_hN (ws_lt (fun e => absurd e (by decide)) (fun _ => ws_le (fun e => ws_s (by decide)) (fun e => ws_s (by decide))))) (fun v hv => ?_)
    exact ws_i (fun q => absurd q hv) (fun _ => bad v (fun q => hr q.2.1))
