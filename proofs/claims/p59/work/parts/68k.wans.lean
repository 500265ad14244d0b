theorem k_answer (n : Nat) (α : hp_T) (a : Nat) (v : Int32) : ws (f_X11_answer n α a v) (fun res => res.1 = v ∧ res.2 = hp_sI α 600 a 0) := by
  unfold f_X11_answer
  exact ws_l (ws_s ⟨rfl, rfl⟩)
theorem k_refuse (n : Nat) (α : hp_T) (a : Nat) (v : Int32) : ws (f_X11_refuse n α a v) (fun res => res.1 = -1 ∧ res.2 = hp_sI α 600 a v) := by
  unfold f_X11_refuse
  exact ws_l (ws_s ⟨rfl, rfl⟩)
section BO
variable {R : Type} {P : Prop} {Q : R → Prop} {a b : Option R}
end BO
theorem WC_n {α : hp_T} {a : Nat} {l : List (Nat × Nat × Bool)} (h : WC α a l.reverse) : hp_I α 453 a = Int32.ofNat l.length := i_ofN (by rw [h.1, List.length_reverse])
theorem WS_n {σ : ms_T} {l : List (Nat × Nat × Bool)} (h : WS σ l.reverse) : ms_I σ 657 = Int32.ofNat l.length := i_ofN (by rw [h.1, List.length_reverse])
