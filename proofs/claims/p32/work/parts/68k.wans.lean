/-! ===== steps, climbs, span, rise, longest: what they answer ===== -/
theorem pr_w {R : Type} {o : Option R} {P : R → Prop} (h : ws o P) : pr o P := by
  obtain ⟨r, e, p⟩ := h
  intro r' e'
  rw [e] at e'
  cases e'
  exact p
theorem k_isThing (n : Nat) (i m : Int32) : ws (f_X11_isThing n i m) (fun r => bo r (0 ≤ i.toInt ∧ i.toInt < m.toInt)) := by
  unfold f_X11_isThing
  exact ws_lt (fun h => ws_s (Or.inr ⟨rfl, by rw [lt0] at h; omega⟩)) (fun h => ws_le (fun g => ws_s (Or.inr ⟨rfl, by omega⟩)) (fun g => ws_s (Or.inl ⟨rfl, by rw [lt0] at h; omega⟩)))
theorem k_answer (n : Nat) (α : hp_T) (a : Nat) (v : Int32) : ws (f_X11_answer n α a v) (fun res => res.1 = v ∧ res.2 = hp_sI α 600 a 0) := by
  unfold f_X11_answer
  exact ws_l (ws_s ⟨rfl, rfl⟩)
theorem k_refuse (n : Nat) (α : hp_T) (a : Nat) (v : Int32) : ws (f_X11_refuse n α a v) (fun res => res.1 = -1 ∧ res.2 = hp_sI α 600 a v) := by
  unfold f_X11_refuse
  exact ws_l (ws_s ⟨rfl, rfl⟩)
theorem v_refuse (n : Nat) (σ : ms_T) (w : Int32) : pr (f_X12_refuse n σ w) (fun res => res.1 = -1) := by
  unfold f_X12_refuse
  exact pr_l (pr_s rfl)
theorem v_isThing (n : Nat) (σ : ms_T) (i m : Int32) : pr (f_X12_isThing n σ i m) (fun r => bo r (0 ≤ i.toInt ∧ i.toInt < m.toInt)) := by
  unfold f_X12_isThing
  exact pr_lt (fun h => pr_s (Or.inr ⟨rfl, by rw [lt0] at h; omega⟩)) (fun h => pr_le (fun g => pr_s (Or.inr ⟨rfl, by omega⟩)) (fun g => pr_s (Or.inl ⟨rfl, by rw [lt0] at h; omega⟩)))
theorem v_isIn (n : Nat) (a b c : Int32) : pr (f_X12_isIn n a b c) (fun r => bo r (b.toInt ≤ a.toInt ∧ a.toInt ≤ c.toInt)) := pr_w (s_isIn n a b c)
section BO
variable {R : Type} {P : Prop} {Q : R → Prop} {a b : Option R}
theorem wk_bo {x : Option Int32} (h : ws x (fun r => bo r P)) (h0 : ¬ P → ws a Q) (h1 : P → ws b Q) : ws (ms_b x fun r => if r = 0 then a else b) Q :=
  ws_b h (fun r hr => ws_e (fun e => h0 (bo_0 hr e)) (fun e => h1 (bo_1 hr e)))
theorem pr_bo {x : Option Int32} (h : pr x (fun r => bo r P)) (h0 : ¬ P → pr a Q) (h1 : P → pr b Q) : pr (ms_b x fun r => if r = 0 then a else b) Q :=
  pr_b h (fun r hr => pr_e (fun e => h0 (bo_0 hr e)) (fun e => h1 (bo_1 hr e)))
end BO
theorem wyH_len (i m : Nat) : (wyH i m).length ≤ 32 := by
  unfold wyH
  split
  · exact Nat.zero_le _
  · exact wyG_len _ _ _ _ _
