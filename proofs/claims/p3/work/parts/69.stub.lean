theorem s_extend (n : Nat) (hn : 70000 ≤ n) (σ : ms_T) (hR : RI σ) (a1 a2 : Int32) : ws (f_X12_extend n σ a1 a2) (fun res => RI res.2 ∧ ms_I res.2 667 = ms_I σ 667) := by
  sorry
