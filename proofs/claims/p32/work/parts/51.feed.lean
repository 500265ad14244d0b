/-! ===== feed, load, hear: how many bytes are on the tape ===== -/
/-- the class's feed: of the count c before it, the answer r, the count d behind it -/
def fd_C (c r d : Int32) : Prop := (880 < c.toInt ∧ r = -1 ∧ d = c) ∨ (c.toInt ≤ 880 ∧ r = d ∧ d.toInt = c.toInt + 20)
def fd_M (σ : ms_T) (res : Int32 × ms_T) : Prop := fd_C (ms_I σ 667) res.1 (ms_I res.2 667)
def ld_C (c n d : Int32) : Prop := ((n.toInt < 0 ∨ c.toInt < n.toInt) ∧ d = c) ∨ (¬ (n.toInt < 0 ∨ c.toInt < n.toInt) ∧ d = 0)
def ld_M (σ : ms_T) (n : Int32) (τ : ms_T) : Prop := ld_C (ms_I σ 667) n (ms_I τ 667)
