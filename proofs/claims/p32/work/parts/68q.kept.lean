/-! ===== kept: what two ways share ===== -/
def e2 (p q : Nat × Nat × Bool) : Bool := p.1 == q.1 && p.2.1 == q.2.1
def cA (w1 w2 : List (Nat × Nat × Bool)) : Nat := (w1.map (fun p => w2.countP (e2 p))).sum
def kA (w1 w2 : List (Nat × Nat × Bool)) : Nat := w2.countP (fun q => w1.any (fun p => e2 p q))
