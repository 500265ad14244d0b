section JN6_0
/-! ===== feed, load, hear: how many bytes are on the tape ===== -/
/-- the class's feed: of the count c before it, the answer r, the count d behind it -/
def fd_C (c r d : Int32) : Prop := (880 < c.toInt ∧ r = -1 ∧ d = c) ∨ (c.toInt ≤ 880 ∧ r = d ∧ d.toInt = c.toInt + 20)
def fd_M (σ : ms_T) (res : Int32 × ms_T) : Prop := fd_C (ms_I σ 667) res.1 (ms_I res.2 667)
def ld_C (c n d : Int32) : Prop := ((n.toInt < 0 ∨ c.toInt < n.toInt) ∧ d = c) ∨ (¬ (n.toInt < 0 ∨ c.toInt < n.toInt) ∧ d = 0)
def ld_M (σ : ms_T) (n : Int32) (τ : ms_T) : Prop := ld_C (ms_I σ 667) n (ms_I τ 667)
end JN6_0
section JN6_1
/-! ===== the reference's pure functions: they come to something; ranges stay ===== -/
theorem lt0 : (0 : Int32).toInt = 0 := rfl
theorem lt1 : (1 : Int32).toInt = 1 := rfl
theorem c0 : (0 : Int32).toNatClampNeg = 0 := rfl
theorem c1 : (1 : Int32).toNatClampNeg = 1 := rfl
theorem c2 : (2 : Int32).toNatClampNeg = 2 := rfl
theorem c3 : (3 : Int32).toNatClampNeg = 3 := rfl
theorem c4 : (4 : Int32).toNatClampNeg = 4 := rfl
theorem cl_n {i : Int32} {k : Nat} (h : i.toInt = (k : Int)) : i.toNatClampNeg = k := by
  have := ic_clamp (i := i) (by omega)
  omega
/-- what a function may change -/
def fr (wI wE : List Nat) (σ τ : ms_T) : Prop := (∀ φ, φ ∉ wI → ms_I τ φ = ms_I σ φ) ∧ ∀ κ, κ ∉ wE → ∀ j, ms_E τ κ j = ms_E σ κ j
theorem fr_rf {wI wE : List Nat} {σ : ms_T} : fr wI wE σ σ := ⟨fun _ _ => rfl, fun _ _ _ => rfl⟩
theorem fr_tr {wI wE : List Nat} {σ τ υ : ms_T} (h : fr wI wE σ τ) (g : fr wI wE τ υ) : fr wI wE σ υ := ⟨fun φ hφ => (g.1 φ hφ).trans (h.1 φ hφ), fun κ hκ j => (g.2 κ hκ j).trans (h.2 κ hκ j)⟩
theorem fr_sb {vI vE wI wE : List Nat} {σ τ : ms_T} (h : fr vI vE σ τ) (h1 : ∀ x ∈ vI, x ∈ wI) (h2 : ∀ x ∈ vE, x ∈ wE) : fr wI wE σ τ := ⟨fun φ hφ => h.1 φ (fun q => hφ (h1 _ q)), fun κ hκ => h.2 κ (fun q => hκ (h2 _ q))⟩
theorem fr_sI {wI wE : List Nat} {σ : ms_T} {φ : Nat} {v : Int32} (h : φ ∈ wI) : fr wI wE σ (ms_sI σ φ v) := ⟨fun ψ hψ => by rw [mI_sI, if_neg (fun e => hψ (by rw [e]; exact h))], fun _ _ _ => rfl⟩
theorem fr_sE {wI wE : List Nat} {σ : ms_T} {κ j : Nat} {v : Int32} (h : κ ∈ wE) : fr wI wE σ (ms_sE σ κ j v) := ⟨fun _ _ => rfl, fun ψ hψ i => by rw [mE_sE, if_neg (fun e => hψ (by rw [e.1]; exact h))]⟩
theorem fr_sJ {wI wE : List Nat} {σ : ms_T} {v : Int64} : fr wI wE σ (ms_sJ σ v) := ⟨fun _ _ => rfl, fun _ _ _ => rfl⟩
/-- of what does not touch the cells, nor what stays between calls -/
def fk (wI wE : List Nat) : Bool := !(wI.contains 664) && !(wI.contains 667) && !(wI.contains 682) && !(wI.contains 697) && !(wE.contains 40)
theorem RI_fr {wI wE : List Nat} {σ τ : ms_T} (h : RI σ) (f : fr wI wE σ τ) (k : fk wI wE = true) : RI τ := by
  simp only [fk, Bool.and_eq_true] at k
  obtain ⟨⟨⟨⟨k1, k2⟩, k3⟩, k4⟩, k5⟩ := k
  have e1 := f.1 664 (by simpa using k1)
  have e2 := f.1 667 (by simpa using k2)
  have e3 := f.1 682 (by simpa using k3)
  have e4 := f.1 697 (by simpa using k4)
  have e5 : ms_E τ 40 = ms_E σ 40 := funext (f.2 40 (by simpa using k5))
  unfold RI rI
  rw [e1, e2, e3, e4, e5]
  exact h
theorem rC_fr {wI wE : List Nat} {σ τ : ms_T} (h : rC (ms_E σ 40)) (f : fr wI wE σ τ) (k : 40 ∉ wE) : rC (ms_E τ 40) := by
  rw [show ms_E τ 40 = ms_E σ 40 from funext (f.2 40 k)]
  exact h
/-- a thing that is 1 where something holds and 0 where not -/
def bo (r : Int32) (P : Prop) : Prop := (r = 1 ∧ P) ∨ (r = 0 ∧ ¬ P)
theorem s_isIn (n : Nat) (a b c : Int32) : ws (f_X12_isIn n a b c) (fun r => bo r (b.toInt ≤ a.toInt ∧ a.toInt ≤ c.toInt)) := by
  unfold f_X12_isIn
  refine ws_lt (fun h => ws_s (Or.inr ⟨rfl, by omega⟩)) (fun h => ws_lt (fun g => ws_s (Or.inr ⟨rfl, by omega⟩)) (fun g => ws_s (Or.inl ⟨rfl, by omega⟩)))
theorem bo_z {r : Int32} {P : Prop} (h : bo r P) : r = 0 ∨ r = 1 := by
  rcases h with h | h
  · exact Or.inr h.1
  · exact Or.inl h.1
theorem bo_0 {r : Int32} {P : Prop} (h : bo r P) (e : r = 0) : ¬ P := by
  rcases h with h | h
  · rw [h.1] at e; exact absurd e (by decide)
  · exact h.2
theorem bo_1 {r : Int32} {P : Prop} (h : bo r P) (e : ¬ r.toInt = (0 : Int32).toInt) : P := by
  rcases h with h | h
  · exact h.2
  · exact absurd (by rw [h.1]) e
section P1
variable {n : Nat} {σ : ms_T}
theorem s_isRecord (hC : rC (ms_E σ 40)) (a : Int32) : ws (f_X12_isRecord n σ a) (fun r => bo r (0 ≤ a.toInt ∧ a.toInt < (ms_E σ 40 0).toInt)) := by
  unfold f_X12_isRecord
  rw [c0]
  have h1 := hC.1
  have e : (ms_E σ 40 0 - 1).toInt = (ms_E σ 40 0).toInt - 1 := by rw [ii_sub (by rw [lt1]; omega) (by rw [lt1]; omega), lt1]
  refine ws_g (by decide) (by decide) (ws_b (s_isIn n _ _ _) (fun r hr => ws_z (bo_z hr) (ws_s ?_)))
  rw [lt0, e] at hr
  rcases hr with h | h
  · exact Or.inl ⟨h.1, by omega⟩
  · exact Or.inr ⟨h.1, by omega⟩
theorem s_sizeOf (hC : rC (ms_E σ 40)) (a : Int32) (h0 : 0 ≤ a.toInt) (h1 : a.toInt ≤ 3) : ws (f_X12_sizeOf n σ a) (fun r => r = ms_E σ 40 (72 + a.toInt.toNat) ∧ 0 ≤ r.toInt ∧ r.toInt ≤ 48) := by
  unfold f_X12_sizeOf
  have l72 : (72 : Int32).toInt = 72 := by decide
  have e : ((72 : Int32) + a).toInt = 72 + a.toInt := by rw [ii_add (by omega) (by omega), l72]
  have ec : ((72 : Int32) + a).toNatClampNeg = 72 + a.toInt.toNat := cl_n (by omega)
  have hr := hC.2.2.2.2.1 a.toInt.toNat (by omega)
  refine ws_g (by omega) (by omega) (ws_s ?_)
  rw [ec]
  exact ⟨rfl, hr.1, hr.2⟩
theorem s_isMark (hC : rC (ms_E σ 40)) (a : Int32) : ws (f_X12_isMark n σ a) (fun r => bo r (0 ≤ a.toInt ∧ a.toInt < (ms_E σ 40 1).toInt)) := by
  unfold f_X12_isMark
  rw [c1]
  have h1 := hC.2.1
  have e : (ms_E σ 40 1 - 1).toInt = (ms_E σ 40 1).toInt - 1 := by rw [ii_sub (by rw [lt1]; omega) (by rw [lt1]; omega), lt1]
  refine ws_g (by decide) (by decide) (ws_b (s_isIn n _ _ _) (fun r hr => ws_z (bo_z hr) (ws_s ?_)))
  rw [lt0, e] at hr
  rcases hr with h | h
  · exact Or.inl ⟨h.1, by omega⟩
  · exact Or.inr ⟨h.1, by omega⟩
theorem s_mixed (hC : rC (ms_E σ 40)) (a b : Int32) : ws (f_X12_mixed n σ a b) (fun _ => True) := by
  unfold f_X12_mixed
  rw [c1]
  have h1 := hC.2.1
  exact ws_g (by decide) (by decide) (ws_nl (li_nz rfl (by omega)) (ws_s trivial))
theorem s_both (hC : rC (ms_E σ 40)) (a b : Int32) : ws (f_X12_both n σ a b) (fun _ => True) := by
  unfold f_X12_both
  exact ws_b (s_mixed hC _ _) (fun _ _ => ws_b (s_mixed hC _ _) (fun _ _ => ws_s trivial))
theorem s_entryMark_L (hC : rC (ms_E σ 40)) : ∀ (k : Nat) (h q v : Int32), 0 ≤ q.toInt → q.toInt ≤ 191 → 0 ≤ v.toInt → 9 - v.toInt ≤ (k : Int) → v.toInt ≤ 8 → ws (f_X12_entryMark_L13 n σ k h q v) (fun _ => True) := by
  intro k
  induction k with
  | zero => intro h q v h0 h1 h2 h3 h4; omega
  | succ k ih =>
    intro h q v h0 h1 h2 h3 h4
    rw [f_X12_entryMark_L13.eq_2]
    have l252 : (252 : Int32).toInt = 252 := by decide
    have l444 : (444 : Int32).toInt = 444 := by decide
    have l8 : (8 : Int32).toInt = 8 := by decide
    have e1 : ((252 : Int32) + q).toInt = 252 + q.toInt := by rw [ii_add (by omega) (by omega), l252]
    have e2 : ((8 : Int32) * q).toInt = 8 * q.toInt := by rw [ii_mul (by rw [l8]; omega) (by rw [l8]; omega), l8]
    have e3 : ((444 : Int32) + 8 * q).toInt = 444 + 8 * q.toInt := by rw [ii_add (by omega) (by omega), l444, e2]
    have e4 : ((444 : Int32) + 8 * q + v).toInt = 444 + 8 * q.toInt + v.toInt := by rw [ii_add (by omega) (by omega), e3]
    have e5 : (v + 1).toInt = v.toInt + 1 := by rw [ii_add (by rw [lt1]; omega) (by rw [lt1]; omega), lt1]
    have hr := hC.2.2.2.2.2.2.2.2 q.toInt.toNat (by omega)
    have ec : ((252 : Int32) + q).toNatClampNeg = 252 + q.toInt.toNat := cl_n (by omega)
    refine ws_g (by omega) (by omega) ?_
    rw [ec]
    refine ws_le (fun c => ws_s trivial) (fun c => ?_)
    refine ws_g (by omega) (by omega) (ws_b (s_mixed hC _ _) (fun r _ => ws_l ?_))
    exact ih r q (v + 1) h0 h1 (by omega) (by omega) (by omega)
theorem s_entryMark (hn : 70000 ≤ n) (hC : rC (ms_E σ 40)) (r i : Int32) (h0 : 0 ≤ r.toInt) (h1 : r.toInt ≤ 3) (h2 : 0 ≤ i.toInt) (h3 : i.toInt ≤ 47) : ws (f_X12_entryMark n σ r i) (fun _ => True) := by
  unfold f_X12_entryMark
  have l48 : (48 : Int32).toInt = 48 := by decide
  have e1 : ((48 : Int32) * r).toInt = 48 * r.toInt := by rw [ii_mul (by rw [l48]; omega) (by rw [l48]; omega), l48]
  have e2 : ((48 : Int32) * r + i).toInt = 48 * r.toInt + i.toInt := by rw [ii_add (by omega) (by omega), e1]
  exact ws_l (s_entryMark_L hC n _ _ _ (by omega) (by omega) (by decide) (by rw [lt0]; omega) (by decide))
end P1
/-- a power of 2 -/
def p2 (j : Nat) : Int := ((2 ^ j : Nat) : Int)
theorem p2_s (j : Nat) : p2 (j + 1) = 2 * p2 j := by unfold p2; rw [Nat.pow_succ]; omega
theorem p2_p (j : Nat) : 1 ≤ p2 j := by
  have := Nat.one_le_two_pow (n := j)
  unfold p2; omega
theorem p2_m {i j : Nat} (h : i ≤ j) : p2 i ≤ p2 j := by
  have := Nat.pow_le_pow_right (n := 2) (by decide) h
  unfold p2; omega
theorem p2_31 : p2 31 = 2147483648 := by decide
theorem p2_lt {i j : Nat} (h : p2 i < p2 j) : i < j := by
  rcases Nat.lt_or_ge i j with q | q
  · exact q
  · have := p2_m q; omega
/-- the greatest power of 2 that is less -/
def pt (a p : Int32) (j : Nat) : Prop := p.toInt = p2 j ∧ p2 j < a.toInt ∧ a.toInt ≤ p2 (j + 1)
theorem s_part0_L (n : Nat) : ∀ (k : Nat) (a v : Int32) (j : Nat), 2 ≤ a.toInt → v.toInt = p2 j → p2 j < a.toInt → 32 - (j : Int) ≤ (k : Int) → ws (f_X12_part0_L2 n k a v) (fun p => ∃ i, pt a p i) := by
  intro k
  induction k with
  | zero =>
    intro a v j h0 h1 h2 h3
    have := p2_m (show 31 ≤ j by omega)
    have := p2_31
    have := ib_hi a
    omega
  | succ k ih =>
    intro a v j h0 h1 h2 h3
    rw [f_X12_part0_L2.eq_2]
    have b1 := ib_hi a
    have b2 := p2_p j
    have e1 : (a - v).toInt = a.toInt - v.toInt := ii_sub (by omega) (by omega)
    refine ws_le (fun c => ws_s ⟨j, h1, h2, ?_⟩) (fun c => ws_l ?_)
    · rw [p2_s]; omega
    · have e2 : (v + v).toInt = v.toInt + v.toInt := ii_add (by omega) (by omega)
      exact ih a (v + v) (j + 1) h0 (by rw [p2_s]; omega) (by rw [p2_s]; omega) (by omega)
theorem s_part0 (n : Nat) (hn : 70000 ≤ n) (a : Int32) (h : 2 ≤ a.toInt) : ws (f_X12_part0 n a) (fun p => ∃ i, pt a p i) := by
  unfold f_X12_part0
  exact s_part0_L n n a 1 0 h (by decide) (by have h00 : p2 0 = 1 := (by decide); omega) (by omega)
/-- of a tree of at most 2^(k+1) things the parts have at most 2^k -/
theorem pt_k {a p : Int32} {i k : Nat} (h : pt a p i) (hk : a.toInt ≤ p2 (k + 1)) : p.toInt ≤ p2 k ∧ a.toInt - p.toInt ≤ p2 k ∧ 1 ≤ p.toInt ∧ 1 ≤ a.toInt - p.toInt ∧ a.toInt - p.toInt ≤ p.toInt := by
  obtain ⟨h1, h2, h3⟩ := h
  have hi : i < k + 1 := p2_lt (by omega)
  have := p2_m (show i ≤ k by omega)
  have := p2_p i
  rw [p2_s] at h3
  omega
theorem ne1_2 {a : Int32} (h0 : 1 ≤ a.toInt) (h1 : ¬ a.toInt = (1 : Int32).toInt) : 2 ≤ a.toInt := by rw [lt1] at h1; omega
theorem s_treeMark (n : Nat) (hn : 70000 ≤ n) {σ : ms_T} (hC : rC (ms_E σ 40)) : ∀ (k d : Nat) (r f m : Int32), k < d → 0 ≤ r.toInt → r.toInt ≤ 3 → 0 ≤ f.toInt → 0 ≤ m.toInt → f.toInt + m.toInt ≤ 48 → m.toInt ≤ p2 k → ws (f_X12_treeMark n d σ r f m) (fun _ => True) := by
  intro k
  induction k with
  | zero =>
    intro d r f m hd h0 h1 h2 h3 h4 h5
    have : p2 0 = 1 := by decide
    obtain ⟨d, rfl⟩ : ∃ d', d = d' + 1 := ⟨d - 1, by omega⟩
    rw [f_X12_treeMark.eq_2]
    refine ws_e (fun c => ws_s trivial) (fun c => ws_e (fun g => ?_) (fun g => ?_))
    · have gm := il_eq g
      rw [lt1] at gm
      exact ws_b (s_entryMark hn hC _ _ h0 h1 h2 (by omega)) (fun _ _ => ws_s trivial)
    · rw [lt0] at c; rw [lt1] at g; omega
  | succ k ih =>
    intro d r f m hd h0 h1 h2 h3 h4 h5
    obtain ⟨d, rfl⟩ : ∃ d', d = d' + 1 := ⟨d - 1, by omega⟩
    rw [f_X12_treeMark.eq_2]
    refine ws_e (fun c => ws_s trivial) (fun c => ws_e (fun g => ?_) (fun g => ?_))
    · have gm := il_eq g
      rw [lt1] at gm
      exact ws_b (s_entryMark hn hC _ _ h0 h1 h2 (by omega)) (fun _ _ => ws_s trivial)
    · rw [lt0] at c
      have h2m := ne1_2 (a := m) (by omega) g
      refine ws_b (s_part0 n hn m h2m) (fun p hp => ?_)
      obtain ⟨i, hp⟩ := hp
      obtain ⟨q1, q2, q3, q4, q5⟩ := pt_k hp h5
      have e1 : (f + p).toInt = f.toInt + p.toInt := ii_add (by omega) (by omega)
      have e2 : (m - p).toInt = m.toInt - p.toInt := ii_sub (by omega) (by omega)
      refine ws_b (ih d r f p (by omega) h0 h1 h2 (by omega) (by omega) q1) (fun _ _ => ws_b (ih d r (f + p) (m - p) (by omega) h0 h1 (by omega) (by omega) (by omega) (by omega)) (fun _ _ => ws_b (s_both hC _ _) (fun _ _ => ws_s trivial)))
theorem s_tree0 (n : Nat) (hn : 70000 ≤ n) {σ : ms_T} (hC : rC (ms_E σ 40)) (r f m : Int32) (h0 : 0 ≤ r.toInt) (h1 : r.toInt ≤ 3) (h2 : 0 ≤ f.toInt) (h3 : 0 ≤ m.toInt) (h4 : f.toInt + m.toInt ≤ 48) : ws (f_X12_treeMark n 40 σ r f m) (fun _ => True) :=
  s_treeMark n hn hC 6 40 r f m (by omega) h0 h1 h2 h3 h4 (by have h06 : p2 6 = 64 := (by decide); omega)
theorem s_headOf (n : Nat) (hn : 70000 ≤ n) {σ : ms_T} (hC : rC (ms_E σ 40)) (r m : Int32) (h0 : 0 ≤ r.toInt) (h1 : r.toInt ≤ 3) (h3 : 0 ≤ m.toInt) (h4 : m.toInt ≤ 48) : ws (f_X12_headOf n σ r m) (fun _ => True) := by
  unfold f_X12_headOf
  exact ws_b (s_tree0 n hn hC r 0 m h0 h1 (by decide) h3 (by rw [lt0]; omega)) (fun _ _ => ws_s trivial)
/-! ways -/
def wg (B : Int) (σ : ms_T) (w : Nat) : Prop := ∀ q, q < w → 0 ≤ (ms_E σ 42 q).toInt ∧ 0 ≤ (ms_E σ 43 q).toInt ∧ (ms_E σ 42 q).toInt + (ms_E σ 43 q).toInt ≤ B
/-- a way of w trees within B things -/
def wy (B : Int) (σ τ : ms_T) (w : Nat) : Prop := fr [657] [42, 43] σ τ ∧ (ms_I τ 657).toInt = (w : Int) ∧ wg B τ w
theorem s_asks (n : Nat) {B : Int} {σ σ0 : ms_T} {w : Nat} (h : wy B σ0 σ w) (hw : w < 128) (a b : Int32) (h0 : 0 ≤ a.toInt) (h1 : 0 ≤ b.toInt) (h2 : a.toInt + b.toInt ≤ B) : ws (f_X12_asks n σ a b) (fun τ => wy B σ0 τ (w + 1)) := by
  obtain ⟨hf, hi, hg⟩ := h
  unfold f_X12_asks
  have ec : (ms_I σ 657).toNatClampNeg = w := cl_n hi
  have e1 : (ms_I σ 657 + 1).toInt = (w : Int) + 1 := by rw [ii_add (by rw [lt1]; omega) (by rw [lt1]; omega), lt1, hi]
  refine ws_g (by omega) (by omega) (ws_l (ws_g (by rw [mI_sE]; omega) (by rw [mI_sE]; omega) (ws_l (ws_l (ws_s ?_)))))
  refine ⟨fr_tr hf (fr_tr (fr_sE (by decide)) (fr_tr (fr_sE (by decide)) (fr_sI (by decide)))), ?_, fun q hq => ?_⟩
  · rw [mI_sI, if_pos rfl, mI_sE, mI_sE, e1]; omega
  · rw [mE_sI, mE_sI, mI_sE, ec, mE_sE, mE_sE, mE_sE, mE_sE]
    by_cases e : q = w
    · subst e
      rw [if_neg (fun x => absurd x.1 (by decide)), if_pos ⟨rfl, rfl⟩, if_pos ⟨rfl, rfl⟩]
      exact ⟨h0, h1, h2⟩
    · rw [if_neg (fun x => absurd x.1 (by decide)), if_neg (fun x => e x.2), if_neg (fun x => e x.2), if_neg (fun x => absurd x.1 (by decide))]
      exact hg q (by omega)
theorem s_waysIn (n : Nat) (hn : 70000 ≤ n) {B : Int} (hB : B ≤ 2147483647) : ∀ (k d w : Nat) (σ0 σ : ms_T) (f i m : Int32), k < d → wy B σ0 σ w → w + k ≤ 128 → 0 ≤ f.toInt → 0 ≤ i.toInt → i.toInt < m.toInt → f.toInt + m.toInt ≤ B → m.toInt ≤ p2 k → ws (f_X12_waysIn n d σ f i m) (fun τ => ∃ w', wy B σ0 τ w' ∧ w' ≤ w + k) := by
  intro k
  induction k with
  | zero =>
    intro d w σ0 σ f i m hd hw hk h0 h1 h2 h3 h4
    have : p2 0 = 1 := by decide
    obtain ⟨d, rfl⟩ : ∃ d', d = d' + 1 := ⟨d - 1, by omega⟩
    rw [f_X12_waysIn.eq_2]
    refine ws_e (fun c => ws_s ⟨w, hw, by omega⟩) (fun c => ?_)
    rw [lt1] at c
    omega
  | succ k ih =>
    intro d w σ0 σ f i m hd hw hk h0 h1 h2 h3 h4
    obtain ⟨d, rfl⟩ : ∃ d', d = d' + 1 := ⟨d - 1, by omega⟩
    rw [f_X12_waysIn.eq_2]
    refine ws_e (fun c => ws_s ⟨w, hw, by omega⟩) (fun c => ?_)
    have h2m := ne1_2 (a := m) (by omega) c
    refine ws_b (s_part0 n hn m h2m) (fun p hp => ?_)
    obtain ⟨j, hp⟩ := hp
    obtain ⟨q1, q2, q3, q4, q5⟩ := pt_k hp h4
    have e1 : (f + p).toInt = f.toInt + p.toInt := ii_add (by omega) (by omega)
    have e2 : (m - p).toInt = m.toInt - p.toInt := ii_sub (by omega) (by omega)
    refine ws_le (fun c => ?_) (fun c => ?_)
    · have e3 : (i - p).toInt = i.toInt - p.toInt := ii_sub (by omega) (by omega)
      refine ws_b (ih d w σ0 σ (f + p) (i - p) (m - p) (by omega) hw (by omega) (by omega) (by omega) (by omega) (by omega) (by omega)) (fun τ hτ => ?_)
      obtain ⟨w', hw', hl⟩ := hτ
      exact ws_b (s_asks n hw' (by omega) f p h0 (by omega) (by omega)) (fun υ hυ => ws_s ⟨w' + 1, hυ, by omega⟩)
    · refine ws_b (ih d w σ0 σ f i p (by omega) hw (by omega) h0 h1 c (by omega) q1) (fun τ hτ => ?_)
      obtain ⟨w', hw', hl⟩ := hτ
      exact ws_b (s_asks n hw' (by omega) (f + p) (m - p) (by omega) (by omega) (by omega)) (fun υ hυ => ws_s ⟨w' + 1, hυ, by omega⟩)
theorem wy_0 {B : Int} {σ : ms_T} : wy B σ (ms_sI σ 657 0) 0 := ⟨fr_sI (by decide), by rw [mI_sI, if_pos rfl]; rfl, fun q h => absurd h (Nat.not_lt_zero q)⟩
theorem s_inclusion (n : Nat) (hn : 70000 ≤ n) (σ : ms_T) (i m : Int32) (h0 : 0 ≤ i.toInt) (h1 : i.toInt < m.toInt) : ws (f_X12_inclusion n σ i m) (fun τ => ∃ w, wy m.toInt σ τ w ∧ w ≤ 31) := by
  unfold f_X12_inclusion
  have b := ib_hi m
  refine ws_l (ws_b (s_waysIn n hn b 31 40 0 σ _ 0 i m (by omega) wy_0 (by omega) (by decide) h0 h1 (by rw [lt0]; omega) (by rw [p2_31]; omega)) (fun τ hτ => ?_))
  obtain ⟨w, hw, hl⟩ := hτ
  exact ws_s ⟨w, hw, by omega⟩
theorem s_growsIn (n : Nat) (hn : 70000 ≤ n) {B : Int} (hB : B ≤ 2147483647) : ∀ (k d w : Nat) (σ0 σ : ms_T) (f i m z : Int32), k < d → wy B σ0 σ w → w + k + 1 ≤ 128 → 0 ≤ f.toInt → 1 ≤ i.toInt → i.toInt ≤ m.toInt → f.toInt + m.toInt ≤ B → m.toInt ≤ p2 k → ws (f_X12_growsIn n d σ f i m z) (fun τ => ∃ w', wy B σ0 τ w' ∧ w' ≤ w + k + 1) := by
  intro k
  induction k with
  | zero =>
    intro d w σ0 σ f i m z hd hw hk h0 h1 h2 h3 h4
    have : p2 0 = 1 := by decide
    obtain ⟨d, rfl⟩ : ∃ d', d = d' + 1 := ⟨d - 1, by omega⟩
    rw [f_X12_growsIn.eq_2]
    refine ws_e (fun c => ws_e (fun g => ?_) (fun g => ws_s ⟨w, hw, by omega⟩)) (fun c => ?_)
    · exact ws_b (s_asks n hw (by omega) f m h0 (by omega) (by omega)) (fun υ hυ => ws_s ⟨w + 1, hυ, by omega⟩)
    · omega
  | succ k ih =>
    intro d w σ0 σ f i m z hd hw hk h0 h1 h2 h3 h4
    obtain ⟨d, rfl⟩ : ∃ d', d = d' + 1 := ⟨d - 1, by omega⟩
    rw [f_X12_growsIn.eq_2]
    refine ws_e (fun c => ws_e (fun g => ?_) (fun g => ws_s ⟨w, hw, by omega⟩)) (fun c => ?_)
    · exact ws_b (s_asks n hw (by omega) f m h0 (by omega) (by omega)) (fun υ hυ => ws_s ⟨w + 1, hυ, by omega⟩)
    · refine ws_b (s_part0 n hn m (by omega)) (fun p hp => ?_)
      obtain ⟨j, hp⟩ := hp
      obtain ⟨q1, q2, q3, q4, q5⟩ := pt_k hp h4
      have e1 : (f + p).toInt = f.toInt + p.toInt := ii_add (by omega) (by omega)
      have e2 : (m - p).toInt = m.toInt - p.toInt := ii_sub (by omega) (by omega)
      refine ws_lt (fun c => ?_) (fun c => ?_)
      · have e3 : (i - p).toInt = i.toInt - p.toInt := ii_sub (by omega) (by omega)
        refine ws_b (ih d w σ0 σ (f + p) (i - p) (m - p) 0 (by omega) hw (by omega) (by omega) (by omega) (by omega) (by omega) (by omega)) (fun τ hτ => ?_)
        obtain ⟨w', hw', hl⟩ := hτ
        exact ws_b (s_asks n hw' (by omega) f p h0 (by omega) (by omega)) (fun υ hυ => ws_s ⟨w' + 1, hυ, by omega⟩)
      · refine ws_b (ih d w σ0 σ f i p z (by omega) hw (by omega) h0 h1 (by omega) (by omega) q1) (fun τ hτ => ?_)
        obtain ⟨w', hw', hl⟩ := hτ
        exact ws_b (s_asks n hw' (by omega) (f + p) (m - p) (by omega) (by omega) (by omega)) (fun υ hυ => ws_s ⟨w' + 1, hυ, by omega⟩)
theorem s_growth0 (n : Nat) (hn : 70000 ≤ n) (σ : ms_T) (i m : Int32) : ws (f_X12_growth n σ i m) (fun τ => ∃ w, wy m.toInt σ τ w ∧ w ≤ 32) := by
  unfold f_X12_growth
  have b := ib_hi m
  refine ws_l (ws_le (fun c => ws_s ⟨0, wy_0, by omega⟩) (fun c => ws_le (fun g => ws_s ⟨0, wy_0, by omega⟩) (fun g => ?_)))
  rw [lt0] at c
  refine ws_b (s_growsIn n hn b 31 40 0 σ _ 0 i m 1 (by omega) wy_0 (by omega) (by decide) (by omega) (by omega) (by rw [lt0]; omega) (by rw [p2_31]; omega)) (fun τ hτ => ?_)
  obtain ⟨w, hw, hl⟩ := hτ
  exact ws_s ⟨w, hw, by omega⟩
end JN6_1
section JN6_2
/-! ===== more of the reference's inner functions ===== -/
theorem s_is (n : Nat) (σ : ms_T) (a : Int32) : ws (f_X12_is n σ a) (fun q => fr [652, 653] [] σ q.2 ∧ bo q.1 (a = 0)) := by
  unfold f_X12_is
  refine ws_l (ws_l (ws_i (fun h => ws_s ⟨fr_tr (fr_sI (by decide)) (fr_sI (by decide)), Or.inl ⟨rfl, h⟩⟩) (fun h => ws_s ⟨fr_tr (fr_sI (by decide)) (fr_sI (by decide)), Or.inr ⟨rfl, h⟩⟩)))
theorem s_refuse (n : Nat) (σ : ms_T) (a : Int32) : ws (f_X12_refuse n σ a) (fun q => fr [652, 653] [] σ q.2 ∧ q.1 = -1) := by
  unfold f_X12_refuse
  exact ws_l (ws_s ⟨fr_sI (by decide), rfl⟩)
/-- a call that refuses, or goes on -/
theorem ws_is {n : Nat} {σ : ms_T} {w : Int32} {k : ms_T → Option (Int32 × ms_T)} {P : Int32 × ms_T → Prop} (h0 : ∀ τ, fr [652, 653] [] σ τ → P (-1, τ)) (h1 : w = 0 → ∀ τ, fr [652, 653] [] σ τ → ws (k τ) P) : ws (ms_c (f_X12_is n σ w) fun r τ => if r = 0 then some ((-1 : Int32), τ) else k τ) P :=
  ws_c (s_is n σ w) (fun r τ hr => ws_i (fun _ => ws_s (h0 τ hr.1)) (fun e => h1 (bo_1 hr.2 (fun q => e (Int32.toInt_inj.mp q))) τ hr.1))
def PK (σ : ms_T) (res : Int32 × ms_T) : Prop := RI res.2 ∧ ms_I res.2 667 = ms_I σ 667
theorem pk {wI wE : List Nat} {σ τ : ms_T} (h : RI σ) (f : fr wI wE σ τ) (k : fk wI wE = true) (r : Int32) : PK σ (r, τ) := by
  refine ⟨RI_fr h f k, f.1 667 ?_⟩
  simp only [fk, Bool.and_eq_true] at k
  simpa using k.1.1.1.2
theorem pk_is {σ τ : ms_T} (h : RI σ) (f : fr [652, 653] [] σ τ) (r : Int32) : PK σ (r, τ) := pk h f (by decide) r
theorem pk_tr {σ σ1 : ms_T} {res : Int32 × ms_T} (h : ms_I σ1 667 = ms_I σ 667) (g : PK σ1 res) : PK σ res := ⟨g.1, g.2.trans h⟩
/-- behind is(): the same cells, the same counts -/
theorem is_R {σ τ : ms_T} (h : RI σ) (f : fr [652, 653] [] σ τ) : RI τ ∧ ms_I τ 667 = ms_I σ 667 ∧ ms_E τ = ms_E σ := ⟨RI_fr h f (by decide), f.1 667 (by decide), funext fun κ => funext fun j => f.2 κ (by simp) j⟩
theorem s_hasAny_L (n : Nat) : ∀ (k : Nat) (s f m v : Int32), 0 ≤ v.toInt → v.toInt ≤ 30 → 31 - v.toInt ≤ (k : Int) → ws (f_X12_hasAny_L2 n k s f m v) (fun r => (r = 0 ∨ r = 1) ∧ (30 ≤ f.toInt → r = 0) ∧ (f = 0 → m.toInt ≤ 0 → r = 0)) := by
  intro k
  induction k with
  | zero => intro s f m v h0 h1 h2; omega
  | succ k ih =>
    intro s f m v h0 h1 h2
    have l30 : (30 : Int32).toInt = 30 := by decide
    have e1 : (v + 1).toInt = v.toInt + 1 := by rw [ii_add (by rw [lt1]; omega) (by rw [lt1]; omega), lt1]
    rw [f_X12_hasAny_L2.eq_2]
    refine ws_le (fun c => ws_s ⟨Or.inl rfl, fun _ => rfl, fun _ _ => rfl⟩) (fun c => ?_)
    have hJ : ws (f_X12_hasAny_J31 n (f_X12_hasAny_L2 n k) s f m v) (fun r => (r = 0 ∨ r = 1) ∧ (30 ≤ f.toInt → r = 0) ∧ (f = 0 → m.toInt ≤ 0 → r = 0)) := by
      unfold f_X12_hasAny_J31
      exact ws_l (ih s f m (v + 1) (by omega) (by omega) (by omega))
    refine ws_i (fun _ => ws_lt (fun _ => hJ) (fun d => ws_le (fun _ => hJ) (fun g => ws_s ⟨Or.inr rfl, fun q => by omega, fun q1 q2 => ?_⟩))) (fun _ => hJ)
    rw [q1, show v - 0 = v by simp] at g
    omega
theorem s_hasAny (n : Nat) (hn : 70000 ≤ n) (s f m : Int32) : ws (f_X12_hasAny n s f m) (fun r => (r = 0 ∨ r = 1) ∧ (30 ≤ f.toInt → r = 0) ∧ (f = 0 → m.toInt ≤ 0 → r = 0)) := by
  unfold f_X12_hasAny
  exact s_hasAny_L n n s f m 0 (by decide) (by decide) (by rw [lt0]; omega)
theorem s_bundlesA (n : Nat) (hn : 70000 ≤ n) {B : Int} (hB : B ≤ 2147483647) : ∀ (k d w : Nat) (σ0 σ : ms_T) (s f m : Int32), k < d → wy B σ0 σ w → (w : Int) + m.toInt ≤ 127 → 0 ≤ f.toInt → 1 ≤ m.toInt → f.toInt + m.toInt ≤ B → m.toInt ≤ p2 k → ws (f_X12_bundlesIn n d σ s f m) (fun τ => ∃ w', wy B σ0 τ w' ∧ (w' : Int) ≤ w + m.toInt) := by
  intro k
  induction k with
  | zero =>
    intro d w σ0 σ s f m hd hw hk h0 h1 h2 h3
    have : p2 0 = 1 := by decide
    obtain ⟨d, rfl⟩ : ∃ d', d = d' + 1 := ⟨d - 1, by omega⟩
    rw [f_X12_bundlesIn.eq_2]
    refine ws_b (s_hasAny n hn s f m) (fun r hr => ws_i (fun _ => ?_) (fun _ => ws_e (fun _ => ws_s ⟨w, hw, by omega⟩) (fun c => ?_)))
    · exact ws_b (s_asks n hw (by omega) f m h0 (by omega) (by omega)) (fun υ hυ => ws_s ⟨w + 1, hυ, by omega⟩)
    · rw [lt1] at c; omega
  | succ k ih =>
    intro d w σ0 σ s f m hd hw hk h0 h1 h2 h3
    obtain ⟨d, rfl⟩ : ∃ d', d = d' + 1 := ⟨d - 1, by omega⟩
    rw [f_X12_bundlesIn.eq_2]
    refine ws_b (s_hasAny n hn s f m) (fun r hr => ws_i (fun _ => ?_) (fun _ => ws_e (fun _ => ws_s ⟨w, hw, by omega⟩) (fun c => ?_)))
    · exact ws_b (s_asks n hw (by omega) f m h0 (by omega) (by omega)) (fun υ hυ => ws_s ⟨w + 1, hυ, by omega⟩)
    · have h2m := ne1_2 (a := m) h1 c
      refine ws_b (s_part0 n hn m h2m) (fun p hp => ?_)
      obtain ⟨j, hp⟩ := hp
      obtain ⟨q1, q2, q3, q4, q5⟩ := pt_k hp h3
      have e1 : (f + p).toInt = f.toInt + p.toInt := ii_add (by omega) (by omega)
      have e2 : (m - p).toInt = m.toInt - p.toInt := ii_sub (by omega) (by omega)
      refine ws_b (ih d w σ0 σ s f p (by omega) hw (by omega) h0 q3 (by omega) q1) (fun τ hτ => ?_)
      obtain ⟨w', hw', hl⟩ := hτ
      refine ws_b (ih d w' σ0 τ s (f + p) (m - p) (by omega) hw' (by omega) (by omega) (by omega) (by omega) (by omega)) (fun υ hυ => ?_)
      obtain ⟨w2, hw2, hl2⟩ := hυ
      exact ws_s ⟨w2, hw2, by omega⟩
theorem s_bundlesB (n : Nat) (hn : 70000 ≤ n) {B : Int} (hB : B ≤ 2147483647) : ∀ (k d : Nat) (σ0 σ : ms_T) (s m : Int32), k + 6 < d → wy B σ0 σ 0 → 1 ≤ m.toInt → m.toInt ≤ B → m.toInt ≤ p2 (k + 5) → k ≤ 26 → ws (f_X12_bundlesIn n d σ s 0 m) (fun τ => ∃ w', wy B σ0 τ w' ∧ w' ≤ 32 + k) := by
  intro k
  induction k with
  | zero =>
    intro d σ0 σ s m hd hw h1 h2 h3 hk
    have : p2 5 = 32 := by decide
    have h3' : m.toInt ≤ p2 5 := h3
    refine ws_m (s_bundlesA n hn hB 5 d 0 σ0 σ s 0 m (by omega) hw (by omega) (by decide) h1 (by rw [lt0]; omega) h3) (fun τ hτ => ?_)
    obtain ⟨w, hw, hl⟩ := hτ
    exact ⟨w, hw, by omega⟩
  | succ k ih =>
    intro d σ0 σ s m hd hw h1 h2 h3 hk
    by_cases hm : m.toInt ≤ p2 (k + 5)
    · refine ws_m (ih d σ0 σ s m (by omega) hw h1 h2 hm (by omega)) (fun τ hτ => ?_)
      obtain ⟨w, hw, hl⟩ := hτ
      exact ⟨w, hw, by omega⟩
    have h32 : p2 5 = 32 := by decide
    have hk5 := p2_m (show 5 ≤ k + 5 by omega)
    obtain ⟨d, rfl⟩ : ∃ d', d = d' + 1 := ⟨d - 1, by omega⟩
    rw [f_X12_bundlesIn.eq_2]
    refine ws_b (s_hasAny n hn s 0 m) (fun r hr => ws_i (fun _ => ?_) (fun _ => ws_e (fun _ => ws_s ⟨0, hw, by omega⟩) (fun c => ?_)))
    · exact ws_b (s_asks n hw (by omega) 0 m (by decide) (by omega) (by rw [lt0]; omega)) (fun υ hυ => ws_s ⟨0 + 1, hυ, by omega⟩)
    · have h2m := ne1_2 (a := m) h1 c
      refine ws_b (s_part0 n hn m h2m) (fun p hp => ?_)
      obtain ⟨j, hp⟩ := hp
      obtain ⟨q1, q2, q3, q4, q5⟩ := pt_k hp h3
      have hp1 : p2 (k + 5) ≤ p.toInt := by
        obtain ⟨a1, a2, a3⟩ := hp
        have : k + 5 < j + 1 := p2_lt (by omega)
        have := p2_m (show k + 5 ≤ j by omega)
        omega
      have e1 : ((0 : Int32) + p).toInt = p.toInt := by rw [ii_add (by rw [lt0]; omega) (by rw [lt0]; omega), lt0]; omega
      have e2 : (m - p).toInt = m.toInt - p.toInt := ii_sub (by omega) (by omega)
      refine ws_b (ih d σ0 σ s p (by omega) hw q3 (by omega) q1 (by omega)) (fun τ hτ => ?_)
      obtain ⟨w', hw', hl⟩ := hτ
      obtain ⟨d, rfl⟩ : ∃ d', d = d' + 1 := ⟨d - 1, by omega⟩
      have hrest : ws (f_X12_bundlesIn n (d + 1) τ s (0 + p) (m - p)) (fun υ => wy B σ0 υ (w' + 1)) := by
        rw [f_X12_bundlesIn.eq_2]
        refine ws_b (s_hasAny n hn s (0 + p) (m - p)) (fun r hr => ws_i (fun _ => ?_) (fun g => absurd (hr.2.1 (by omega)) g))
        exact ws_b (s_asks n hw' (by omega) (0 + p) (m - p) (by omega) (by omega) (by omega)) (fun υ hυ => ws_s hυ)
      exact ws_b hrest (fun υ hυ => ws_s ⟨w' + 1, hυ, by omega⟩)
theorem s_bundleOf (n : Nat) (hn : 70000 ≤ n) (σ : ms_T) (s m : Int32) (h : 1 ≤ m.toInt) : ws (f_X12_bundleOf n σ s m) (fun τ => ∃ w, wy m.toInt σ τ w ∧ w ≤ 58) := by
  unfold f_X12_bundleOf
  have b := ib_hi m
  refine ws_l (ws_b (s_bundlesB n hn b 26 40 σ _ s m (by omega) wy_0 h (Int.le_refl _) (by rw [p2_31]; omega) (by omega)) (fun τ hτ => ?_))
  obtain ⟨w, hw, hl⟩ := hτ
  exact ws_s ⟨w, hw, by omega⟩
theorem s_bundleOf0 (n : Nat) (hn : 70000 ≤ n) (σ : ms_T) (s m : Int32) (h : m.toInt ≤ 0) : ws (f_X12_bundleOf n σ s m) (fun τ => fr [657] [42, 43] σ τ ∧ (ms_I τ 657).toInt = 1) := by
  unfold f_X12_bundleOf
  refine ws_l ?_
  have h0 : ws (f_X12_bundlesIn n 40 (ms_sI σ 657 0) s 0 m) (fun τ => fr [657] [42, 43] σ τ ∧ (ms_I τ 657).toInt = 1) := by
    rw [f_X12_bundlesIn.eq_2]
    refine ws_b (s_hasAny n hn s 0 m) (fun r hr => ws_i (fun _ => ?_) (fun g => absurd (hr.2.2 rfl h) g))
    unfold f_X12_asks
    have e0 : ms_I (ms_sI σ 657 0) 657 = 0 := by rw [mI_sI, if_pos rfl]
    refine ws_b (S := fun τ => fr [657] [42, 43] σ τ ∧ (ms_I τ 657).toInt = 1) (ws_g (by rw [e0]; decide) (by rw [e0]; decide) (ws_l (ws_g (by rw [mI_sE, e0]; decide) (by rw [mI_sE, e0]; decide) (ws_l (ws_l (ws_s ?_)))))) (fun υ hυ => ws_s hυ)
    refine ⟨fr_tr (fr_sI (by decide)) (fr_tr (fr_sE (by decide)) (fr_tr (fr_sE (by decide)) (fr_sI (by decide)))), ?_⟩
    rw [mI_sI, if_pos rfl, mI_sE, mI_sE, e0]; decide
  exact ws_b h0 (fun υ hυ => ws_s hυ)
/-- a power of 2 halves -/
theorem p2_half {v : Int32} {j : Nat} (h : v.toInt = p2 (j + 1)) : (v / 2).toInt = p2 j := by
  have h1 := p2_p j
  rw [ii_div (by rw [h]; have := p2_p (j + 1); omega) (by decide), h, p2_s]
  have : (2 : Int32).toInt = 2 := rfl
  rw [this]
  omega
theorem s_peaksOf_L (n : Nat) : ∀ (k j w : Nat) (σ0 σ : ms_T) (a f v : Int32), j + 1 < k → v.toInt = p2 j → wy 48 σ0 σ w → w + j + 1 ≤ 31 → 0 ≤ a.toInt → 0 ≤ f.toInt → f.toInt + a.toInt % (2 * p2 j) ≤ 48 → ws (f_X12_peaksOf_L10 n k σ a f v) (fun τ => ∃ w', wy 48 σ0 τ w' ∧ w' ≤ 31) := by
  intro k
  induction k with
  | zero => intro j w σ0 σ a f v h0; omega
  | succ k ih =>
    intro j w σ0 σ a f v h0 hv hw hk ha hf hs
    have hp := p2_p j
    have l2 : (2 : Int32).toInt = 2 := rfl
    have hda : (a / v).toInt = a.toInt / p2 j := by rw [ii_div ha (by omega), hv]
    have hq0 : 0 ≤ a.toInt / p2 j := Int.ediv_nonneg ha (by omega)
    have hrem : ((a / v) - (a / v) / 2 * 2).toInt = (a.toInt / p2 j) % 2 := by rw [ii_rem (x := a / v) (y := 2) (by omega) (by decide), hda, l2]
    have hmm : a.toInt % (2 * p2 j) = a.toInt % p2 j + p2 j * ((a.toInt / p2 j) % 2) := by
      obtain ⟨A, hA⟩ := Int.eq_ofNat_of_zero_le ha
      have h := Nat.mod_mul (a := 2 ^ j) (b := 2) (x := A)
      unfold p2
      rw [hA, Int.mul_comm 2]
      exact_mod_cast h
    have hm0 := Int.emod_nonneg a.toInt (show p2 j ≠ 0 by omega)
    rw [f_X12_peaksOf_L10.eq_2]
    refine ws_le (fun c => by rw [lt0, hv] at c; omega) (fun c => ws_n (fun q => by have := il_eq q; rw [lt0] at this; omega) ?_)
    have hJ : ∀ (w' : Nat) (τ : ms_T) (g : Int32), wy 48 σ0 τ w' → w' + j ≤ 31 → 0 ≤ g.toInt → g.toInt + a.toInt % p2 j ≤ 48 → ws (f_X12_peaksOf_J35 n (f_X12_peaksOf_L10 n k) τ a g v) (fun τ => ∃ w', wy 48 σ0 τ w' ∧ w' ≤ 31) := by
      intro w' τ g hw' hk' hg hs'
      unfold f_X12_peaksOf_J35
      refine ws_l ?_
      cases j with
      | zero =>
        have hz : (v / 2).toInt = 0 := by
          rw [ii_div (by omega) (by decide), hv, l2]
          decide
        obtain ⟨k, rfl⟩ : ∃ k', k = k' + 1 := ⟨k - 1, by omega⟩
        rw [f_X12_peaksOf_L10.eq_2]
        exact ws_le (fun _ => ws_s ⟨w', hw', by omega⟩) (fun c => by rw [lt0] at c; omega)
      | succ j =>
        refine ih j w' σ0 τ a g (v / 2) (by omega) (p2_half hv) hw' (by omega) ha hg ?_
        rw [← p2_s]; exact hs'
    refine ws_i (fun q => ?_) (fun q => ?_)
    · have q1 := il_eq q
      rw [hrem, lt0] at q1
      rw [q1] at hmm
      exact hJ w σ f hw (by omega) hf (by omega)
    · have q1 := il_ne q
      rw [hrem, lt0] at q1
      have q2 : (a.toInt / p2 j) % 2 = 1 := by omega
      rw [q2] at hmm
      have e3 : (f + v).toInt = f.toInt + v.toInt := ii_add (by omega) (by omega)
      refine ws_b (s_asks n hw (by omega) f v hf (by omega) (by omega)) (fun υ hυ => ws_l ?_)
      exact hJ (w + 1) υ (f + v) hυ (by omega) (by omega) (by omega)
theorem s_peaksOf (n : Nat) (hn : 70000 ≤ n) (σ : ms_T) (a : Int32) (h0 : 0 ≤ a.toInt) (h1 : a.toInt ≤ 48) : ws (f_X12_peaksOf n σ a) (fun τ => ∃ w, wy 48 σ τ w ∧ w ≤ 31) := by
  unfold f_X12_peaksOf
  refine ws_l (s_peaksOf_L n n 30 0 σ _ a 0 1073741824 (by omega) (by decide) wy_0 (by omega) h0 (by decide) ?_)
  have h30 : p2 30 = 1073741824 := by decide
  have hm : a.toInt % (2 * p2 30) ≤ a.toInt := by rw [h30]; omega
  rw [lt0]
  omega
end JN6_2
section JN6_3
/-! ===== stores into the cells; marks; folds ===== -/
def rc_j (j : Nat) (v : Int32) : Prop := (j = 0 → 1 ≤ v.toInt ∧ v.toInt ≤ 4) ∧ (j = 1 → 101 ≤ v.toInt ∧ v.toInt ≤ 65521) ∧ (j = 2 → 0 ≤ v.toInt ∧ v.toInt ≤ 64) ∧ (j = 3 → 0 ≤ v.toInt ∧ v.toInt ≤ 16) ∧ (∀ r, r < 4 → j = 72 + r → 0 ≤ v.toInt ∧ v.toInt ≤ 48) ∧ (∀ w, w < 4 → j = 76 + 4 * w → 0 ≤ v.toInt ∧ v.toInt ≤ 48) ∧ (∀ i, i < 16 → j = 92 + 10 * i → 0 ≤ v.toInt ∧ v.toInt ≤ 3) ∧ (∀ i, i < 16 → j = 93 + 10 * i → 0 ≤ v.toInt ∧ v.toInt ≤ 48) ∧ (∀ q, q < 192 → j = 252 + q → 0 ≤ v.toInt ∧ v.toInt ≤ 8)
theorem rC_up {f : Nat → Int32} {j : Nat} {v : Int32} (h : rC f) (g : rc_j j v) : rC (fun i => if i = j then v else f i) := by
  obtain ⟨h1, h2, h3, h4, h5, h6, h7, h8, h9⟩ := h
  obtain ⟨g1, g2, g3, g4, g5, g6, g7, g8, g9⟩ := g
  refine ⟨?_, ?_, ?_, ?_, fun r hr => ?_, fun r hr => ?_, fun r hr => ?_, fun r hr => ?_, fun r hr => ?_⟩ <;> dsimp only <;> split
  · rename_i e; exact g1 e.symm
  · exact h1
  · rename_i e; exact g2 e.symm
  · exact h2
  · rename_i e; exact g3 e.symm
  · exact h3
  · rename_i e; exact g4 e.symm
  · exact h4
  · rename_i e; exact g5 r hr e.symm
  · exact h5 r hr
  · rename_i e; exact g6 r hr e.symm
  · exact h6 r hr
  · rename_i e; exact g7 r hr e.symm
  · exact h7 r hr
  · rename_i e; exact g8 r hr e.symm
  · exact h8 r hr
  · rename_i e; exact g9 r hr e.symm
  · exact h9 r hr
theorem mE40 {σ : ms_T} {j : Nat} {v : Int32} : ms_E (ms_sE σ 40 j v) 40 = fun i => if i = j then v else ms_E σ 40 i := by
  funext i
  rw [mE_sE]
  by_cases e : i = j
  · rw [if_pos ⟨rfl, e⟩, if_pos e]
  · rw [if_neg (fun q => e q.2), if_neg e]
theorem rC_sE {σ : ms_T} {j : Nat} {v : Int32} (h : rC (ms_E σ 40)) (g : rc_j j v) : rC (ms_E (ms_sE σ 40 j v) 40) := by
  rw [mE40]; exact rC_up h g
theorem RI_sE {σ : ms_T} {j : Nat} {v : Int32} (h : RI σ) (g : rc_j j v) : RI (ms_sE σ 40 j v) := ⟨h.1, rC_sE h.2 g⟩
/-- cells of which nothing is asked -/
theorem rc_f {j : Nat} {v : Int32} (h : (j = 4 ∨ (8 ≤ j ∧ j < 72) ∨ 444 ≤ j)) : rc_j j v :=
  ⟨fun _ => by omega, fun _ => by omega, fun _ => by omega, fun _ => by omega, fun r _ _ => by omega, fun r _ _ => by omega, fun r _ _ => by omega, fun r _ _ => by omega, fun r _ _ => by omega⟩
theorem s_fetches_L (n : Nat) (hn : 70000 ≤ n) : ∀ (k w : Nat) (σ0 σ : ms_T) (r v : Int32), rC (ms_E σ0 40) → fr [] [44] σ0 σ → (ms_I σ0 657).toInt = (w : Int) → wg 48 σ0 w → w ≤ 128 → 0 ≤ r.toInt → r.toInt ≤ 3 → 0 ≤ v.toInt → v.toInt ≤ (w : Int) → (w : Int) - v.toInt < (k : Int) → ws (f_X12_fetches_L2 n k σ r v) (fun τ => fr [] [44] σ0 τ) := by
  intro k
  induction k with
  | zero => intro w σ0 σ r v hC hf hw hg hw2 h0 h1 h2 h3 h4; omega
  | succ k ih =>
    intro w σ0 σ r v hC hf hw hg hw2 h0 h1 h2 h3 h4
    rw [f_X12_fetches_L2.eq_2]
    have eI : ms_I σ 657 = ms_I σ0 657 := hf.1 657 (by simp)
    have e42 := hf.2 42 (by simp)
    have e43 := hf.2 43 (by simp)
    have hv := ic_clamp h2
    have e1 : (v + 1).toInt = v.toInt + 1 := by rw [ii_add (by rw [lt1]; omega) (by rw [lt1]; omega), lt1]
    rw [eI]
    refine ws_le (fun c => ws_s hf) (fun c => ?_)
    have hq := hg v.toNatClampNeg (by omega)
    refine ws_g h2 (by omega) (ws_g h2 (by omega) ?_)
    rw [e42, e43]
    refine ws_b (s_tree0 n hn (rC_fr hC hf (by decide)) r _ _ h0 h1 hq.1 hq.2.1 hq.2.2) (fun t _ => ws_g h2 (by omega) (ws_l (ws_l ?_)))
    exact ih w σ0 _ r (v + 1) hC (fr_tr hf (fr_sE (by decide))) hw hg hw2 h0 h1 (by omega) (by omega) (by omega)
theorem s_fetches (n : Nat) (hn : 70000 ≤ n) {B : Int} {σ0 σ : ms_T} {w : Nat} (hC : rC (ms_E σ 40)) (hw : wy B σ0 σ w) (hB : B ≤ 48) (hw2 : w ≤ 128) (r : Int32) (h0 : 0 ≤ r.toInt) (h1 : r.toInt ≤ 3) : ws (f_X12_fetches n σ r) (fun τ => fr [] [44] σ τ) := by
  unfold f_X12_fetches
  exact s_fetches_L n hn n w σ σ r 0 hC fr_rf hw.2.1 (fun q hq => by have := hw.2.2 q hq; omega) hw2 h0 h1 (by decide) (by rw [lt0]; omega) (by rw [lt0]; omega)
theorem s_pads_L (n : Nat) : ∀ (k w : Nat) (σ0 σ : ms_T) (v : Int32), RI σ → ms_I σ 667 = ms_I σ0 667 → (ms_I σ 657).toInt = (w : Int) → w ≤ 64 → 0 ≤ v.toInt → v.toInt ≤ (w : Int) → (w : Int) - v.toInt < (k : Int) → ws (f_X12_pads_L7 n k σ v) (PK σ0) := by
  intro k
  induction k with
  | zero => intro w σ0 σ v hR hx hw hw2 h0 h1 h2; omega
  | succ k ih =>
    intro w σ0 σ v hR hx hw hw2 h0 h1 h2
    rw [f_X12_pads_L7.eq_2]
    have hv := ic_clamp h0
    have l8 : (8 : Int32).toInt = 8 := by decide
    have e1 : (v + 1).toInt = v.toInt + 1 := by rw [ii_add (by rw [lt1]; omega) (by rw [lt1]; omega), lt1]
    have e8 : ((8 : Int32) + v).toInt = 8 + v.toInt := by rw [ii_add (by omega) (by omega), l8]
    refine ws_le (fun c => ?_) (fun c => ?_)
    · refine ws_g (by decide) (by decide) (ws_l (ws_s ⟨RI_sE hR ?_, hx⟩))
      rw [c2]
      exact ⟨fun _ => by omega, fun _ => by omega, fun _ => by omega, fun _ => by omega, fun r _ _ => by omega, fun r _ _ => by omega, fun r _ _ => by omega, fun r _ _ => by omega, fun r _ _ => by omega⟩
    · refine ws_g h0 (by omega) (ws_g (by omega) (by omega) (ws_l (ws_l ?_)))
      exact ih w σ0 _ (v + 1) (RI_sE hR (rc_f (by have := cl_n (i := 8 + v) (k := 8 + v.toNatClampNeg) (by omega); omega))) hx hw hw2 (by omega) (by omega) (by omega)
theorem s_pads (n : Nat) (hn : 70000 ≤ n) {B : Int} {σ0 σ : ms_T} {w : Nat} (hR : RI σ) (hw : wy B σ0 σ w) (hB : B ≤ 48) (hw2 : w ≤ 64) (r : Int32) (h0 : 0 ≤ r.toInt) (h1 : r.toInt ≤ 3) : ws (f_X12_pads n σ r) (PK σ) := by
  unfold f_X12_pads
  refine ws_b (s_fetches n hn hR.2 hw hB (by omega) r h0 h1) (fun τ hτ => ?_)
  exact s_pads_L n n w σ τ 0 (RI_fr hR hτ (by decide)) (hτ.1 667 (by simp)) (by rw [hτ.1 657 (by simp)]; exact hw.2.1) hw2 (by decide) (by rw [lt0]; omega) (by rw [lt0]; omega)
theorem s_fromPad_L (n : Nat) : ∀ (k : Nat) (σ0 σ : ms_T) (v : Int32), fr [] [44] σ0 σ → rC (ms_E σ0 40) → 0 ≤ v.toInt → v.toInt ≤ (ms_E σ0 40 2).toInt → (ms_E σ0 40 2).toInt - v.toInt < (k : Int) → ws (f_X12_fromPad_L2 n k σ v) (fun q => fr [] [44] σ0 q.2 ∧ q.1 = ms_E σ0 40 2) := by
  intro k
  induction k with
  | zero => intro σ0 σ v hf hC h0 h1 h2; omega
  | succ k ih =>
    intro σ0 σ v hf hC h0 h1 h2
    rw [f_X12_fromPad_L2.eq_2, c2]
    have e2 : ms_E σ 40 2 = ms_E σ0 40 2 := hf.2 40 (by simp) 2
    have h64 := hC.2.2.1
    have l8 : (8 : Int32).toInt = 8 := by decide
    have e1 : (v + 1).toInt = v.toInt + 1 := by rw [ii_add (by rw [lt1]; omega) (by rw [lt1]; omega), lt1]
    have e8 : ((8 : Int32) + v).toInt = 8 + v.toInt := by rw [ii_add (by omega) (by omega), l8]
    rw [e2]
    refine ws_g (by decide) (by decide) (ws_le (fun c => ws_g (by decide) (by decide) (ws_s ⟨hf, rfl⟩)) (fun c => ?_))
    refine ws_g (by omega) (by omega) (ws_g h0 (by omega) (ws_l (ws_l ?_)))
    exact ih σ0 _ (v + 1) (fr_tr hf (fr_sE (by decide))) hC (by omega) (by omega) (by omega)
theorem s_fromPad (n : Nat) (hn : 70000 ≤ n) (σ : ms_T) (hC : rC (ms_E σ 40)) : ws (f_X12_fromPad n σ) (fun q => fr [] [44] σ q.2 ∧ q.1 = ms_E σ 40 2) := by
  unfold f_X12_fromPad
  have h := hC.2.2.1
  exact s_fromPad_L n n σ σ 0 fr_rf hC (by decide) (by rw [lt0]; omega) (by rw [lt0]; omega)
theorem s_foldsIn (n : Nat) (hn : 70000 ≤ n) : ∀ (k d w : Nat) (σ0 σ : ms_T) (t i m : Int32), k < d → rC (ms_E σ0 40) → fr [658] [] σ0 σ → (ms_I σ 658).toInt = (w : Int) → w + k ≤ 128 → 0 ≤ i.toInt → i.toInt < m.toInt → m.toInt ≤ p2 k → ws (f_X12_foldsIn n d σ t i m) (fun q => fr [658] [] σ0 q.2 ∧ ∃ w' : Nat, (ms_I q.2 658).toInt = (w' : Int) ∧ w' ≤ w + k) := by
  intro k
  induction k with
  | zero =>
    intro d w σ0 σ t i m hd hC hf hw hk h0 h1 h2
    have : p2 0 = 1 := by decide
    obtain ⟨d, rfl⟩ : ∃ d', d = d' + 1 := ⟨d - 1, by omega⟩
    rw [f_X12_foldsIn.eq_2]
    exact ws_e (fun c => ws_s ⟨hf, w, hw, by omega⟩) (fun c => by rw [lt1] at c; omega)
  | succ k ih =>
    intro d w σ0 σ t i m hd hC hf hw hk h0 h1 h2
    obtain ⟨d, rfl⟩ : ∃ d', d = d' + 1 := ⟨d - 1, by omega⟩
    rw [f_X12_foldsIn.eq_2]
    refine ws_e (fun c => ws_s ⟨hf, w, hw, by omega⟩) (fun c => ?_)
    have h2m := ne1_2 (a := m) (by omega) c
    refine ws_b (s_part0 n hn m h2m) (fun p hp => ?_)
    obtain ⟨j, hp⟩ := hp
    obtain ⟨q1, q2, q3, q4, q5⟩ := pt_k hp h2
    have bm := ib_hi m
    have bi := ib_hi i
    have e2 : (m - p).toInt = m.toInt - p.toInt := ii_sub (by omega) (by omega)
    have step : ∀ (τ : ms_T) (w' : Nat), (ms_I τ 658).toInt = (w' : Int) → w' < 128 → ms_I (ms_sI τ 658 (ms_I τ 658 + 1)) 658 = ms_I τ 658 + 1 ∧ (ms_I τ 658 + 1).toInt = (w' : Int) + 1 ∧ (ms_I τ 658 + 1 - 1).toInt = (w' : Int) := by
      intro τ w' h hl
      have e3 : (ms_I τ 658 + 1).toInt = (w' : Int) + 1 := by rw [ii_add (by rw [lt1]; omega) (by rw [lt1]; omega), lt1, h]
      refine ⟨by rw [mI_sI, if_pos rfl], e3, ?_⟩
      rw [ii_sub (by rw [lt1]; omega) (by rw [lt1]; omega), lt1, e3]
      omega
    refine ws_le (fun c => ?_) (fun c => ?_)
    · have e3 : (i - p).toInt = i.toInt - p.toInt := ii_sub (by omega) (by omega)
      refine ws_c (ih d w σ0 σ t (i - p) (m - p) (by omega) hC hf hw (by omega) (by omega) (by omega) (by omega)) (fun a τ hτ => ?_)
      obtain ⟨hf2, w', hw', hl⟩ := hτ
      obtain ⟨t1, t2, t3⟩ := step τ w' hw' (by omega)
      have hf3 : fr [658] [] σ0 (ms_sI τ 658 (ms_I τ 658 + 1)) := fr_tr hf2 (fr_sI (by decide))
      refine ws_l (ws_g (by rw [t1, t3]; omega) (by rw [t1, t3]; omega) (ws_b (s_both (rC_fr hC hf3 (by decide)) _ _) (fun _ _ => ws_s ⟨hf3, w' + 1, ?_, by omega⟩)))
      rw [t1, t2]; omega
    · refine ws_c (ih d w σ0 σ t i p (by omega) hC hf hw (by omega) h0 c q1) (fun a τ hτ => ?_)
      obtain ⟨hf2, w', hw', hl⟩ := hτ
      obtain ⟨t1, t2, t3⟩ := step τ w' hw' (by omega)
      have hf3 : fr [658] [] σ0 (ms_sI τ 658 (ms_I τ 658 + 1)) := fr_tr hf2 (fr_sI (by decide))
      refine ws_l (ws_g (by rw [t1, t3]; omega) (by rw [t1, t3]; omega) (ws_b (s_both (rC_fr hC hf3 (by decide)) _ _) (fun _ _ => ws_s ⟨hf3, w' + 1, ?_, by omega⟩)))
      rw [t1, t2]; omega
theorem s_folded (n : Nat) (hn : 70000 ≤ n) (σ : ms_T) (hC : rC (ms_E σ 40)) (t i m : Int32) (h0 : 0 ≤ i.toInt) (h1 : i.toInt < m.toInt) : ws (f_X12_folded n σ t i m) (fun q => fr [658] [] σ q.2) := by
  unfold f_X12_folded
  have b := ib_hi m
  exact ws_l (ws_c (s_foldsIn n hn 31 40 0 σ _ t i m (by omega) hC (fr_sI (by decide)) (by rw [mI_sI, if_pos rfl]; rfl) (by omega) h0 h1 (by rw [p2_31]; omega)) (fun a τ hτ => ws_s hτ.1))
theorem s_why (n : Nat) (σ : ms_T) (a b c : Int32) : ws (f_X12_why n σ a b c) (fun r => r = 0 ∨ r = 1 ∨ r = 2 ∨ r = 3) := by
  unfold f_X12_why
  refine ws_i (fun _ => ws_i (fun _ => ws_i (fun _ => ws_s ?_) (fun _ => ws_s ?_)) (fun _ => ws_s ?_)) (fun _ => ws_s ?_) <;> decide
theorem s_whyIn (n : Nat) (hn : 70000 ≤ n) (σ : ms_T) (hC : rC (ms_E σ 40)) (a t i m hd : Int32) (h0 : 0 ≤ i.toInt) (h1 : i.toInt < m.toInt) : ws (f_X12_whyIn n σ a t i m hd) (fun q => fr [657, 658] [42, 43] σ q.2) := by
  have hJ41 : ∀ (τ : ms_T) (x y z : Int32), fr [657, 658] [42, 43] σ τ → ws (f_X12_whyIn_J41 n τ x y z) (fun q => fr [657, 658] [42, 43] σ q.2) := by
    intro τ x y z h
    unfold f_X12_whyIn_J41
    exact ws_b (s_why n τ _ _ _) (fun _ _ => ws_s h)
  have hJ36 : ∀ (τ : ms_T) (x y : Int32), fr [657, 658] [42, 43] σ τ → ws (f_X12_whyIn_J36 n τ x y) (fun q => fr [657, 658] [42, 43] σ q.2) := by
    intro τ x y h
    unfold f_X12_whyIn_J36
    exact hJ41 τ _ _ _ h
  unfold f_X12_whyIn
  refine ws_b (s_inclusion n hn σ i m h0 h1) (fun τ hτ => ?_)
  obtain ⟨w, hw, hl⟩ := hτ
  have hf : fr [657, 658] [42, 43] σ τ := fr_sb hw.1 (by decide) (by decide)
  refine ws_l (ws_i (fun _ => ?_) (fun _ => hJ36 τ _ _ hf))
  refine ws_c (s_folded n hn τ (rC_fr hC hf (by decide)) t i m h0 h1) (fun b υ hυ => ?_)
  have hf2 : fr [657, 658] [42, 43] σ υ := fr_tr hf (fr_sb hυ (by decide) (by decide))
  exact ws_i (fun _ => hJ36 υ _ _ hf2) (fun _ => hJ41 υ _ _ _ hf2)
/-- what foldsGrowth changes -/
def fg (σ0 σ : ms_T) (w : Nat) : Prop := fr [658, 659, 660] [] σ0 σ ∧ (ms_I σ 658).toInt = (w : Int)
theorem s_fgJ157 (n : Nat) (rc : ms_T → Int32 → Int32 → Int32 → Int32 → Option ms_T) {σ0 σ : ms_T} {w : Nat} (h : fg σ0 σ w) (hw : w < 128) : ws (f_X12_foldsGrowth_J157 n rc σ) (fun τ => fg σ0 τ (w + 1)) := by
  unfold f_X12_foldsGrowth_J157
  refine ws_l (ws_s ⟨fr_tr h.1 (fr_sI (by decide)), ?_⟩)
  have := h.2
  rw [mI_sI, if_pos rfl, ii_add (by rw [lt1]; omega) (by rw [lt1]; omega), lt1, this]
  omega
theorem s_fgJ24 (n : Nat) (rc : ms_T → Int32 → Int32 → Int32 → Int32 → Option ms_T) {σ0 σ : ms_T} {w : Nat} (h : fg σ0 σ w) (hw : w < 128) (z x : Int32) : ws (f_X12_foldsGrowth_J24 n rc σ z x) (fun τ => ∃ w', fg σ0 τ w' ∧ w' ≤ w + 1) := by
  unfold f_X12_foldsGrowth_J24
  have h2 := h.2
  have hf : fr [658, 659, 660] [] σ0 (ms_sI (ms_sI σ 659 x) 660 (ms_I (ms_sI σ 659 x) 659)) := fr_tr h.1 (fr_tr (fr_sI (by decide)) (fr_sI (by decide)))
  have e : ms_I (ms_sI (ms_sI σ 659 x) 660 (ms_I (ms_sI σ 659 x) 659)) 658 = ms_I σ 658 := by rw [mI_sI, if_neg (by decide), mI_sI, if_neg (by decide)]
  refine ws_l (ws_l (ws_i (fun _ => ?_) (fun _ => ?_)))
  · unfold f_X12_foldsGrowth_J50
    refine ws_l (ws_s ⟨w + 1, ⟨fr_tr hf (fr_sI (by decide)), ?_⟩, by omega⟩)
    rw [mI_sI, if_pos rfl, e, ii_add (by rw [lt1]; omega) (by rw [lt1]; omega), lt1, h2]
    omega
  · unfold f_X12_foldsGrowth_J50
    refine ws_l (ws_s ⟨w, ⟨fr_tr hf (fr_sI (by decide)), ?_⟩, by omega⟩)
    rw [mI_sI, if_pos rfl, e, ii_add (by rw [lt0]; omega) (by rw [lt0]; omega), lt0, h2]
    omega
theorem s_foldsGrowth (n : Nat) (hn : 70000 ≤ n) : ∀ (k d w : Nat) (σ0 σ : ms_T) (t i m z : Int32), k < d → rC (ms_E σ0 40) → fg σ0 σ w → w + k + 1 ≤ 128 → 1 ≤ i.toInt → i.toInt ≤ m.toInt → m.toInt ≤ p2 k → ws (f_X12_foldsGrowth n d σ t i m z) (fun τ => ∃ w', fg σ0 τ w' ∧ w' ≤ w + k + 1) := by
  intro k
  induction k with
  | zero =>
    intro d w σ0 σ t i m z hd hC hf hk h0 h1 h2
    have : p2 0 = 1 := by decide
    have hw := hf.2
    obtain ⟨d, rfl⟩ : ∃ d', d = d' + 1 := ⟨d - 1, by omega⟩
    rw [f_X12_foldsGrowth.eq_2]
    refine ws_e (fun c => ws_i (fun _ => ws_g (by omega) (by omega) ?_) (fun _ => ?_)) (fun c => by omega)
    · exact ws_m (s_fgJ24 n _ hf (by omega) _ _) (fun τ hτ => by obtain ⟨w', a, b⟩ := hτ; exact ⟨w', a, by omega⟩)
    · exact ws_m (s_fgJ24 n _ hf (by omega) _ _) (fun τ hτ => by obtain ⟨w', a, b⟩ := hτ; exact ⟨w', a, by omega⟩)
  | succ k ih =>
    intro d w σ0 σ t i m z hd hC hf hk h0 h1 h2
    have hw := hf.2
    obtain ⟨d, rfl⟩ : ∃ d', d = d' + 1 := ⟨d - 1, by omega⟩
    rw [f_X12_foldsGrowth.eq_2]
    refine ws_e (fun c => ws_i (fun _ => ws_g (by omega) (by omega) ?_) (fun _ => ?_)) (fun c => ?_)
    · exact ws_m (s_fgJ24 n _ hf (by omega) _ _) (fun τ hτ => by obtain ⟨w', a, b⟩ := hτ; exact ⟨w', a, by omega⟩)
    · exact ws_m (s_fgJ24 n _ hf (by omega) _ _) (fun τ hτ => by obtain ⟨w', a, b⟩ := hτ; exact ⟨w', a, by omega⟩)
    refine ws_b (s_part0 n hn m (by omega)) (fun p hp => ?_)
    obtain ⟨j, hp⟩ := hp
    obtain ⟨q1, q2, q3, q4, q5⟩ := pt_k hp h2
    have bm := ib_hi m
    have bi := ib_hi i
    have e2 : (m - p).toInt = m.toInt - p.toInt := ii_sub (by omega) (by omega)
    refine ws_lt (fun c => ?_) (fun c => ?_)
    · have e3 : (i - p).toInt = i.toInt - p.toInt := ii_sub (by omega) (by omega)
      refine ws_b (ih d w σ0 σ t (i - p) (m - p) 0 (by omega) hC hf (by omega) (by omega) (by omega) (by omega)) (fun τ hτ => ?_)
      obtain ⟨w', hf2, hl⟩ := hτ
      have hw2 := hf2.2
      refine ws_g (by omega) (by omega) (ws_b (s_both (rC_fr hC hf2.1 (by decide)) _ _) (fun a _ => ws_l ?_))
      have hf3 : fg σ0 (ms_sI τ 659 a) w' := ⟨fr_tr hf2.1 (fr_sI (by decide)), by rw [mI_sI, if_neg (by decide)]; exact hw2⟩
      have hw3 := hf3.2
      refine ws_g (by omega) (by omega) (ws_b (s_both (rC_fr hC hf3.1 (by decide)) _ _) (fun b _ => ws_l ?_))
      have hf4 : fg σ0 (ms_sI (ms_sI τ 659 a) 660 b) w' := ⟨fr_tr hf3.1 (fr_sI (by decide)), by rw [mI_sI, if_neg (by decide)]; exact hw3⟩
      exact ws_m (s_fgJ157 n _ hf4 (by omega)) (fun υ hυ => ⟨w' + 1, hυ, by omega⟩)
    · refine ws_b (ih d w σ0 σ t i p z (by omega) hC hf (by omega) h0 (by omega) q1) (fun τ hτ => ?_)
      obtain ⟨w', hf2, hl⟩ := hτ
      have hw2 := hf2.2
      refine ws_g (by omega) (by omega) (ws_b (s_both (rC_fr hC hf2.1 (by decide)) _ _) (fun a _ => ws_l ?_))
      have hf3 : fg σ0 (ms_sI τ 660 a) w' := ⟨fr_tr hf2.1 (fr_sI (by decide)), by rw [mI_sI, if_neg (by decide)]; exact hw2⟩
      exact ws_m (s_fgJ157 n _ hf3 (by omega)) (fun υ hυ => ⟨w' + 1, hυ, by omega⟩)
theorem s_whyGrown (n : Nat) (hn : 70000 ≤ n) (σ : ms_T) (hC : rC (ms_E σ 40)) (a i o m w : Int32) (h0 : 0 ≤ i.toInt) (h1 : i.toInt ≤ m.toInt) : ws (f_X12_whyGrown n σ a i o m w) (fun q => fr [657, 658, 659, 660] [42, 43] σ q.2) := by
  have b := ib_hi m
  have hJ : ∀ τ : ms_T, fr [657, 658, 659, 660] [42, 43] σ τ → ws (f_X12_whyGrown_J39 n τ i o m w) (fun q => fr [657, 658, 659, 660] [42, 43] σ q.2) := by
    intro τ h
    unfold f_X12_whyGrown_J39
    refine ws_e (fun _ => ws_i (fun _ => ws_s h) (fun _ => ws_s h)) (fun c => ws_e (fun _ => ws_s h) (fun c0 => ws_l ?_))
    rw [lt0] at c0
    refine ws_b (s_foldsGrowth n hn 31 40 0 τ _ o i m 1 (by omega) (rC_fr hC h (by decide)) ⟨fr_sI (by decide), by rw [mI_sI, if_pos rfl]; rfl⟩ (by omega) (by omega) h1 (by rw [p2_31]; omega)) (fun υ hυ => ?_)
    obtain ⟨w', hf, -⟩ := hυ
    have h2 : fr [657, 658, 659, 660] [42, 43] σ υ := fr_tr h (fr_sb hf.1 (by decide) (by decide))
    exact ws_i (fun _ => ws_i (fun _ => ws_s h2) (fun _ => ws_s h2)) (fun _ => ws_s h2)
  unfold f_X12_whyGrown
  refine ws_b (s_growth0 n hn σ i m) (fun τ hτ => ?_)
  obtain ⟨w', hw, -⟩ := hτ
  have h : fr [657, 658, 659, 660] [42, 43] σ τ := fr_sb hw.1 (by decide) (by decide)
  exact ws_i (fun _ => ws_i (fun _ => ws_i (fun _ => hJ τ h) (fun _ => ws_s h)) (fun _ => hJ τ h)) (fun _ => ws_i (fun _ => ws_s h) (fun _ => ws_s h))
theorem s_whyByRecord (n : Nat) (hn : 70000 ≤ n) (σ : ms_T) (hC : rC (ms_E σ 40)) (r i o m w : Int32) (hr0 : 0 ≤ r.toInt) (hr1 : r.toInt ≤ 3) (h0 : 0 ≤ i.toInt) (h1 : i.toInt ≤ m.toInt) (h2 : m.toInt ≤ 48) : ws (f_X12_whyByRecord n σ r i o m w) (fun q => fr [657, 658, 659, 660] [42, 43, 44] σ q.2) := by
  unfold f_X12_whyByRecord
  refine ws_b (s_growth0 n hn σ i m) (fun τ hτ => ?_)
  obtain ⟨w', hw, hl⟩ := hτ
  have hC2 := rC_fr hC hw.1 (by decide)
  refine ws_b (s_fetches n hn hC2 hw h2 (by omega) r hr0 hr1) (fun υ hυ => ?_)
  refine ws_c (s_whyGrown n hn υ (rC_fr hC2 hυ (by decide)) _ i o m w h0 h1) (fun a φ hφ => ws_s ?_)
  exact fr_tr (fr_sb hw.1 (by decide) (by decide)) (fr_tr (fr_sb hυ (by decide) (by decide)) (fr_sb hφ (by decide) (by decide)))
end JN6_3
section JN6_4
/-! ===== public functions of the reference: tools, the simple ones ===== -/
theorem iw_add (x y : Int32) : (x + y).toInt = (x.toInt + y.toInt + 2147483648) % 4294967296 - 2147483648 := by
  rw [Int32.toInt_add]; simp only [Int.bmod]; split <;> omega
theorem iw_sub (x y : Int32) : (x - y).toInt = (x.toInt - y.toInt + 2147483648) % 4294967296 - 2147483648 := by
  rw [Int32.toInt_sub]; simp only [Int.bmod]; split <;> omega
theorem iw_mul (x y : Int32) : (x * y).toInt = (x.toInt * y.toInt + 2147483648) % 4294967296 - 2147483648 := by
  rw [Int32.toInt_mul]; simp only [Int.bmod]; split <;> omega
theorem t_m1 : (-1 : Int32).toInt = -1 := by decide
theorem t_2 : (2 : Int32).toInt = 2 := by decide
theorem t_3 : (3 : Int32).toInt = 3 := by decide
theorem t_4 : (4 : Int32).toInt = 4 := by decide
theorem t_5 : (5 : Int32).toInt = 5 := by decide
theorem t_6 : (6 : Int32).toInt = 6 := by decide
theorem t_8 : (8 : Int32).toInt = 8 := by decide
theorem t_9 : (9 : Int32).toInt = 9 := by decide
theorem t_10 : (10 : Int32).toInt = 10 := by decide
theorem t_16 : (16 : Int32).toInt = 16 := by decide
theorem t_20 : (20 : Int32).toInt = 20 := by decide
theorem t_24 : (24 : Int32).toInt = 24 := by decide
theorem t_26 : (26 : Int32).toInt = 26 := by decide
theorem t_30 : (30 : Int32).toInt = 30 := by decide
theorem t_31 : (31 : Int32).toInt = 31 := by decide
theorem t_48 : (48 : Int32).toInt = 48 := by decide
theorem t_64 : (64 : Int32).toInt = 64 := by decide
theorem t_72 : (72 : Int32).toInt = 72 := by decide
theorem t_76 : (76 : Int32).toInt = 76 := by decide
theorem t_92 : (92 : Int32).toInt = 92 := by decide
theorem t_101 : (101 : Int32).toInt = 101 := by decide
theorem t_252 : (252 : Int32).toInt = 252 := by decide
theorem t_444 : (444 : Int32).toInt = 444 := by decide
theorem t_512 : (512 : Int32).toInt = 512 := by decide
theorem t_900 : (900 : Int32).toInt = 900 := by decide
theorem t_1980 : (1980 : Int32).toInt = 1980 := by decide
theorem t_65521 : (65521 : Int32).toInt = 65521 := by decide
theorem t_99999 : (99999 : Int32).toInt = 99999 := by decide
theorem t_mil : (1000000 : Int32).toInt = 1000000 := by decide
theorem lits : (0 : Int32).toInt = 0 ∧ (1 : Int32).toInt = 1 ∧ (2 : Int32).toInt = 2 ∧ (3 : Int32).toInt = 3 ∧ (4 : Int32).toInt = 4 ∧ (5 : Int32).toInt = 5 ∧ (6 : Int32).toInt = 6 ∧ (8 : Int32).toInt = 8 ∧ (9 : Int32).toInt = 9 ∧ (10 : Int32).toInt = 10 ∧ (16 : Int32).toInt = 16 ∧ (20 : Int32).toInt = 20 ∧ (26 : Int32).toInt = 26 ∧ (30 : Int32).toInt = 30 ∧ (31 : Int32).toInt = 31 ∧ (48 : Int32).toInt = 48 ∧ (64 : Int32).toInt = 64 ∧ (512 : Int32).toInt = 512 ∧ (900 : Int32).toInt = 900 ∧ (1980 : Int32).toInt = 1980 ∧ (-1 : Int32).toInt = -1 := by decide
section P4
variable {R : Type} {Q : R → Prop} {a b : Option R}
theorem ws_bo {x : Option Int32} {P : Prop} (h : ws x (fun r => bo r P)) (h0 : ¬ P → ws a Q) (h1 : P → ws b Q) : ws (ms_b x fun r => if r = 0 then a else b) Q :=
  ws_b h (fun _ hr => ws_i (fun e => h0 (bo_0 hr e)) (fun e => h1 (bo_1 hr (fun q => e (Int32.toInt_inj.mp q)))))
theorem ws_ee {i j : Int32} (h : i = j → i.toInt = j.toInt → ws a Q) (g : ¬ i.toInt = j.toInt → ws b Q) : ws (if i = j then a else b) Q := ws_e (fun e => h e (il_eq e)) g
end P4
theorem PKr {τ : ms_T} (h : RI τ) (r : Int32) : PK τ (r, τ) := ⟨h, rfl⟩
theorem ws_isP {n : Nat} {σ : ms_T} {w : Int32} {k : ms_T → Option (Int32 × ms_T)} (hR : RI σ) (h1 : w = 0 → ∀ τ, RI τ → ms_E τ = ms_E σ → fr [652, 653] [] σ τ → ws (k τ) (PK τ)) : ws (ms_c (f_X12_is n σ w) fun r τ => if r = 0 then some ((-1 : Int32), τ) else k τ) (PK σ) :=
  ws_is (fun τ h => pk_is hR h _) (fun e τ h => by
    obtain ⟨a, b, c⟩ := is_R hR h
    exact ws_m (h1 e τ a c h) (fun res hres => pk_tr b hres))
theorem ws_is0 {n : Nat} {σ : ms_T} {w : Int32} {k : ms_T → Option (Int32 × ms_T)} (hR : RI σ) (h1 : ∀ τ, RI τ → ms_E τ = ms_E σ → fr [652, 653] [] σ τ → ws (k τ) (PK τ)) : ws (ms_c (f_X12_is n σ w) fun _ τ => k τ) (PK σ) :=
  ws_c (s_is n σ w) (fun r τ h => by
    obtain ⟨a, b, c⟩ := is_R hR h.1
    exact ws_m (h1 τ a c h.1) (fun res hres => pk_tr b hres))
theorem ws_rf {n : Nat} {σ : ms_T} {w : Int32} (hR : RI σ) : ws (ms_c (f_X12_refuse n σ w) fun r τ => some (r, τ)) (PK σ) :=
  ws_c (s_refuse n σ w) (fun _ _ h => ws_s (pk hR h.1 (by decide) _))
theorem s_trust {n : Nat} {σ : ms_T} (hC : rC (ms_E σ 40)) (a1 a2 : Int32) (h0 : 0 ≤ a1.toInt) (h1 : a1.toInt ≤ 3) (h2 : 0 ≤ a2.toInt) (h3 : a2.toInt ≤ 3) : ws (f_X12_trust n σ a1 a2) (fun r => a2 = 0 → 0 ≤ r.toInt ∧ r.toInt ≤ 48) := by
  unfold f_X12_trust
  refine ws_g (by (try simp only [iw_add, iw_sub, iw_mul, t_m1, lt0, lt1, t_2, t_3, t_4, t_5, t_6, t_8, t_9, t_10, t_16, t_20, t_24, t_26, t_30, t_31, t_48, t_64, t_72, t_76, t_92, t_101, t_252, t_444, t_512, t_900, t_1980, t_65521, t_99999, t_mil]) <;> omega) (by (try simp only [iw_add, iw_sub, iw_mul, t_m1, lt0, lt1, t_2, t_3, t_4, t_5, t_6, t_8, t_9, t_10, t_16, t_20, t_24, t_26, t_30, t_31, t_48, t_64, t_72, t_76, t_92, t_101, t_252, t_444, t_512, t_900, t_1980, t_65521, t_99999, t_mil]) <;> omega) (ws_s (fun h => ?_))
  subst h
  rw [cl_n (i := (76 : Int32) + 4 * a1 + 0) (k := 76 + 4 * a1.toInt.toNat) (by (try simp only [iw_add, iw_sub, iw_mul, t_m1, lt0, lt1, t_2, t_3, t_4, t_5, t_6, t_8, t_9, t_10, t_16, t_20, t_24, t_26, t_30, t_31, t_48, t_64, t_72, t_76, t_92, t_101, t_252, t_444, t_512, t_900, t_1980, t_65521, t_99999, t_mil]) <;> omega)]
  exact hC.2.2.2.2.2.1 a1.toInt.toNat (by omega)
theorem s_froze {n : Nat} {σ : ms_T} (hC : rC (ms_E σ 40)) (a1 a2 : Int32) (h0 : 0 ≤ a1.toInt) (h1 : a1.toInt ≤ 15) (h2 : 0 ≤ a2.toInt) (h3 : a2.toInt ≤ 128) : ws (f_X12_froze n σ a1 a2) (fun r => (a2 = 0 → 0 ≤ r.toInt ∧ r.toInt ≤ 3) ∧ (a2 = 1 → 0 ≤ r.toInt ∧ r.toInt ≤ 48)) := by
  unfold f_X12_froze
  have e1 : ((92 : Int32) + 10 * a1).toInt = 92 + 10 * a1.toInt := by (try simp only [iw_add, iw_sub, iw_mul, t_m1, lt0, lt1, t_2, t_3, t_4, t_5, t_6, t_8, t_9, t_10, t_16, t_20, t_24, t_26, t_30, t_31, t_48, t_64, t_72, t_76, t_92, t_101, t_252, t_444, t_512, t_900, t_1980, t_65521, t_99999, t_mil]) <;> omega
  have e2 : ((92 : Int32) + 10 * a1 + a2).toInt = 92 + 10 * a1.toInt + a2.toInt := by rw [iw_add, e1]; omega
  refine ws_g (by omega) (by omega) (ws_s ⟨fun h => ?_, fun h => ?_⟩)
  · subst h
    rw [cl_n (i := (92 : Int32) + 10 * a1 + 0) (k := 92 + 10 * a1.toInt.toNat) (by (try simp only [iw_add, iw_sub, iw_mul, t_m1, lt0, lt1, t_2, t_3, t_4, t_5, t_6, t_8, t_9, t_10, t_16, t_20, t_24, t_26, t_30, t_31, t_48, t_64, t_72, t_76, t_92, t_101, t_252, t_444, t_512, t_900, t_1980, t_65521, t_99999, t_mil]) <;> omega)]
    exact hC.2.2.2.2.2.2.1 a1.toInt.toNat (by omega)
  · subst h
    rw [cl_n (i := (92 : Int32) + 10 * a1 + 1) (k := 93 + 10 * a1.toInt.toNat) (by (try simp only [iw_add, iw_sub, iw_mul, t_m1, lt0, lt1, t_2, t_3, t_4, t_5, t_6, t_8, t_9, t_10, t_16, t_20, t_24, t_26, t_30, t_31, t_48, t_64, t_72, t_76, t_92, t_101, t_252, t_444, t_512, t_900, t_1980, t_65521, t_99999, t_mil]) <;> omega)]
    exact hC.2.2.2.2.2.2.2.1 a1.toInt.toNat (by omega)
theorem s_isSound (n : Nat) (hn : 70000 ≤ n) {σ : ms_T} (hC : rC (ms_E σ 40)) (a1 : Int32) (h0 : 0 ≤ a1.toInt) (h1 : a1.toInt ≤ 15) : ws (f_X12_isSound n σ a1) (fun _ => True) := by
  unfold f_X12_isSound
  refine ws_b (s_froze hC a1 0 h0 h1 (by decide) (by decide)) (fun r hr => ws_b (s_froze hC a1 1 h0 h1 (by decide) (by decide)) (fun s hs => ?_))
  have hr := hr.1 rfl
  have hs := hs.2 rfl
  exact ws_b (s_headOf n hn hC r s hr.1 hr.2 hs.1 hs.2) (fun _ _ => ws_b (s_froze hC a1 2 h0 h1 (by decide) (by decide)) (fun _ _ => ws_i (fun _ => ws_s trivial) (fun _ => ws_s trivial)))
theorem s_isWatcher (n : Nat) (a : Int32) : ws (f_X12_isWatcher n a) (fun r => bo r (0 ≤ a.toInt ∧ a.toInt ≤ 3)) := by
  unfold f_X12_isWatcher
  exact ws_b (s_isIn n a 0 3) (fun r hr => ws_z (bo_z hr) (ws_s hr))
theorem s_isThing (n : Nat) (σ : ms_T) (a b : Int32) : ws (f_X12_isThing n σ a b) (fun r => bo r (0 ≤ a.toInt ∧ a.toInt < b.toInt)) := by
  unfold f_X12_isThing
  have L := lits
  exact ws_lt (fun _ => ws_s (Or.inr ⟨rfl, by omega⟩)) (fun _ => ws_le (fun _ => ws_s (Or.inr ⟨rfl, by omega⟩)) (fun _ => ws_s (Or.inl ⟨rfl, by omega⟩)))
theorem s_noSize {n : Nat} {σ : ms_T} (hC : rC (ms_E σ 40)) (a1 a2 : Int32) : ws (f_X12_noSize n σ a1 a2) (fun r => r = 0 → 0 ≤ a1.toInt ∧ a1.toInt ≤ 3 ∧ 0 ≤ a2.toInt ∧ a2.toInt ≤ 48) := by
  unfold f_X12_noSize
  have L := lits
  have h4 := hC.1
  refine ws_le (fun _ => ws_bo (s_isRecord hC _) (fun _ => ws_s (fun h => absurd h (by decide))) (fun _ => ?_)) (fun _ => ws_s (fun h => absurd h (by decide)))
  refine ws_b (s_sizeOf hC a1 (by omega) (by omega)) (fun s hs => ws_le (fun _ => ws_s (fun _ => by omega)) (fun _ => ws_s (fun h => absurd h (by decide))))
theorem s_noEntry {n : Nat} {σ : ms_T} (hC : rC (ms_E σ 40)) (a1 a2 a3 : Int32) : ws (f_X12_noEntry n σ a1 a2 a3) (fun r => r = 0 → 0 ≤ a1.toInt ∧ a1.toInt ≤ 3 ∧ 0 ≤ a2.toInt ∧ a2.toInt < a3.toInt ∧ a3.toInt ≤ 48) := by
  unfold f_X12_noEntry f_X12_noEntry_J8 f_X12_noEntry_J38
  have L := lits
  have h4 := hC.1
  refine ws_lt (fun _ => ws_s (fun h => absurd h (by decide))) (fun _ => ws_le (fun _ => ws_bo (s_isRecord hC _) (fun _ => ws_s (fun h => absurd h (by decide))) (fun _ => ?_)) (fun _ => ws_s (fun h => absurd h (by decide))))
  refine ws_b (s_sizeOf hC a1 (by omega) (by omega)) (fun s hs => ws_lt (fun _ => ws_s (fun h => absurd h (by decide))) (fun _ => ws_lt (fun _ => ws_s (fun _ => by omega)) (fun _ => ws_s (fun h => absurd h (by decide)))))
theorem s_isHead (n : Nat) (hn : 70000 ≤ n) {σ : ms_T} (hC : rC (ms_E σ 40)) (a1 a2 a3 : Int32) (h0 : 0 ≤ a1.toInt) (h1 : a1.toInt ≤ 3) (h2 : 0 ≤ a2.toInt) : ws (f_X12_isHead n σ a1 a2 a3) (fun _ => True) := by
  unfold f_X12_isHead
  exact ws_b (s_sizeOf hC a1 h0 h1) (fun s hs => ws_lt (fun _ => ws_s trivial) (fun _ => ws_b (s_headOf n hn hC a1 a2 h0 h1 h2 (by omega)) (fun _ _ => ws_i (fun _ => ws_s trivial) (fun _ => ws_s trivial))))
theorem s_isAgreed_L (n : Nat) (hn : 70000 ≤ n) {σ : ms_T} (hC : rC (ms_E σ 40)) (a1 a2 : Int32) (h0 : 0 ≤ a1.toInt) (h1 : a1.toInt ≤ 3) (h2 : 0 ≤ a2.toInt) (h3 : a2.toInt ≤ 3) : ∀ (k : Nat) (v : Int32), 0 ≤ v.toInt → v.toInt ≤ 4 → 5 - v.toInt ≤ (k : Int) → ws (f_X12_isAgreed_L2 n σ k a1 a2 v) (fun _ => True) := by
  intro k
  induction k with
  | zero => intro v g0 g1 g2; omega
  | succ k ih =>
    intro v g0 g1 g2
    rw [f_X12_isAgreed_L2.eq_2]
    have h4 := hC.1
    have hJ : v.toInt < 4 → ws (f_X12_isAgreed_J54 n σ (f_X12_isAgreed_L2 n σ k) a1 a2 v) (fun _ => True) := by
      intro hv
      unfold f_X12_isAgreed_J54
      exact ws_l (ih (v + 1) (by (try simp only [iw_add, iw_sub, iw_mul, t_m1, lt0, lt1, t_2, t_3, t_4, t_5, t_6, t_8, t_9, t_10, t_16, t_20, t_24, t_26, t_30, t_31, t_48, t_64, t_72, t_76, t_92, t_101, t_252, t_444, t_512, t_900, t_1980, t_65521, t_99999, t_mil]) <;> omega) (by (try simp only [iw_add, iw_sub, iw_mul, t_m1, lt0, lt1, t_2, t_3, t_4, t_5, t_6, t_8, t_9, t_10, t_16, t_20, t_24, t_26, t_30, t_31, t_48, t_64, t_72, t_76, t_92, t_101, t_252, t_444, t_512, t_900, t_1980, t_65521, t_99999, t_mil]) <;> omega) (by (try simp only [iw_add, iw_sub, iw_mul, t_m1, lt0, lt1, t_2, t_3, t_4, t_5, t_6, t_8, t_9, t_10, t_16, t_20, t_24, t_26, t_30, t_31, t_48, t_64, t_72, t_76, t_92, t_101, t_252, t_444, t_512, t_900, t_1980, t_65521, t_99999, t_mil]) <;> omega))
    refine ws_g (by decide) (by decide) ?_
    rw [c0]
    refine ws_le (fun _ => ws_s trivial) (fun _ => ?_)
    refine ws_b (s_trust hC a1 0 h0 h1 (by decide) (by decide)) (fun r hr => ws_b (s_trust hC a1 1 h0 h1 (by decide) (by decide)) (fun r1 _ => ?_))
    refine ws_b (s_isHead n hn hC v r r1 g0 (by omega) (hr rfl).1) (fun _ _ => ws_i (fun _ => hJ (by omega)) (fun _ => ?_))
    refine ws_b (s_trust hC a2 0 h2 h3 (by decide) (by decide)) (fun s hs => ws_b (s_trust hC a2 1 h2 h3 (by decide) (by decide)) (fun s1 _ => ?_))
    exact ws_b (s_isHead n hn hC v s s1 g0 (by omega) (hs rfl).1) (fun _ _ => ws_i (fun _ => hJ (by omega)) (fun _ => ws_s trivial))
theorem s_isAgreed (n : Nat) (hn : 70000 ≤ n) {σ : ms_T} (hC : rC (ms_E σ 40)) (a1 a2 : Int32) (h0 : 0 ≤ a1.toInt) (h1 : a1.toInt ≤ 3) (h2 : 0 ≤ a2.toInt) (h3 : a2.toInt ≤ 3) : ws (f_X12_isAgreed n σ a1 a2) (fun _ => True) := by
  unfold f_X12_isAgreed
  exact s_isAgreed_L n hn hC a1 a2 h0 h1 h2 h3 n 0 (by decide) (by decide) (by rw [lt0]; omega)
theorem s_isTyped_L (n : Nat) {σ : ms_T} (hR : RI σ) (q : Int32) (h0 : 0 ≤ q.toInt) (h1 : q.toInt ≤ 191) : ∀ (k : Nat) (v : Int32), 0 ≤ v.toInt → v.toInt ≤ 8 → 9 - v.toInt ≤ (k : Int) → ws (f_X12_isTyped_L21 n σ k q v) (fun _ => True) := by
  intro k
  induction k with
  | zero => intro v g0 g1 g2; omega
  | succ k ih =>
    intro v g0 g1 g2
    rw [f_X12_isTyped_L21.eq_2]
    have h8 := hR.1.1
    refine ws_le (fun _ => ws_s trivial) (fun _ => ws_g (by (try simp only [iw_add, iw_sub, iw_mul, t_m1, lt0, lt1, t_2, t_3, t_4, t_5, t_6, t_8, t_9, t_10, t_16, t_20, t_24, t_26, t_30, t_31, t_48, t_64, t_72, t_76, t_92, t_101, t_252, t_444, t_512, t_900, t_1980, t_65521, t_99999, t_mil]) <;> omega) (by (try simp only [iw_add, iw_sub, iw_mul, t_m1, lt0, lt1, t_2, t_3, t_4, t_5, t_6, t_8, t_9, t_10, t_16, t_20, t_24, t_26, t_30, t_31, t_48, t_64, t_72, t_76, t_92, t_101, t_252, t_444, t_512, t_900, t_1980, t_65521, t_99999, t_mil]) <;> omega) (ws_g (by omega) (by omega) (ws_i (fun _ => ws_l ?_) (fun _ => ws_s trivial))))
    exact ih (v + 1) (by (try simp only [iw_add, iw_sub, iw_mul, t_m1, lt0, lt1, t_2, t_3, t_4, t_5, t_6, t_8, t_9, t_10, t_16, t_20, t_24, t_26, t_30, t_31, t_48, t_64, t_72, t_76, t_92, t_101, t_252, t_444, t_512, t_900, t_1980, t_65521, t_99999, t_mil]) <;> omega) (by (try simp only [iw_add, iw_sub, iw_mul, t_m1, lt0, lt1, t_2, t_3, t_4, t_5, t_6, t_8, t_9, t_10, t_16, t_20, t_24, t_26, t_30, t_31, t_48, t_64, t_72, t_76, t_92, t_101, t_252, t_444, t_512, t_900, t_1980, t_65521, t_99999, t_mil]) <;> omega) (by (try simp only [iw_add, iw_sub, iw_mul, t_m1, lt0, lt1, t_2, t_3, t_4, t_5, t_6, t_8, t_9, t_10, t_16, t_20, t_24, t_26, t_30, t_31, t_48, t_64, t_72, t_76, t_92, t_101, t_252, t_444, t_512, t_900, t_1980, t_65521, t_99999, t_mil]) <;> omega)
theorem s_isTyped (n : Nat) (hn : 70000 ≤ n) {σ : ms_T} (hR : RI σ) (q : Int32) (h0 : 0 ≤ q.toInt) (h1 : q.toInt ≤ 191) : ws (f_X12_isTyped n σ q) (fun _ => True) := by
  unfold f_X12_isTyped
  exact ws_g (by (try simp only [iw_add, iw_sub, iw_mul, t_m1, lt0, lt1, t_2, t_3, t_4, t_5, t_6, t_8, t_9, t_10, t_16, t_20, t_24, t_26, t_30, t_31, t_48, t_64, t_72, t_76, t_92, t_101, t_252, t_444, t_512, t_900, t_1980, t_65521, t_99999, t_mil]) <;> omega) (by (try simp only [iw_add, iw_sub, iw_mul, t_m1, lt0, lt1, t_2, t_3, t_4, t_5, t_6, t_8, t_9, t_10, t_16, t_20, t_24, t_26, t_30, t_31, t_48, t_64, t_72, t_76, t_92, t_101, t_252, t_444, t_512, t_900, t_1980, t_65521, t_99999, t_mil]) <;> omega) (ws_i (fun _ => s_isTyped_L n hR q h0 h1 n 0 (by decide) (by decide) (by rw [lt0]; omega)) (fun _ => ws_s trivial))
end JN6_4
