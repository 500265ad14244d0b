/-! ===== the reference's pure functions: they come to something; ranges stay ===== -/
theorem lt0 : (0 : Int32).toInt = 0 := rfl
theorem lt1 : (1 : Int32).toInt = 1 := rfl
theorem c0 : (0 : Int32).toNatClampNeg = 0 := rfl
theorem c1 : (1 : Int32).toNatClampNeg = 1 := rfl
theorem c2 : (2 : Int32).toNatClampNeg = 2 := rfl
theorem c3 : (3 : Int32).toNatClampNeg = 3 := rfl
theorem c4 : (4 : Int32).toNatClampNeg = 4 := rfl
theorem cl_n {i : Int32} {k : Nat} (h : i.toInt = (k : Int)) : i.toNatClampNeg = k := by
  have := ic_clamp (i := i) (by omega)
  omega
/-- what a function may change -/
def fr (wI wE : List Nat) (σ τ : ms_T) : Prop := (∀ φ, φ ∉ wI → ms_I τ φ = ms_I σ φ) ∧ ∀ κ, κ ∉ wE → ∀ j, ms_E τ κ j = ms_E σ κ j
theorem fr_rf {wI wE : List Nat} {σ : ms_T} : fr wI wE σ σ := ⟨fun _ _ => rfl, fun _ _ _ => rfl⟩
theorem fr_tr {wI wE : List Nat} {σ τ υ : ms_T} (h : fr wI wE σ τ) (g : fr wI wE τ υ) : fr wI wE σ υ := ⟨fun φ hφ => (g.1 φ hφ).trans (h.1 φ hφ), fun κ hκ j => (g.2 κ hκ j).trans (h.2 κ hκ j)⟩
theorem fr_sb {vI vE wI wE : List Nat} {σ τ : ms_T} (h : fr vI vE σ τ) (h1 : ∀ x ∈ vI, x ∈ wI) (h2 : ∀ x ∈ vE, x ∈ wE) : fr wI wE σ τ := ⟨fun φ hφ => h.1 φ (fun q => hφ (h1 _ q)), fun κ hκ => h.2 κ (fun q => hκ (h2 _ q))⟩
theorem fr_sI {wI wE : List Nat} {σ : ms_T} {φ : Nat} {v : Int32} (h : φ ∈ wI) : fr wI wE σ (ms_sI σ φ v) := ⟨fun ψ hψ => by rw [mI_sI, if_neg (fun e => hψ (by rw [e]; exact h))], fun _ _ _ => rfl⟩
theorem fr_sE {wI wE : List Nat} {σ : ms_T} {κ j : Nat} {v : Int32} (h : κ ∈ wE) : fr wI wE σ (ms_sE σ κ j v) := ⟨fun _ _ => rfl, fun ψ hψ i => by rw [mE_sE, if_neg (fun e => hψ (by rw [e.1]; exact h))]⟩
theorem fr_sJ {wI wE : List Nat} {σ : ms_T} {v : Int64} : fr wI wE σ (ms_sJ σ v) := ⟨fun _ _ => rfl, fun _ _ _ => rfl⟩
/-- of what does not touch the cells, nor what stays between calls -/
def fk (wI wE : List Nat) : Bool := !(wI.contains 664) && !(wI.contains 667) && !(wI.contains 682) && !(wI.contains 697) && !(wE.contains 40)
theorem RI_fr {wI wE : List Nat} {σ τ : ms_T} (h : RI σ) (f : fr wI wE σ τ) (k : fk wI wE = true) : RI τ := by
  simp only [fk, Bool.and_eq_true] at k
  obtain ⟨⟨⟨⟨k1, k2⟩, k3⟩, k4⟩, k5⟩ := k
  have e1 := f.1 664 (by simpa using k1)
  have e2 := f.1 667 (by simpa using k2)
  have e3 := f.1 682 (by simpa using k3)
  have e4 := f.1 697 (by simpa using k4)
  have e5 : ms_E τ 40 = ms_E σ 40 := funext (f.2 40 (by simpa using k5))
  unfold RI rI
  rw [e1, e2, e3, e4, e5]
  exact h
theorem rC_fr {wI wE : List Nat} {σ τ : ms_T} (h : rC (ms_E σ 40)) (f : fr wI wE σ τ) (k : 40 ∉ wE) : rC (ms_E τ 40) := by
  rw [show ms_E τ 40 = ms_E σ 40 from funext (f.2 40 k)]
  exact h
/-- a thing that is 1 where something holds and 0 where not -/
def bo (r : Int32) (P : Prop) : Prop := (r = 1 ∧ P) ∨ (r = 0 ∧ ¬ P)
theorem s_isIn (n : Nat) (a b c : Int32) : ws (f_X12_isIn n a b c) (fun r => bo r (b.toInt ≤ a.toInt ∧ a.toInt ≤ c.toInt)) := by
  unfold f_X12_isIn
  refine ws_lt (fun h => ws_s (Or.inr ⟨rfl, by omega⟩)) (fun h => ws_lt (fun g => ws_s (Or.inr ⟨rfl, by omega⟩)) (fun g => ws_s (Or.inl ⟨rfl, by omega⟩)))
theorem bo_z {r : Int32} {P : Prop} (h : bo r P) : r = 0 ∨ r = 1 := by
  rcases h with h | h
  · exact Or.inr h.1
  · exact Or.inl h.1
theorem bo_0 {r : Int32} {P : Prop} (h : bo r P) (e : r = 0) : ¬ P := by
  rcases h with h | h
  · rw [h.1] at e; exact absurd e (by decide)
  · exact h.2
theorem bo_1 {r : Int32} {P : Prop} (h : bo r P) (e : ¬ r.toInt = (0 : Int32).toInt) : P := by
  rcases h with h | h
  · exact h.2
  · exact absurd (by rw [h.1]) e
section P1
variable {n : Nat} {σ : ms_T}
theorem s_isRecord (hC : rC (ms_E σ 40)) (a : Int32) : ws (f_X12_isRecord n σ a) (fun r => bo r (0 ≤ a.toInt ∧ a.toInt < (ms_E σ 40 0).toInt)) := by
  unfold f_X12_isRecord
  rw [c0]
  have h1 := hC.1
  have e : (ms_E σ 40 0 - 1).toInt = (ms_E σ 40 0).toInt - 1 := by rw [ii_sub (by rw [lt1]; omega) (by rw [lt1]; omega), lt1]
  refine ws_g (by decide) (by decide) (ws_b (s_isIn n _ _ _) (fun r hr => ws_z (bo_z hr) (ws_s ?_)))
  rw [lt0, e] at hr
  rcases hr with h | h
  · exact Or.inl ⟨h.1, by omega⟩
  · exact Or.inr ⟨h.1, by omega⟩
theorem s_sizeOf (hC : rC (ms_E σ 40)) (a : Int32) (h0 : 0 ≤ a.toInt) (h1 : a.toInt ≤ 3) : ws (f_X12_sizeOf n σ a) (fun r => r = ms_E σ 40 (72 + a.toInt.toNat) ∧ 0 ≤ r.toInt ∧ r.toInt ≤ 48) := by
  unfold f_X12_sizeOf
  have l72 : (72 : Int32).toInt = 72 := by decide
  have e : ((72 : Int32) + a).toInt = 72 + a.toInt := by rw [ii_add (by omega) (by omega), l72]
  have ec : ((72 : Int32) + a).toNatClampNeg = 72 + a.toInt.toNat := cl_n (by omega)
  have hr := hC.2.2.2.2.1 a.toInt.toNat (by omega)
  refine ws_g (by omega) (by omega) (ws_s ?_)
  rw [ec]
  exact ⟨rfl, hr.1, hr.2⟩
theorem s_isMark (hC : rC (ms_E σ 40)) (a : Int32) : ws (f_X12_isMark n σ a) (fun r => bo r (0 ≤ a.toInt ∧ a.toInt < (ms_E σ 40 1).toInt)) := by
  unfold f_X12_isMark
  rw [c1]
  have h1 := hC.2.1
  have e : (ms_E σ 40 1 - 1).toInt = (ms_E σ 40 1).toInt - 1 := by rw [ii_sub (by rw [lt1]; omega) (by rw [lt1]; omega), lt1]
  refine ws_g (by decide) (by decide) (ws_b (s_isIn n _ _ _) (fun r hr => ws_z (bo_z hr) (ws_s ?_)))
  rw [lt0, e] at hr
  rcases hr with h | h
  · exact Or.inl ⟨h.1, by omega⟩
  · exact Or.inr ⟨h.1, by omega⟩
theorem s_mixed (hC : rC (ms_E σ 40)) (a b : Int32) : ws (f_X12_mixed n σ a b) (fun _ => True) := by
  unfold f_X12_mixed
  rw [c1]
  have h1 := hC.2.1
  exact ws_g (by decide) (by decide) (ws_nl (li_nz rfl (by omega)) (ws_s trivial))
theorem s_both (hC : rC (ms_E σ 40)) (a b : Int32) : ws (f_X12_both n σ a b) (fun _ => True) := by
  unfold f_X12_both
  exact ws_b (s_mixed hC _ _) (fun _ _ => ws_b (s_mixed hC _ _) (fun _ _ => ws_s trivial))
theorem s_entryMark_L (hC : rC (ms_E σ 40)) : ∀ (k : Nat) (h q v : Int32), 0 ≤ q.toInt → q.toInt ≤ 191 → 0 ≤ v.toInt → 9 - v.toInt ≤ (k : Int) → v.toInt ≤ 8 → ws (f_X12_entryMark_L13 n σ k h q v) (fun _ => True) := by
  intro k
  induction k with
  | zero => intro h q v h0 h1 h2 h3 h4; omega
  | succ k ih =>
    intro h q v h0 h1 h2 h3 h4
    rw [f_X12_entryMark_L13.eq_2]
    have l252 : (252 : Int32).toInt = 252 := by decide
    have l444 : (444 : Int32).toInt = 444 := by decide
    have l8 : (8 : Int32).toInt = 8 := by decide
    have e1 : ((252 : Int32) + q).toInt = 252 + q.toInt := by rw [ii_add (by omega) (by omega), l252]
    have e2 : ((8 : Int32) * q).toInt = 8 * q.toInt := by rw [ii_mul (by rw [l8]; omega) (by rw [l8]; omega), l8]
    have e3 : ((444 : Int32) + 8 * q).toInt = 444 + 8 * q.toInt := by rw [ii_add (by omega) (by omega), l444, e2]
    have e4 : ((444 : Int32) + 8 * q + v).toInt = 444 + 8 * q.toInt + v.toInt := by rw [ii_add (by omega) (by omega), e3]
    have e5 : (v + 1).toInt = v.toInt + 1 := by rw [ii_add (by rw [lt1]; omega) (by rw [lt1]; omega), lt1]
    have hr := hC.2.2.2.2.2.2.2.2 q.toInt.toNat (by omega)
    have ec : ((252 : Int32) + q).toNatClampNeg = 252 + q.toInt.toNat := cl_n (by omega)
    refine ws_g (by omega) (by omega) ?_
    rw [ec]
    refine ws_le (fun c => ws_s trivial) (fun c => ?_)
    refine ws_g (by omega) (by omega) (ws_b (s_mixed hC _ _) (fun r _ => ws_l ?_))
    exact ih r q (v + 1) h0 h1 (by omega) (by omega) (by omega)
theorem s_entryMark (hn : 70000 ≤ n) (hC : rC (ms_E σ 40)) (r i : Int32) (h0 : 0 ≤ r.toInt) (h1 : r.toInt ≤ 3) (h2 : 0 ≤ i.toInt) (h3 : i.toInt ≤ 47) : ws (f_X12_entryMark n σ r i) (fun _ => True) := by
  unfold f_X12_entryMark
  have l48 : (48 : Int32).toInt = 48 := by decide
  have e1 : ((48 : Int32) * r).toInt = 48 * r.toInt := by rw [ii_mul (by rw [l48]; omega) (by rw [l48]; omega), l48]
  have e2 : ((48 : Int32) * r + i).toInt = 48 * r.toInt + i.toInt := by rw [ii_add (by omega) (by omega), e1]
  exact ws_l (s_entryMark_L hC n _ _ _ (by omega) (by omega) (by decide) (by rw [lt0]; omega) (by decide))
end P1
/-- a power of 2 -/
def p2 (j : Nat) : Int := ((2 ^ j : Nat) : Int)
theorem p2_s (j : Nat) : p2 (j + 1) = 2 * p2 j := by unfold p2; rw [Nat.pow_succ]; omega
theorem p2_p (j : Nat) : 1 ≤ p2 j := by
  have := Nat.one_le_two_pow (n := j)
  unfold p2; omega
theorem p2_m {i j : Nat} (h : i ≤ j) : p2 i ≤ p2 j := by
  have := Nat.pow_le_pow_right (n := 2) (by decide) h
  unfold p2; omega
theorem p2_31 : p2 31 = 2147483648 := by decide
theorem p2_lt {i j : Nat} (h : p2 i < p2 j) : i < j := by
  rcases Nat.lt_or_ge i j with q | q
  · exact q
  · have := p2_m q; omega
/-- the greatest power of 2 that is less -/
def pt (a p : Int32) (j : Nat) : Prop := p.toInt = p2 j ∧ p2 j < a.toInt ∧ a.toInt ≤ p2 (j + 1)
theorem s_part0_L (n : Nat) : ∀ (k : Nat) (a v : Int32) (j : Nat), 2 ≤ a.toInt → v.toInt = p2 j → p2 j < a.toInt → 32 - (j : Int) ≤ (k : Int) → ws (f_X12_part0_L2 n k a v) (fun p => ∃ i, pt a p i) := by
  intro k
  induction k with
  | zero =>
    intro a v j h0 h1 h2 h3
    have := p2_m (show 31 ≤ j by omega)
    have := p2_31
    have := ib_hi a
    omega
  | succ k ih =>
    intro a v j h0 h1 h2 h3
    rw [f_X12_part0_L2.eq_2]
    have b1 := ib_hi a
    have b2 := p2_p j
    have e1 : (a - v).toInt = a.toInt - v.toInt := ii_sub (by omega) (by omega)
    refine ws_le (fun c => ws_s ⟨j, h1, h2, ?_⟩) (fun c => ws_l ?_)
    · rw [p2_s]; omega
    · have e2 : (v + v).toInt = v.toInt + v.toInt := ii_add (by omega) (by omega)
      exact ih a (v + v) (j + 1) h0 (by rw [p2_s]; omega) (by rw [p2_s]; omega) (by omega)
theorem s_part0 (n : Nat) (hn : 70000 ≤ n) (a : Int32) (h : 2 ≤ a.toInt) : ws (f_X12_part0 n a) (fun p => ∃ i, pt a p i) := by
  unfold f_X12_part0
  exact s_part0_L n n a 1 0 h (by decide) (by have h00 : p2 0 = 1 := (by decide); omega) (by omega)
/-- of a tree of at most 2^(k+1) things the parts have at most 2^k -/
theorem pt_k {a p : Int32} {i k : Nat} (h : pt a p i) (hk : a.toInt ≤ p2 (k + 1)) : p.toInt ≤ p2 k ∧ a.toInt - p.toInt ≤ p2 k ∧ 1 ≤ p.toInt ∧ 1 ≤ a.toInt - p.toInt ∧ a.toInt - p.toInt ≤ p.toInt := by
  obtain ⟨h1, h2, h3⟩ := h
  have hi : i < k + 1 := p2_lt (by omega)
  have := p2_m (show i ≤ k by omega)
  have := p2_p i
  rw [p2_s] at h3
  omega
theorem ne1_2 {a : Int32} (h0 : 1 ≤ a.toInt) (h1 : ¬ a.toInt = (1 : Int32).toInt) : 2 ≤ a.toInt := by rw [lt1] at h1; omega
theorem s_treeMark (n : Nat) (hn : 70000 ≤ n) {σ : ms_T} (hC : rC (ms_E σ 40)) : ∀ (k d : Nat) (r f m : Int32), k < d → 0 ≤ r.toInt → r.toInt ≤ 3 → 0 ≤ f.toInt → 0 ≤ m.toInt → f.toInt + m.toInt ≤ 48 → m.toInt ≤ p2 k → ws (f_X12_treeMark n d σ r f m) (fun _ => True) := by
  intro k
  induction k with
  | zero =>
    intro d r f m hd h0 h1 h2 h3 h4 h5
    have : p2 0 = 1 := by decide
    obtain ⟨d, rfl⟩ : ∃ d', d = d' + 1 := ⟨d - 1, by omega⟩
    rw [f_X12_treeMark.eq_2]
    refine ws_e (fun c => ws_s trivial) (fun c => ws_e (fun g => ?_) (fun g => ?_))
    · have gm := il_eq g
      rw [lt1] at gm
      exact ws_b (s_entryMark hn hC _ _ h0 h1 h2 (by omega)) (fun _ _ => ws_s trivial)
    · rw [lt0] at c; rw [lt1] at g; omega
  | succ k ih =>
    intro d r f m hd h0 h1 h2 h3 h4 h5
    obtain ⟨d, rfl⟩ : ∃ d', d = d' + 1 := ⟨d - 1, by omega⟩
    rw [f_X12_treeMark.eq_2]
    refine ws_e (fun c => ws_s trivial) (fun c => ws_e (fun g => ?_) (fun g => ?_))
    · have gm := il_eq g
      rw [lt1] at gm
      exact ws_b (s_entryMark hn hC _ _ h0 h1 h2 (by omega)) (fun _ _ => ws_s trivial)
    · rw [lt0] at c
      have h2m := ne1_2 (a := m) (by omega) g
      refine ws_b (s_part0 n hn m h2m) (fun p hp => ?_)
      obtain ⟨i, hp⟩ := hp
      obtain ⟨q1, q2, q3, q4, q5⟩ := pt_k hp h5
      have e1 : (f + p).toInt = f.toInt + p.toInt := ii_add (by omega) (by omega)
      have e2 : (m - p).toInt = m.toInt - p.toInt := ii_sub (by omega) (by omega)
      refine ws_b (ih d r f p (by omega) h0 h1 h2 (by omega) (by omega) q1) (fun _ _ => ws_b (ih d r (f + p) (m - p) (by omega) h0 h1 (by omega) (by omega) (by omega) (by omega)) (fun _ _ => ws_b (s_both hC _ _) (fun _ _ => ws_s trivial)))
theorem s_tree0 (n : Nat) (hn : 70000 ≤ n) {σ : ms_T} (hC : rC (ms_E σ 40)) (r f m : Int32) (h0 : 0 ≤ r.toInt) (h1 : r.toInt ≤ 3) (h2 : 0 ≤ f.toInt) (h3 : 0 ≤ m.toInt) (h4 : f.toInt + m.toInt ≤ 48) : ws (f_X12_treeMark n 40 σ r f m) (fun _ => True) :=
  s_treeMark n hn hC 6 40 r f m (by omega) h0 h1 h2 h3 h4 (by have h06 : p2 6 = 64 := (by decide); omega)
theorem s_headOf (n : Nat) (hn : 70000 ≤ n) {σ : ms_T} (hC : rC (ms_E σ 40)) (r m : Int32) (h0 : 0 ≤ r.toInt) (h1 : r.toInt ≤ 3) (h3 : 0 ≤ m.toInt) (h4 : m.toInt ≤ 48) : ws (f_X12_headOf n σ r m) (fun _ => True) := by
  unfold f_X12_headOf
  exact ws_b (s_tree0 n hn hC r 0 m h0 h1 (by decide) h3 (by rw [lt0]; omega)) (fun _ _ => ws_s trivial)
/-! ways -/
def wg (B : Int) (σ : ms_T) (w : Nat) : Prop := ∀ q, q < w → 0 ≤ (ms_E σ 42 q).toInt ∧ 0 ≤ (ms_E σ 43 q).toInt ∧ (ms_E σ 42 q).toInt + (ms_E σ 43 q).toInt ≤ B
/-- a way of w trees within B things -/
def wy (B : Int) (σ τ : ms_T) (w : Nat) : Prop := fr [657] [42, 43] σ τ ∧ (ms_I τ 657).toInt = (w : Int) ∧ wg B τ w
theorem s_asks (n : Nat) {B : Int} {σ σ0 : ms_T} {w : Nat} (h : wy B σ0 σ w) (hw : w < 128) (a b : Int32) (h0 : 0 ≤ a.toInt) (h1 : 0 ≤ b.toInt) (h2 : a.toInt + b.toInt ≤ B) : ws (f_X12_asks n σ a b) (fun τ => wy B σ0 τ (w + 1)) := by
  obtain ⟨hf, hi, hg⟩ := h
  unfold f_X12_asks
  have ec : (ms_I σ 657).toNatClampNeg = w := cl_n hi
  have e1 : (ms_I σ 657 + 1).toInt = (w : Int) + 1 := by rw [ii_add (by rw [lt1]; omega) (by rw [lt1]; omega), lt1, hi]
  refine ws_g (by omega) (by omega) (ws_l (ws_g (by rw [mI_sE]; omega) (by rw [mI_sE]; omega) (ws_l (ws_l (ws_s ?_)))))
  refine ⟨fr_tr hf (fr_tr (fr_sE (by decide)) (fr_tr (fr_sE (by decide)) (fr_sI (by decide)))), ?_, fun q hq => ?_⟩
  · rw [mI_sI, if_pos rfl, mI_sE, mI_sE, e1]; omega
  · rw [mE_sI, mE_sI, mI_sE, ec, mE_sE, mE_sE, mE_sE, mE_sE]
    by_cases e : q = w
    · subst e
      rw [if_neg (fun x => absurd x.1 (by decide)), if_pos ⟨rfl, rfl⟩, if_pos ⟨rfl, rfl⟩]
      exact ⟨h0, h1, h2⟩
    · rw [if_neg (fun x => absurd x.1 (by decide)), if_neg (fun x => e x.2), if_neg (fun x => e x.2), if_neg (fun x => absurd x.1 (by decide))]
      exact hg q (by omega)
theorem s_waysIn (n : Nat) (hn : 70000 ≤ n) {B : Int} (hB : B ≤ 2147483647) : ∀ (k d w : Nat) (σ0 σ : ms_T) (f i m : Int32), k < d → wy B σ0 σ w → w + k ≤ 128 → 0 ≤ f.toInt → 0 ≤ i.toInt → i.toInt < m.toInt → f.toInt + m.toInt ≤ B → m.toInt ≤ p2 k → ws (f_X12_waysIn n d σ f i m) (fun τ => ∃ w', wy B σ0 τ w' ∧ w' ≤ w + k) := by
  intro k
  induction k with
  | zero =>
    intro d w σ0 σ f i m hd hw hk h0 h1 h2 h3 h4
    have : p2 0 = 1 := by decide
    obtain ⟨d, rfl⟩ : ∃ d', d = d' + 1 := ⟨d - 1, by omega⟩
    rw [f_X12_waysIn.eq_2]
    refine ws_e (fun c => ws_s ⟨w, hw, by omega⟩) (fun c => ?_)
    rw [lt1] at c
    omega
  | succ k ih =>
    intro d w σ0 σ f i m hd hw hk h0 h1 h2 h3 h4
    obtain ⟨d, rfl⟩ : ∃ d', d = d' + 1 := ⟨d - 1, by omega⟩
    rw [f_X12_waysIn.eq_2]
    refine ws_e (fun c => ws_s ⟨w, hw, by omega⟩) (fun c => ?_)
    have h2m := ne1_2 (a := m) (by omega) c
    refine ws_b (s_part0 n hn m h2m) (fun p hp => ?_)
    obtain ⟨j, hp⟩ := hp
    obtain ⟨q1, q2, q3, q4, q5⟩ := pt_k hp h4
    have e1 : (f + p).toInt = f.toInt + p.toInt := ii_add (by omega) (by omega)
    have e2 : (m - p).toInt = m.toInt - p.toInt := ii_sub (by omega) (by omega)
    refine ws_le (fun c => ?_) (fun c => ?_)
    · have e3 : (i - p).toInt = i.toInt - p.toInt := ii_sub (by omega) (by omega)
      refine ws_b (ih d w σ0 σ (f + p) (i - p) (m - p) (by omega) hw (by omega) (by omega) (by omega) (by omega) (by omega) (by omega)) (fun τ hτ => ?_)
      obtain ⟨w', hw', hl⟩ := hτ
      exact ws_b (s_asks n hw' (by omega) f p h0 (by omega) (by omega)) (fun υ hυ => ws_s ⟨w' + 1, hυ, by omega⟩)
    · refine ws_b (ih d w σ0 σ f i p (by omega) hw (by omega) h0 h1 c (by omega) q1) (fun τ hτ => ?_)
      obtain ⟨w', hw', hl⟩ := hτ
      exact ws_b (s_asks n hw' (by omega) (f + p) (m - p) (by omega) (by omega) (by omega)) (fun υ hυ => ws_s ⟨w' + 1, hυ, by omega⟩)
theorem wy_0 {B : Int} {σ : ms_T} : wy B σ (ms_sI σ 657 0) 0 := ⟨fr_sI (by decide), by rw [mI_sI, if_pos rfl]; rfl, fun q h => absurd h (Nat.not_lt_zero q)⟩
theorem s_inclusion (n : Nat) (hn : 70000 ≤ n) (σ : ms_T) (i m : Int32) (h0 : 0 ≤ i.toInt) (h1 : i.toInt < m.toInt) : ws (f_X12_inclusion n σ i m) (fun τ => ∃ w, wy m.toInt σ τ w ∧ w ≤ 31) := by
  unfold f_X12_inclusion
  have b := ib_hi m
  refine ws_l (ws_b (s_waysIn n hn b 31 40 0 σ _ 0 i m (by omega) wy_0 (by omega) (by decide) h0 h1 (by rw [lt0]; omega) (by rw [p2_31]; omega)) (fun τ hτ => ?_))
  obtain ⟨w, hw, hl⟩ := hτ
  exact ws_s ⟨w, hw, by omega⟩
theorem s_growsIn (n : Nat) (hn : 70000 ≤ n) {B : Int} (hB : B ≤ 2147483647) : ∀ (k d w : Nat) (σ0 σ : ms_T) (f i m z : Int32), k < d → wy B σ0 σ w → w + k + 1 ≤ 128 → 0 ≤ f.toInt → 1 ≤ i.toInt → i.toInt ≤ m.toInt → f.toInt + m.toInt ≤ B → m.toInt ≤ p2 k → ws (f_X12_growsIn n d σ f i m z) (fun τ => ∃ w', wy B σ0 τ w' ∧ w' ≤ w + k + 1) := by
  intro k
  induction k with
  | zero =>
    intro d w σ0 σ f i m z hd hw hk h0 h1 h2 h3 h4
    have : p2 0 = 1 := by decide
    obtain ⟨d, rfl⟩ : ∃ d', d = d' + 1 := ⟨d - 1, by omega⟩
    rw [f_X12_growsIn.eq_2]
    refine ws_e (fun c => ws_e (fun g => ?_) (fun g => ws_s ⟨w, hw, by omega⟩)) (fun c => ?_)
    · exact ws_b (s_asks n hw (by omega) f m h0 (by omega) (by omega)) (fun υ hυ => ws_s ⟨w + 1, hυ, by omega⟩)
    · omega
  | succ k ih =>
    intro d w σ0 σ f i m z hd hw hk h0 h1 h2 h3 h4
    obtain ⟨d, rfl⟩ : ∃ d', d = d' + 1 := ⟨d - 1, by omega⟩
    rw [f_X12_growsIn.eq_2]
    refine ws_e (fun c => ws_e (fun g => ?_) (fun g => ws_s ⟨w, hw, by omega⟩)) (fun c => ?_)
    · exact ws_b (s_asks n hw (by omega) f m h0 (by omega) (by omega)) (fun υ hυ => ws_s ⟨w + 1, hυ, by omega⟩)
    · refine ws_b (s_part0 n hn m (by omega)) (fun p hp => ?_)
      obtain ⟨j, hp⟩ := hp
      obtain ⟨q1, q2, q3, q4, q5⟩ := pt_k hp h4
      have e1 : (f + p).toInt = f.toInt + p.toInt := ii_add (by omega) (by omega)
      have e2 : (m - p).toInt = m.toInt - p.toInt := ii_sub (by omega) (by omega)
      refine ws_lt (fun c => ?_) (fun c => ?_)
      · have e3 : (i - p).toInt = i.toInt - p.toInt := ii_sub (by omega) (by omega)
        refine ws_b (ih d w σ0 σ (f + p) (i - p) (m - p) 0 (by omega) hw (by omega) (by omega) (by omega) (by omega) (by omega) (by omega)) (fun τ hτ => ?_)
        obtain ⟨w', hw', hl⟩ := hτ
        exact ws_b (s_asks n hw' (by omega) f p h0 (by omega) (by omega)) (fun υ hυ => ws_s ⟨w' + 1, hυ, by omega⟩)
      · refine ws_b (ih d w σ0 σ f i p z (by omega) hw (by omega) h0 h1 (by omega) (by omega) q1) (fun τ hτ => ?_)
        obtain ⟨w', hw', hl⟩ := hτ
        exact ws_b (s_asks n hw' (by omega) (f + p) (m - p) (by omega) (by omega) (by omega)) (fun υ hυ => ws_s ⟨w' + 1, hυ, by omega⟩)
theorem s_growth0 (n : Nat) (hn : 70000 ≤ n) (σ : ms_T) (i m : Int32) : ws (f_X12_growth n σ i m) (fun τ => ∃ w, wy m.toInt σ τ w ∧ w ≤ 32) := by
  unfold f_X12_growth
  have b := ib_hi m
  refine ws_l (ws_le (fun c => ws_s ⟨0, wy_0, by omega⟩) (fun c => ws_le (fun g => ws_s ⟨0, wy_0, by omega⟩) (fun g => ?_)))
  rw [lt0] at c
  refine ws_b (s_growsIn n hn b 31 40 0 σ _ 0 i m 1 (by omega) wy_0 (by omega) (by decide) (by omega) (by omega) (by rw [lt0]; omega) (by rw [p2_31]; omega)) (fun τ hτ => ?_)
  obtain ⟨w, hw, hl⟩ := hτ
  exact ws_s ⟨w, hw, by omega⟩
