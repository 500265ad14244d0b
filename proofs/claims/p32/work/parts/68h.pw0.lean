def p0 (m : Nat) : Nat := 2 ^ Nat.log2 (m - 1)
theorem p0_lt {m : Nat} (h : 2 ≤ m) : p0 m < m := by
  have := Nat.log2_self_le (n := m - 1) (by omega)
  unfold p0; omega
theorem p0_le {m : Nat} : m ≤ 2 * p0 m := by
  have := Nat.lt_log2_self (n := m - 1)
  unfold p0; rw [Nat.pow_succ] at this; omega
theorem p0_pos (m : Nat) : 1 ≤ p0 m := Nat.one_le_two_pow
theorem p0_un {m e : Nat} (h1 : 2 ^ e < m) (h2 : m ≤ 2 * 2 ^ e) : p0 m = 2 ^ e := by
  unfold p0
  have h3 := Nat.log2_self_le (n := m - 1) (by omega)
  have h4 := Nat.lt_log2_self (n := m - 1)
  have h5 : ¬ Nat.log2 (m - 1) < e := fun h => by
    have : 2 ^ (Nat.log2 (m - 1) + 1) ≤ 2 ^ e := Nat.pow_le_pow_right (by decide) h
    omega
  have h6 : ¬ e < Nat.log2 (m - 1) := fun h => by
    have : 2 ^ (e + 1) ≤ 2 ^ Nat.log2 (m - 1) := Nat.pow_le_pow_right (by decide) h
    rw [Nat.pow_succ] at this
    omega
  rw [show Nat.log2 (m - 1) = e by omega]
theorem p0_dn {m e : Nat} (h : 2 ≤ m) (h2 : m ≤ 2 ^ (e + 1)) : p0 m ≤ 2 ^ e := by
  have h3 := p0_lt h
  unfold p0 at *
  apply Nat.pow_le_pow_right (by decide)
  have h6 : ¬ e < Nat.log2 (m - 1) := fun h => by
    have : 2 ^ (e + 1) ≤ 2 ^ Nat.log2 (m - 1) := Nat.pow_le_pow_right (by decide) h
    omega
  omega
def Lz (x : Nat) (C r : Int) : Prop := ∃ e : Nat, r = C - e ∧ 2 ^ e ≤ x ∧ x < 2 * 2 ^ e
theorem Lz_1 {x : Nat} {C r : Int} (h0 : 1 ≤ x) (h1 : x < 4) (hr : r = C - (x / 2 : Nat)) : Lz x C r := by
  refine ⟨x / 2, hr, ?_⟩
  have : x = 1 ∨ x = 2 ∨ x = 3 := by omega
  rcases this with rfl | rfl | rfl <;> decide
theorem Lz_s {x d s : Nat} {C r : Int} (hd : d = 2 ^ s) (h : Lz (x / d) (C - s) r) : Lz x C r := by
  obtain ⟨e, h1, h2, h3⟩ := h
  subst hd
  have hp : 0 < 2 ^ s := Nat.two_pow_pos s
  refine ⟨e + s, by omega, ?_, ?_⟩
  · rw [Nat.pow_add]; exact (Nat.le_div_iff_mul_le hp).mp h2
  · rw [Nat.pow_add]
    have := (Nat.div_lt_iff_lt_mul hp).mp h3
    rw [Nat.mul_assoc] at this; exact this
theorem and_hb {a e : Nat} (h1 : 2 ^ e ≤ a) (h2 : a < 2 * 2 ^ e) : a &&& 2 ^ e = 2 ^ e := by
  have h3 : a / 2 ^ e = 1 := Nat.div_eq_of_lt_le (by omega) (by omega)
  have t : a.testBit e = true := by rw [Nat.testBit_eq_decide_div_mod_eq, h3]; decide
  apply Nat.eq_of_testBit_eq
  intro i
  rw [Nat.testBit_and, Nat.testBit_two_pow]
  by_cases hi : e = i
  · subst hi; simp [t]
  · simp [hi]
theorem hb_sh : ∀ j : Nat, j < 31 → (((-2147483648 : Int32)).toUInt32 >>> ((Int32.ofNat (31 - j)).toUInt32 &&& Int32.toUInt32 31)).toInt32.toBitVec.toNat = 2 ^ j := by decide
def wyT : Nat → Nat → Nat → Nat → List (Nat × Nat × Bool)
  | 0, _, _, _ => []
  | d + 1, i, f, m => if m ≤ 1 then [] else if i < p0 m then (f + p0 m, m - p0 m, false) :: wyT d i f (p0 m) else (f, p0 m, true) :: wyT d (i - p0 m) (f + p0 m) (m - p0 m)
theorem wyT_len : ∀ (d i f m : Nat), (wyT d i f m).length ≤ d := by
  intro d
  induction d with
  | zero => intro i f m; exact Nat.le_refl _
  | succ d ih =>
    intro i f m
    rw [wyT]
    split
    · exact Nat.zero_le _
    · split
      · exact Nat.succ_le_succ (ih _ _ _)
      · exact Nat.succ_le_succ (ih _ _ _)
/-- of growth: below the whole the last tree of the older things is asked, too -/
def wyG : Nat → Nat → Nat → Nat → Bool → List (Nat × Nat × Bool)
  | 0, _, _, _, _ => []
  | d + 1, i, f, m, w => if i = m then (if w then [] else [(f, m, false)]) else if i ≤ p0 m then (f + p0 m, m - p0 m, false) :: wyG d i f (p0 m) w else (f, p0 m, true) :: wyG d (i - p0 m) (f + p0 m) (m - p0 m) false
theorem wyG_len : ∀ (d i f m : Nat) (w : Bool), (wyG d i f m w).length ≤ d := by
  intro d
  induction d with
  | zero => intro i f m w; exact Nat.le_refl _
  | succ d ih =>
    intro i f m w
    rw [wyG]
    split
    · split
      · exact Nat.zero_le _
      · exact Nat.succ_le_succ (Nat.zero_le _)
    · split
      · exact Nat.succ_le_succ (ih _ _ _ _)
      · exact Nat.succ_le_succ (ih _ _ _ _)
