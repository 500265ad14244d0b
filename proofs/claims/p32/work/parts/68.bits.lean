/-! ===== bits; extend ===== -/
theorem and_split (u w m M : Nat) (hu : u < 256) (hm : m < 256) : (u + 256 * w) &&& (m + 256 * M) = (u &&& m) + 256 * (w &&& M) := by
  have e1 : u + 256 * w = 2 ^ 8 * w + u := by omega
  have e2 : m + 256 * M = 2 ^ 8 * M + m := by omega
  have h3 : u &&& m < 2 ^ 8 := Nat.and_lt_two_pow _ (by omega)
  have e3 : (u &&& m) + 256 * (w &&& M) = 2 ^ 8 * (w &&& M) + (u &&& m) := by omega
  rw [e1, e2, e3]
  apply Nat.eq_of_testBit_eq
  intro i
  rw [Nat.testBit_and, Nat.testBit_two_pow_mul_add _ (by omega), Nat.testBit_two_pow_mul_add _ (by omega), Nat.testBit_two_pow_mul_add _ h3]
  split
  · rw [Nat.testBit_and]
  · rw [Nat.testBit_and]
def bg1 (b : Nat) : Nat := b - ((b / 2) &&& 85)
def bg2 (y : Nat) : Nat := (y &&& 51) + ((y / 4) &&& 51)
def bg3 (y : Nat) : Nat := (y + y / 16) &&& 15
def bgg (b : Nat) : Nat := bg3 (bg2 (bg1 b))
theorem bk1 : ∀ b < 256, ∀ c < 2, (b / 2 + 128 * c) &&& 85 = (b / 2) &&& 85 := by decide +kernel
theorem bk1' : ∀ b < 256, (b / 2) &&& 85 ≤ b ∧ bg1 b < 256 := by decide +kernel
theorem bk2 : ∀ b < 256, ∀ c < 4, (b / 4 + 64 * c) &&& 51 = (b / 4) &&& 51 := by decide +kernel
theorem bk2' : ∀ b < 256, bg2 (bg1 b) ≤ 68 := by decide +kernel
theorem bk2n : ∀ b < 256, bg2 (bg1 b) % 16 ≤ 4 := by decide +kernel
theorem bk3 : ∀ b < 69, ∀ c < 5, (b + b / 16 + 16 * c) &&& 15 = bg3 b := by decide +kernel
theorem bk3' : ∀ b < 256, bgg b ≤ 8 := by decide +kernel
theorem bkt : ∀ b < 256, ∀ t < 9, b % 2 ^ t = 2 ^ t - 1 → t ≤ bgg b := by decide +kernel
theorem bk63 : ∀ b < 64, b &&& 63 = b := by decide +kernel
theorem and3 (x0 x1 x2 m : Nat) (h0 : x0 < 256) (h1 : x1 < 256) (h2 : x2 < 256) (hm : m < 256) : (x0 + 256 * (x1 + 256 * x2)) &&& (m + 256 * (m + 256 * (m + 256 * m))) = (x0 &&& m) + 256 * ((x1 &&& m) + 256 * (x2 &&& m)) := by
  rw [and_split _ _ _ _ h0 hm, and_split _ _ _ _ h1 hm]
  have : x2 &&& (m + 256 * m) = x2 &&& m := by
    have h := and_split x2 0 m m h2 hm
    rw [Nat.mul_zero, Nat.add_zero, Nat.zero_and, Nat.mul_zero, Nat.add_zero] at h
    exact h
  rw [this]
/-- the count of a number of three bytes, on whole numbers -/
def bc (A : Nat) : Nat :=
  let x1 := A - ((A / 2) &&& 1431655765)
  let x2 := (x1 &&& 858993459) + ((x1 / 4) &&& 858993459)
  let x3 := (x2 + x2 / 16) &&& 252645135
  let x4 := x3 + x3 / 256
  let x5 := x4 + x4 / 65536
  x5 &&& 63
theorem bc_eq (b0 b1 b2 : Nat) (h0 : b0 < 256) (h1 : b1 < 256) (h2 : b2 < 256) : bc (b0 + 256 * (b1 + 256 * b2)) = bgg b0 + bgg b1 + bgg b2 := by
  have e85 : 1431655765 = 85 + 256 * (85 + 256 * (85 + 256 * 85)) := by decide
  have e51 : 858993459 = 51 + 256 * (51 + 256 * (51 + 256 * 51)) := by decide
  have e15 : 252645135 = 15 + 256 * (15 + 256 * (15 + 256 * 15)) := by decide
  unfold bc
  simp only
  have s1 : (b0 + 256 * (b1 + 256 * b2)) - (((b0 + 256 * (b1 + 256 * b2)) / 2) &&& 1431655765) = bg1 b0 + 256 * (bg1 b1 + 256 * bg1 b2) := by
    have d : (b0 + 256 * (b1 + 256 * b2)) / 2 = (b0 / 2 + 128 * (b1 % 2)) + 256 * ((b1 / 2 + 128 * (b2 % 2)) + 256 * (b2 / 2 + 128 * 0)) := by omega
    rw [d, e85, and3 _ _ _ _ (by omega) (by omega) (by omega) (by omega), bk1 b0 h0 _ (by omega), bk1 b1 h1 _ (by omega), bk1 b2 h2 0 (by omega)]
    have a0 := (bk1' b0 h0).1
    have a1 := (bk1' b1 h1).1
    have a2 := (bk1' b2 h2).1
    unfold bg1
    omega
  rw [s1]
  have y0 := (bk1' b0 h0).2
  have y1 := (bk1' b1 h1).2
  have y2 := (bk1' b2 h2).2
  have s2 : ((bg1 b0 + 256 * (bg1 b1 + 256 * bg1 b2)) &&& 858993459) + (((bg1 b0 + 256 * (bg1 b1 + 256 * bg1 b2)) / 4) &&& 858993459) = bg2 (bg1 b0) + 256 * (bg2 (bg1 b1) + 256 * bg2 (bg1 b2)) := by
    have d : (bg1 b0 + 256 * (bg1 b1 + 256 * bg1 b2)) / 4 = (bg1 b0 / 4 + 64 * (bg1 b1 % 4)) + 256 * ((bg1 b1 / 4 + 64 * (bg1 b2 % 4)) + 256 * (bg1 b2 / 4 + 64 * 0)) := by omega
    rw [d, e51, and3 _ _ _ _ y0 y1 y2 (by omega), and3 _ _ _ _ (by omega) (by omega) (by omega) (by omega), bk2 _ y0 _ (by omega), bk2 _ y1 _ (by omega), bk2 _ y2 0 (by omega)]
    unfold bg2
    omega
  rw [s2]
  have z0 := bk2' b0 h0
  have z1 := bk2' b1 h1
  have z2 := bk2' b2 h2
  have s3 : ((bg2 (bg1 b0) + 256 * (bg2 (bg1 b1) + 256 * bg2 (bg1 b2))) + (bg2 (bg1 b0) + 256 * (bg2 (bg1 b1) + 256 * bg2 (bg1 b2))) / 16) &&& 252645135 = bgg b0 + 256 * (bgg b1 + 256 * bgg b2) := by
    have n1 := bk2n b1 h1
    have n2 := bk2n b2 h2
    have d : (bg2 (bg1 b0) + 256 * (bg2 (bg1 b1) + 256 * bg2 (bg1 b2))) + (bg2 (bg1 b0) + 256 * (bg2 (bg1 b1) + 256 * bg2 (bg1 b2))) / 16 = (bg2 (bg1 b0) + bg2 (bg1 b0) / 16 + 16 * (bg2 (bg1 b1) % 16)) + 256 * ((bg2 (bg1 b1) + bg2 (bg1 b1) / 16 + 16 * (bg2 (bg1 b2) % 16)) + 256 * (bg2 (bg1 b2) + bg2 (bg1 b2) / 16 + 16 * 0)) := by omega
    rw [d, e15, and3 _ _ _ _ (by omega) (by omega) (by omega) (by omega), bk3 _ (by omega) _ (by omega), bk3 _ (by omega) _ (by omega), bk3 _ (by omega) 0 (by omega)]
    rfl
  rw [s3]
  have p0 := bk3' b0 h0
  have p1 := bk3' b1 h1
  have p2 := bk3' b2 h2
  have s4 : ((bgg b0 + 256 * (bgg b1 + 256 * bgg b2)) + (bgg b0 + 256 * (bgg b1 + 256 * bgg b2)) / 256) = (bgg b0 + bgg b1) + 256 * ((bgg b1 + bgg b2) + 256 * bgg b2) := by omega
  rw [s4]
  have s5 : ((bgg b0 + bgg b1) + 256 * ((bgg b1 + bgg b2) + 256 * bgg b2)) + ((bgg b0 + bgg b1) + 256 * ((bgg b1 + bgg b2) + 256 * bgg b2)) / 65536 = (bgg b0 + bgg b1 + bgg b2) + 256 * ((bgg b1 + bgg b2) + 256 * bgg b2) := by omega
  rw [s5]
  have h := and_split (bgg b0 + bgg b1 + bgg b2) ((bgg b1 + bgg b2) + 256 * bgg b2) 63 0 (by omega) (by omega)
  rw [Nat.and_zero, Nat.mul_zero, Nat.add_zero, Nat.add_zero] at h
  rw [h]
  exact bk63 _ (by omega)
theorem bc_t (A t : Nat) (hA : A < 1048576) (ht : t ≤ 20) (h : A % 2 ^ t = 2 ^ t - 1) : t ≤ bc A := by
  have e : A = A % 256 + 256 * (A / 256 % 256 + 256 * (A / 65536)) := by omega
  rw [e, bc_eq _ _ _ (by omega) (by omega) (by omega)]
  have hp : ∀ k, 2 ^ k ≥ 1 := fun k => Nat.one_le_two_pow
  by_cases t8 : t ≤ 8
  · have q : A % 256 % 2 ^ t = 2 ^ t - 1 := by
      rw [show (256 : Nat) = 2 ^ 8 from rfl, Nat.mod_mod_of_dvd _ (Nat.pow_dvd_pow 2 t8)]; exact h
    have := bkt (A % 256) (by omega) t (by omega) q
    omega
  · have q8 : A % 256 = 255 := by
      have d := Nat.mod_mod_of_dvd A (Nat.pow_dvd_pow 2 (show 8 ≤ t by omega))
      rw [h] at d
      have : (2 ^ t - 1) % 2 ^ 8 = 255 := by
        obtain ⟨s, rfl⟩ : ∃ s, t = 8 + s := ⟨t - 8, by omega⟩
        rw [Nat.pow_add]
        have := hp s
        omega
      omega
    have g255 : bgg 255 = 8 := by decide +kernel
    rw [q8, g255]
    by_cases t16 : t ≤ 16
    · have q : A / 256 % 256 % 2 ^ (t - 8) = 2 ^ (t - 8) - 1 := by
        rw [show (A / 256 % 256) = A / 256 % 2 ^ 8 from rfl, Nat.mod_mod_of_dvd _ (Nat.pow_dvd_pow 2 (show t - 8 ≤ 8 by omega))]
        obtain ⟨s, rfl⟩ : ∃ s, t = 8 + s := ⟨t - 8, by omega⟩
        rw [Nat.pow_add, Nat.mod_mul] at h
        rw [show 8 + s - 8 = s by omega]
        have hs := hp s
        have h2 : A % 256 + 256 * (A / 256 % 2 ^ s) = 256 * 2 ^ s - 1 := h
        generalize 2 ^ s = P at hs h2 ⊢
        generalize A / 256 % P = X at h2 ⊢
        omega
      have := bkt (A / 256 % 256) (by omega) (t - 8) (by omega) q
      omega
    · have q16 : A / 256 % 256 = 255 := by
        obtain ⟨s, rfl⟩ : ∃ s, t = 16 + s := ⟨t - 16, by omega⟩
        rw [Nat.pow_add, Nat.mod_mul] at h
        have := hp s
        omega
      rw [q16, g255]
      have q : A / 65536 % 2 ^ (t - 16) = 2 ^ (t - 16) - 1 := by
        obtain ⟨s, rfl⟩ : ∃ s, t = 16 + s := ⟨t - 16, by omega⟩
        rw [Nat.pow_add, Nat.mod_mul] at h
        rw [show 16 + s - 16 = s by omega]
        have hs := hp s
        have h2 : A % 65536 + 65536 * (A / 65536 % 2 ^ s) = 65536 * 2 ^ s - 1 := h
        generalize 2 ^ s = P at hs h2 ⊢
        generalize A / 65536 % P = X at h2 ⊢
        omega
      have := bkt (A / 65536) (by omega) (t - 16) (by omega) q
      omega
theorem bN (x : Int32) (h : 0 ≤ x.toInt) : x.toInt = (x.toBitVec.toNat : Int) ∧ x.toBitVec.toNat < 2147483648 := by
  have e : x.toInt = x.toBitVec.toInt := rfl
  rw [e, BitVec.toInt_eq_toNat_cond] at h ⊢
  have := x.toBitVec.isLt
  split at h
  · rename_i q
    rw [if_pos q]
    omega
  · omega
theorem n_sh1 (x : Int32) : ((x.toUInt32 >>> (((1 : Int32)).toUInt32 &&& Int32.toUInt32 31)).toInt32).toBitVec.toNat = x.toBitVec.toNat / 2 := by
  show (x.toBitVec >>> (1#32 : BitVec 32)).toNat = _
  rw [BitVec.ushiftRight_eq', BitVec.toNat_ushiftRight, Nat.shiftRight_eq_div_pow]
  rfl
theorem n_sh2 (x : Int32) : ((x.toUInt32 >>> (((2 : Int32)).toUInt32 &&& Int32.toUInt32 31)).toInt32).toBitVec.toNat = x.toBitVec.toNat / 4 := by
  show (x.toBitVec >>> (2#32 : BitVec 32)).toNat = _
  rw [BitVec.ushiftRight_eq', BitVec.toNat_ushiftRight, Nat.shiftRight_eq_div_pow]
  rfl
theorem n_sh4 (x : Int32) : ((x.toUInt32 >>> (((4 : Int32)).toUInt32 &&& Int32.toUInt32 31)).toInt32).toBitVec.toNat = x.toBitVec.toNat / 16 := by
  show (x.toBitVec >>> (4#32 : BitVec 32)).toNat = _
  rw [BitVec.ushiftRight_eq', BitVec.toNat_ushiftRight, Nat.shiftRight_eq_div_pow]
  rfl
theorem n_sh8 (x : Int32) : ((x.toUInt32 >>> (((8 : Int32)).toUInt32 &&& Int32.toUInt32 31)).toInt32).toBitVec.toNat = x.toBitVec.toNat / 256 := by
  show (x.toBitVec >>> (8#32 : BitVec 32)).toNat = _
  rw [BitVec.ushiftRight_eq', BitVec.toNat_ushiftRight, Nat.shiftRight_eq_div_pow]
  rfl
theorem n_sh16 (x : Int32) : ((x.toUInt32 >>> (((16 : Int32)).toUInt32 &&& Int32.toUInt32 31)).toInt32).toBitVec.toNat = x.toBitVec.toNat / 65536 := by
  show (x.toBitVec >>> (16#32 : BitVec 32)).toNat = _
  rw [BitVec.ushiftRight_eq', BitVec.toNat_ushiftRight, Nat.shiftRight_eq_div_pow]
  rfl
theorem n_and (x y : Int32) : (x &&& y).toBitVec.toNat = x.toBitVec.toNat &&& y.toBitVec.toNat := by
  show (x.toBitVec &&& y.toBitVec).toNat = _
  exact BitVec.toNat_and _ _
theorem n_add (x y : Int32) : (x + y).toBitVec.toNat = (x.toBitVec.toNat + y.toBitVec.toNat) % 4294967296 := by
  show (x.toBitVec + y.toBitVec).toNat = _
  exact BitVec.toNat_add _ _
theorem n_sub (x y : Int32) (h : y.toBitVec.toNat ≤ x.toBitVec.toNat) : (x - y).toBitVec.toNat = x.toBitVec.toNat - y.toBitVec.toNat := by
  show (x.toBitVec - y.toBitVec).toNat = _
  rw [BitVec.toNat_sub]
  have := x.toBitVec.isLt
  have := y.toBitVec.isLt
  omega
theorem s_bitCount2 (n : Nat) (a : Int32) (h0 : 0 ≤ a.toInt) (h1 : a.toInt ≤ 1000000) : ws (f_J6_bitCount_0f7a4 n a) (fun r => r.toInt = (bc a.toInt.toNat : Int)) := by
  obtain ⟨eA, -⟩ := bN a h0
  have eN : a.toInt.toNat = a.toBitVec.toNat := by omega
  rw [eN]
  have hA : a.toBitVec.toNat ≤ 1000000 := by omega
  unfold f_J6_bitCount_0f7a4
  refine ws_ln (fun x1 e1 => ws_ln (fun x2 e2 => ws_ln (fun x3 e3 => ws_ln (fun x4 e4 => ws_ln (fun x5 e5 => ws_s ?_)))))
  have m1 : (1431655765 : Int32).toBitVec.toNat = 1431655765 := by decide
  have m2 : (858993459 : Int32).toBitVec.toNat = 858993459 := by decide
  have m3 : (252645135 : Int32).toBitVec.toNat = 252645135 := by decide
  have m4 : (63 : Int32).toBitVec.toNat = 63 := by decide
  have l1 : a.toBitVec.toNat / 2 &&& 1431655765 ≤ a.toBitVec.toNat := Nat.le_trans Nat.and_le_left (Nat.div_le_self _ _)
  have q1 : x1.toBitVec.toNat = a.toBitVec.toNat - (a.toBitVec.toNat / 2 &&& 1431655765) := by
    have e : (((a).toUInt32 >>> (((1 : Int32)).toUInt32 &&& Int32.toUInt32 31)).toInt32 &&& (1431655765 : Int32)).toBitVec.toNat = a.toBitVec.toNat / 2 &&& 1431655765 := by rw [n_and, n_sh1, m1]
    rw [e1, n_sub _ _ (by rw [e]; exact l1), e]
  have b1 : x1.toBitVec.toNat ≤ 1000000 := by omega
  have q2 : x2.toBitVec.toNat = (x1.toBitVec.toNat &&& 858993459) + (x1.toBitVec.toNat / 4 &&& 858993459) ∧ x2.toBitVec.toNat ≤ 2000000 := by
    have a1 : x1.toBitVec.toNat &&& 858993459 ≤ x1.toBitVec.toNat := Nat.and_le_left
    have a2 : x1.toBitVec.toNat / 4 &&& 858993459 ≤ x1.toBitVec.toNat / 4 := Nat.and_le_left
    rw [e2, n_add, n_and, n_and, n_sh2, m2, Nat.mod_eq_of_lt (by omega)]
    exact ⟨rfl, by omega⟩
  have q3 : x3.toBitVec.toNat = (x2.toBitVec.toNat + x2.toBitVec.toNat / 16 &&& 252645135) ∧ x3.toBitVec.toNat ≤ 4000000 := by
    have a1 : x2.toBitVec.toNat + x2.toBitVec.toNat / 16 &&& 252645135 ≤ x2.toBitVec.toNat + x2.toBitVec.toNat / 16 := Nat.and_le_left
    rw [e3, n_and, n_add, n_sh4, m3, Nat.mod_eq_of_lt (by omega)]
    exact ⟨rfl, by omega⟩
  have q4 : x4.toBitVec.toNat = x3.toBitVec.toNat + x3.toBitVec.toNat / 256 ∧ x4.toBitVec.toNat ≤ 8000000 := by
    rw [e4, n_add, n_sh8, Nat.mod_eq_of_lt (by omega)]
    exact ⟨rfl, by omega⟩
  have q5 : x5.toBitVec.toNat = x4.toBitVec.toNat + x4.toBitVec.toNat / 65536 := by
    rw [e5, n_add, n_sh16, Nat.mod_eq_of_lt (by omega)]
  rw [(bN _ (and63 x5).1).1, n_and, m4, q5, q4.1, q3.1, q2.1, q1]
  rfl
