set_option maxRecDepth 100000
/-! ===== type: what it answers ===== -/
theorem and31 (z : Int32) : 0 ≤ (z &&& 31).toInt ∧ (z &&& 31).toInt < 32 := by
  have h1 := n_and z 31
  have h2 : (31 : Int32).toBitVec.toNat = 31 := by decide
  have h3 : (z &&& 31).toBitVec.toNat ≤ 31 := by rw [h1, h2]; exact Nat.and_le_right
  have h4 : (z &&& 31).toInt = ((z &&& 31).toBitVec.toNat : Int) := by
    show BitVec.toInt _ = _
    rw [BitVec.toInt_eq_toNat_cond, if_pos (by omega)]
  omega
def ty_l (a b v : Int32) : Int32 := if (6 : Int32) ≤ v then ((b.toUInt32 >>> (((5 : Int32) * (v - (6 : Int32))).toUInt32 &&& Int32.toUInt32 31)).toInt32 &&& (31 : Int32)) else ((a.toUInt32 >>> (((5 : Int32) * v).toUInt32 &&& Int32.toUInt32 31)).toInt32 &&& (31 : Int32))
def ty_s (a b : Int32) : Nat → Int32 → Int32
  | 0, v => v
  | m + 1, v => if ty_l a b v = 0 then v else if ty_l a b v ≤ 26 then ty_s a b m (v + 1) else -1
theorem ty_l0 (a b v : Int32) : 0 ≤ (ty_l a b v).toInt := by
  unfold ty_l
  split
  · exact (and31 _).1
  · exact (and31 _).1
theorem ty_v (v : Int32) (h0 : 0 ≤ v.toInt) (h1 : v.toInt < 8) : v - v / (6 : Int32) * (6 : Int32) = if (6 : Int32) ≤ v then v - (6 : Int32) else v := by
  have h : ∀ j : Nat, j < 8 → Int32.ofNat j - Int32.ofNat j / (6 : Int32) * (6 : Int32) = if (6 : Int32) ≤ Int32.ofNat j then Int32.ofNat j - (6 : Int32) else Int32.ofNat j := by decide
  have e : v = Int32.ofNat v.toInt.toNat := i_ofN (by omega)
  rw [e]
  exact h _ (by omega)
theorem v_type_C (n : Nat) (m : Int32) : ∀ (k : Nat) (τ : ms_T) (v : Int32), pr (f_X12_type_L102 n k τ m v) (fun res => res.1 = m) := by
  intro k
  induction k with
  | zero => intro τ v; rw [f_X12_type_L102.eq_1]; exact pr_0
  | succ k ih =>
    intro τ v
    rw [f_X12_type_L102.eq_2]
    exact pr_i (fun _ => pr_l (pr_s rfl)) (fun _ => pr_g (fun _ _ => pr_g (fun _ _ => pr_l (pr_l (ih _ _)))))
theorem v_type_L (n : Nat) (a b : Int32) : ∀ (k : Nat) (τ : ms_T) (x y v : Int32), 0 ≤ v.toInt → v.toInt ≤ 8 → (y = 0 ∨ (y = 1 ∧ x = v)) → pr (f_X12_type_L13 n k τ a b x y v) (fun res => res.1 = if y = 0 then x else ty_s a b (8 - v.toInt).toNat v) := by
  intro k
  induction k with
  | zero => intro τ x y v g0 g1 hy; rw [f_X12_type_L13.eq_1]; exact pr_0
  | succ k ih =>
    intro τ x y v g0 g1 hy
    have L := lits
    rw [f_X12_type_L13.eq_2]
    have h9 : pr (f_X12_type_J99 n τ x) (fun res => res.1 = x) := by
      unfold f_X12_type_J99
      exact v_type_C n x n τ 0
    rcases hy with hy | ⟨hy, hx⟩
    · refine pr_m (P := fun res => res.1 = x) ?_ (fun r e => by rw [e, if_pos hy])
      exact pr_le (fun _ => h9) (fun _ => pr_i (fun _ => h9) (fun e => absurd hy e))
    · subst hy; subst hx
      refine pr_m (P := fun res => res.1 = ty_s a b (8 - x.toInt).toNat x) ?_ (fun r e => by rw [e, if_neg (by decide)])
      refine pr_le (fun h8 => ?_) (fun h8 => pr_i (fun e => absurd e (by decide)) (fun _ => ?_))
      · rw [show (8 - x.toInt).toNat = 0 by omega]
        exact h9
      · have hq : (8 - x.toInt).toNat = (8 - (x + 1).toInt).toNat + 1 := by (try simp only [iw_add, iw_sub, iw_mul, t_m1, lt0, lt1, t_2, t_3, t_4, t_5, t_6, t_8, t_9, t_10, t_16, t_20, t_24, t_26, t_30, t_31, t_48, t_64, t_72, t_76, t_92, t_101, t_252, t_444, t_512, t_900, t_1980, t_65521, t_99999, t_mil]) <;> omega
        have hJ : ∀ w, (((w).toUInt32 >>> ((((5 : Int32) * (x - x / (6 : Int32) * (6 : Int32)))).toUInt32 &&& Int32.toUInt32 31)).toInt32 &&& (31 : Int32)) = ty_l a b x → pr (f_X12_type_J37 n (f_X12_type_L13 n k) τ a b x x w) (fun res => res.1 = ty_s a b (8 - x.toInt).toNat x) := by
          intro w hw
          unfold f_X12_type_J37
          rw [hw]
          have h0 := ty_l0 a b x
          rw [hq]
          refine pr_l (pr_le (fun h26 => pr_le (fun hz => ?_) (fun hz => ?_)) (fun h26 => pr_s ?_))
          · have hz2 : ty_l a b x = 0 := Int32.toInt_inj.mp (by rw [lt0]; omega)
            unfold f_X12_type_J69 f_X12_type_J91
            refine pr_g (fun _ _ => pr_l (pr_i (fun _ => pr_l (pr_l ?_)) (fun e => absurd rfl e)))
            refine pr_m (ih _ _ _ _ (by (try simp only [iw_add, iw_sub, iw_mul, t_m1, lt0, lt1, t_2, t_3, t_4, t_5, t_6, t_8, t_9, t_10, t_16, t_20, t_24, t_26, t_30, t_31, t_48, t_64, t_72, t_76, t_92, t_101, t_252, t_444, t_512, t_900, t_1980, t_65521, t_99999, t_mil]) <;> omega) (by (try simp only [iw_add, iw_sub, iw_mul, t_m1, lt0, lt1, t_2, t_3, t_4, t_5, t_6, t_8, t_9, t_10, t_16, t_20, t_24, t_26, t_30, t_31, t_48, t_64, t_72, t_76, t_92, t_101, t_252, t_444, t_512, t_900, t_1980, t_65521, t_99999, t_mil]) <;> omega) (Or.inl rfl)) (fun r e => ?_)
            rw [e, if_pos rfl, ty_s, if_pos hz2]
            exact Int32.toInt_inj.mp (by (try simp only [iw_add, iw_sub, iw_mul, t_m1, lt0, lt1, t_2, t_3, t_4, t_5, t_6, t_8, t_9, t_10, t_16, t_20, t_24, t_26, t_30, t_31, t_48, t_64, t_72, t_76, t_92, t_101, t_252, t_444, t_512, t_900, t_1980, t_65521, t_99999, t_mil]) <;> omega)
          · have hz2 : ¬ ty_l a b x = 0 := fun e => by rw [e, lt0] at hz; omega
            unfold f_X12_type_J69 f_X12_type_J91
            refine pr_g (fun _ _ => pr_l (pr_i (fun e => absurd e (by decide)) (fun _ => pr_l (pr_l ?_))))
            refine pr_m (ih _ _ _ _ (by (try simp only [iw_add, iw_sub, iw_mul, t_m1, lt0, lt1, t_2, t_3, t_4, t_5, t_6, t_8, t_9, t_10, t_16, t_20, t_24, t_26, t_30, t_31, t_48, t_64, t_72, t_76, t_92, t_101, t_252, t_444, t_512, t_900, t_1980, t_65521, t_99999, t_mil]) <;> omega) (by (try simp only [iw_add, iw_sub, iw_mul, t_m1, lt0, lt1, t_2, t_3, t_4, t_5, t_6, t_8, t_9, t_10, t_16, t_20, t_24, t_26, t_30, t_31, t_48, t_64, t_72, t_76, t_92, t_101, t_252, t_444, t_512, t_900, t_1980, t_65521, t_99999, t_mil]) <;> omega) (Or.inr ⟨rfl, rfl⟩)) (fun r e => ?_)
            rw [e, if_neg (by decide), ty_s, if_neg hz2, if_pos (Int32.le_iff_toInt_le.mpr h26)]
          · rw [ty_s, if_neg (fun e => by rw [e] at h26; revert h26; decide), if_neg (fun e => by have := il_le e; omega)]
        refine pr_le (fun h6 => hJ _ ?_) (fun h6 => hJ _ ?_)
        · rw [ty_v x g0 (by omega), if_pos (Int32.le_iff_toInt_le.mpr h6)]
          unfold ty_l
          rw [if_pos (Int32.le_iff_toInt_le.mpr h6)]
        · have h7 : ¬ (6 : Int32) ≤ x := fun e => by have := il_le e; omega
          rw [ty_v x g0 (by omega), if_neg h7]
          unfold ty_l
          rw [if_neg h7]
theorem v_type (n : Nat) (σ : ms_T) (a b : Int32) : pr (f_X12_type n σ a b) (fun res => res.1 = ty_s a b 8 0) := by
  unfold f_X12_type
  refine pr_l (pr_m (v_type_L n a b n _ 0 1 0 (by decide) (by decide) (Or.inr ⟨rfl, rfl⟩)) (fun r e => ?_))
  rw [e, if_neg (by decide)]
  rfl
/-! of the class -/
theorem k_put9 (n : Nat) (α : hp_T) (b : Nat) (v : Int32) (h0 : 0 ≤ (hp_I α 501 b).toInt) (h1 : (hp_I α 501 b).toInt < 8) : ws (f_X9_put n α b v) (fun β => hp_I β 501 b = hp_I α 501 b + 1 ∧ hp_R β = hp_R α) := by
  have L := lits
  unfold f_X9_put
  refine ws_l (ws_lt (fun _ => by omega) (fun _ => ws_l (ws_l (ws_le (fun _ => by omega) (fun _ => ws_l (ws_l (ws_g h0 h1 (ws_l (ws_l (ws_l (ws_s ⟨?_, rfl⟩)))))))))))
  rw [hI_sI, if_pos ⟨rfl, rfl⟩]
  rfl
theorem k_type_L (n : Nat) (a0 : Nat) (a b : Int32) : ∀ (k : Nat) (α : hp_T) (v : Int32), 0 ≤ v.toInt → v.toInt ≤ 8 → hp_I α 501 (hp_R α 607 a0) = v → 9 - v.toInt ≤ (k : Int) → ws (f_X11_type_L9 n a0 k α a b v) (fun res => res.1 = ty_s a b (8 - v.toInt).toNat v) := by
  intro k
  induction k with
  | zero => intro α v g0 g1 hv g2; omega
  | succ k ih =>
    intro α v g0 g1 hv g2
    have L := lits
    rw [f_X11_type_L9.eq_2]
    have h7 : ws (f_X11_type_J77 n a0 α) (fun res => res.1 = v) := by
      unfold f_X11_type_J77
      refine ws_l (ws_l (ws_l (ws_l (ws_l (ws_l (ws_s ?_))))))
      rw [hR_sR, if_neg (fun h => absurd h.1 (by decide)), hR_sR, if_pos ⟨rfl, rfl⟩]
      exact hv
    refine ws_le (fun h8 => ?_) (fun h8 => ?_)
    · rw [show (8 - v.toInt).toNat = 0 by omega]
      exact h7
    · have hq : (8 - v.toInt).toNat = (8 - (v + 1).toInt).toNat + 1 := by (try simp only [iw_add, iw_sub, iw_mul, t_m1, lt0, lt1, t_2, t_3, t_4, t_5, t_6, t_8, t_9, t_10, t_16, t_20, t_24, t_26, t_30, t_31, t_48, t_64, t_72, t_76, t_92, t_101, t_252, t_444, t_512, t_900, t_1980, t_65521, t_99999, t_mil]) <;> omega
      have hJ : ∀ w, w = ty_l a b v → ws (f_X11_type_J43 n a0 (f_X11_type_L9 n a0 k) α a b v w) (fun res => res.1 = ty_s a b (8 - v.toInt).toNat v) := by
        intro w hw
        subst hw
        unfold f_X11_type_J43
        rw [hq, ty_s]
        refine ws_i (fun hz => ?_) (fun hz => ?_)
        · rw [if_pos hz]; exact h7
        · rw [if_neg hz]
          refine ws_i (fun h26 => ?_) (fun h26 => ?_)
          · rw [if_pos h26]
            refine ws_l (ws_b (k_put9 n α _ _ (by rw [hv]; exact g0) (by rw [hv]; omega)) (fun β hβ => ws_l (ih β (v + 1) (by (try simp only [iw_add, iw_sub, iw_mul, t_m1, lt0, lt1, t_2, t_3, t_4, t_5, t_6, t_8, t_9, t_10, t_16, t_20, t_24, t_26, t_30, t_31, t_48, t_64, t_72, t_76, t_92, t_101, t_252, t_444, t_512, t_900, t_1980, t_65521, t_99999, t_mil]) <;> omega) (by (try simp only [iw_add, iw_sub, iw_mul, t_m1, lt0, lt1, t_2, t_3, t_4, t_5, t_6, t_8, t_9, t_10, t_16, t_20, t_24, t_26, t_30, t_31, t_48, t_64, t_72, t_76, t_92, t_101, t_252, t_444, t_512, t_900, t_1980, t_65521, t_99999, t_mil]) <;> omega) ?_ (by (try simp only [iw_add, iw_sub, iw_mul, t_m1, lt0, lt1, t_2, t_3, t_4, t_5, t_6, t_8, t_9, t_10, t_16, t_20, t_24, t_26, t_30, t_31, t_48, t_64, t_72, t_76, t_92, t_101, t_252, t_444, t_512, t_900, t_1980, t_65521, t_99999, t_mil]) <;> omega))))
            rw [hβ.2, hβ.1, hv]
          · rw [if_neg h26]
            exact ws_s rfl
      refine ws_le (fun h6 => hJ _ ?_) (fun h6 => hJ _ ?_)
      · unfold ty_l
        rw [if_pos (Int32.le_iff_toInt_le.mpr h6)]
      · unfold ty_l
        rw [if_neg (fun e => by have := il_le e; omega)]
theorem k_type (n : Nat) (hn : 70000 ≤ n) (α : hp_T) (a0 : Nat) (a b : Int32) : ws (f_X11_type n α a0 a b) (fun res => res.1 = ty_s a b 8 0) := by
  unfold f_X11_type f_X9_clear
  refine ws_l (ws_b (ws_l (ws_s (P := fun β => β = hp_sI α 501 (hp_R α 607 a0) 0) rfl)) (fun β hβ => ?_))
  subst hβ
  refine ws_m (k_type_L n a0 a b n _ 0 (by decide) (by decide) ?_ (by rw [lt0]; omega)) (fun r e => e)
  rw [hR_sI, hI_sI, if_pos ⟨rfl, rfl⟩]
/-! ===== tokens: the class's and the reference's ===== -/
def isL (c : Int32) : Bool := decide (97 ≤ c.toInt) && decide (c.toInt ≤ 122)
def isD (c : Int32) : Bool := decide (48 ≤ c.toInt) && decide (c.toInt ≤ 57)
def isB (c : Int32) : Bool := decide (c = 10) || decide (c = 32)
def kof (c : Int32) : Int32 := if isL c then 1 else if isD c then 2 else if c = 59 then 3 else 4
/-- so far as a row of bytes goes on so, of d bytes at most -/
def ru (f : Int32 → Bool) (t : Nat → Int32) : Nat → Nat → Nat
  | 0, p => p
  | d + 1, p => if f (t p) then ru f t d (p + 1) else p
theorem ru_le (f : Int32 → Bool) (t : Nat → Int32) : ∀ (d p : Nat), p ≤ ru f t d p ∧ ru f t d p ≤ p + d := by
  intro d
  induction d with
  | zero => intro p; exact ⟨Nat.le_refl _, Nat.le_refl _⟩
  | succ d ih =>
    intro p
    rw [ru]
    split
    · have := ih (p + 1); omega
    · omega
def vl (t : Nat → Int32) (p : Nat) : Nat → Int32
  | 0 => 0
  | m + 1 => ((10 : Int32) * vl t p m + t (p + m)) - (48 : Int32)
def lv8 (t : Nat → Int32) (p : Nat) : Nat → Int64
  | 0 => 0
  | m + 1 => ((27 : Int64) * lv8 t p m + (t (p + m)).toInt64) - (96 : Int64)
def tkP (t : Nat → Int32) (N p : Nat) : Nat := ru isB t (N - p) p
def tkK (t : Nat → Int32) (N q : Nat) : Int32 := if N ≤ q then 0 else kof (t q)
def tkN (t : Nat → Int32) (N q : Nat) : Nat := if N ≤ q then q + 1 else if isL (t q) then ru isL t (N - q) q else if isD (t q) then ru isD t (N - q) q else q + 1
/-- the token's kind: a number of more than five digits is none -/
def tkS (t : Nat → Int32) (N q : Nat) : Int32 := if tkK t N q = 2 ∧ 5 < tkN t N q - q then 4 else tkK t N q
theorem kof_L {c : Int32} : kof c = 1 ↔ isL c = true := by
  unfold kof
  split
  · simp [*]
  · constructor
    · intro h; split at h
      · exact absurd h (by decide)
      · split at h <;> exact absurd h (by decide)
    · intro h; exact absurd h (by assumption)
theorem kof_D {c : Int32} : kof c = 2 ↔ (isL c = false ∧ isD c = true) := by
  unfold kof
  by_cases h1 : isL c = true
  · rw [if_pos h1]; simp [h1]
  · rw [if_neg h1]
    by_cases h2 : isD c = true
    · rw [if_pos h2]; simp [h1, h2]
    · rw [if_neg h2]
      constructor
      · intro h; split at h <;> exact absurd h (by decide)
      · intro h; exact absurd h.2 h2
theorem kof_0 {c : Int32} : kof c ≠ 0 := by
  unfold kof
  split
  · decide
  · split
    · decide
    · split <;> decide
/-! of the class -/
def sf (sc : Nat) (α β : hp_T) : Prop := hp_R β = hp_R α ∧ hp_K β = hp_K α ∧ hp_Q β = hp_Q α ∧ hp_N β = hp_N α ∧ hp_E β = hp_E α ∧ ∀ φ b, ¬ (b = sc ∧ 352 ≤ φ ∧ φ ≤ 356) → hp_I β φ b = hp_I α φ b
theorem sf_tr {sc : Nat} {α β γ : hp_T} (h : sf sc α β) (g : sf sc β γ) : sf sc α γ := by
  obtain ⟨h1, h2, h3, h4, h5, h6⟩ := h
  obtain ⟨g1, g2, g3, g4, g5, g6⟩ := g
  exact ⟨g1.trans h1, g2.trans h2, g3.trans h3, g4.trans h4, g5.trans h5, fun φ b q => (g6 φ b q).trans (h6 φ b q)⟩
theorem sf_sI {sc φ : Nat} {α : hp_T} {v : Int32} (h : 352 ≤ φ ∧ φ ≤ 356) : sf sc α (hp_sI α φ sc v) :=
  ⟨rfl, rfl, rfl, rfl, rfl, fun ψ b q => by rw [hI_sI, if_neg (fun (e : ψ = φ ∧ b = sc) => q ⟨e.2, by rw [e.1]; exact h⟩)]⟩
/-- the bytes that a scanner goes through -/
def SB (α : hp_T) (sc : Nat) (t : Nat → Int32) (N : Nat) : Prop := N ≤ 900 ∧ (hp_I α 351 sc).toInt = (N : Int) ∧ hp_K α (hp_R α 350 sc) = 24 ∧ ∀ j, j < N → hp_E α 24 (hp_R α 350 sc) j = t j
theorem SB_sf {α β : hp_T} {sc N : Nat} {t : Nat → Int32} (h : SB α sc t N) (f : sf sc α β) : SB β sc t N := by
  obtain ⟨h1, h2, h3, h4⟩ := h
  obtain ⟨f1, f2, -, -, f5, f6⟩ := f
  exact ⟨h1, by rw [f6 351 sc (by omega)]; exact h2, by rw [f1, f2]; exact h3, fun j hj => by rw [f1, f5]; exact h4 j hj⟩
theorem k_byteAt (n : Nat) {α : hp_T} {sc N : Nat} {t : Nat → Int32} (h : SB α sc t N) (p : Nat) (pI : Int32) (hp : pI.toInt = (p : Int)) : ws (f_X6_byteAt n α sc pI) (fun r => r = if p < N then t p else 0) := by
  obtain ⟨h1, h2, h3, h4⟩ := h
  have L := t_900
  unfold f_X6_byteAt
  refine ws_lt (fun e => by rw [lt0] at e; omega) (fun _ => ws_l (ws_le (fun e => ?_) (fun e => ws_l ?_)))
  · rw [if_neg (by omega)]; exact ws_s rfl
  · rw [if_pos h3]
    refine ws_le (fun e2 => by omega) (fun _ => ws_l ?_)
    rw [if_pos h3]
    refine ws_g (by omega) (by omega) (ws_s ?_)
    rw [cl_n hp, if_pos (by omega)]
    exact h4 p (by omega)
theorem k_isBlank (n : Nat) (c : Int32) : ws (f_X6_isBlank n c) (fun r => bo r (isB c = true)) := by
  unfold f_X6_isBlank f_X6_isBlank_J12 isB
  refine ws_i (fun e => ws_s (Or.inl ⟨rfl, by simp [e]⟩)) (fun e => ws_i (fun e2 => ws_s (Or.inl ⟨rfl, by simp [e2]⟩)) (fun e2 => ws_s (Or.inr ⟨rfl, by simp [e, e2]⟩)))
theorem k_kindOf (n : Nat) (c : Int32) : ws (f_X6_kindOf n c) (fun r => r = kof c) := by
  have l97 : (97 : Int32).toInt = 97 := by decide
  have l122 : (122 : Int32).toInt = 122 := by decide
  have l48 : (48 : Int32).toInt = 48 := by decide
  have l57 : (57 : Int32).toInt = 57 := by decide
  have hJ : isL c = false → ws (f_X6_kindOf_J14 n c) (fun r => r = kof c) := by
    intro hL
    have h28 : isD c = false → ws (f_X6_kindOf_J28 n c) (fun r => r = kof c) := by
      intro hD
      unfold f_X6_kindOf_J28 kof
      rw [hL, hD]
      exact ws_i (fun e => ws_s (by simp [e])) (fun e => ws_s (by simp [e]))
    unfold f_X6_kindOf_J14
    refine ws_lt (fun e => h28 ?_) (fun e => ws_lt (fun e2 => h28 ?_) (fun e2 => ws_s ?_))
    · unfold isD; simp; omega
    · unfold isD; simp; omega
    · have : isD c = true := by unfold isD; simp; omega
      unfold kof
      rw [hL, this]; rfl
  unfold f_X6_kindOf
  refine ws_lt (fun e => hJ ?_) (fun e => ws_lt (fun e2 => hJ ?_) (fun e2 => ws_s ?_))
  · unfold isL; simp; omega
  · unfold isL; simp; omega
  · have : isL c = true := by unfold isL; simp; omega
    unfold kof
    rw [this]; rfl
/-- a scanner that stands on the token that begins at q -/
def SCT (β : hp_T) (sc : Nat) (t : Nat → Int32) (N q : Nat) : Prop := (hp_I β 354 sc).toInt = (q : Int) ∧ hp_I β 353 sc = tkS t N q ∧ (hp_I β 352 sc).toInt = (if N ≤ q then (q : Int) else (tkN t N q : Int)) ∧ (hp_I β 355 sc).toInt = (if N ≤ q then 0 else (tkN t N q : Int) - q) ∧ (tkS t N q = 2 → hp_I β 356 sc = vl t q (tkN t N q - q))
theorem tkN_le (t : Nat → Int32) {N q : Nat} (h : q < N) : q + 1 ≤ tkN t N q ∧ tkN t N q ≤ N := by
  unfold tkN
  rw [if_neg (by omega)]
  split
  · rename_i hL
    rw [show N - q = (N - q - 1) + 1 by omega, ru, if_pos hL]
    have := ru_le isL t (N - q - 1) (q + 1); omega
  · split
    · rename_i hD
      rw [show N - q = (N - q - 1) + 1 by omega, ru, if_pos hD]
      have := ru_le isD t (N - q - 1) (q + 1); omega
    · omega
theorem k_adv_229 (n : Nat) {β : hp_T} {sc N q : Nat} {t : Nat → Int32} (hp : (hp_I β 354 sc).toInt = (q : Int)) (hk : hp_I β 353 sc = tkK t N q) (hn : (hp_I β 352 sc).toInt = (if N ≤ q then (q : Int) else (tkN t N q : Int))) (hl : (hp_I β 355 sc).toInt = (if N ≤ q then 0 else (tkN t N q : Int) - q)) (hv : tkK t N q = 2 → tkN t N q - q ≤ 5 → hp_I β 356 sc = vl t q (tkN t N q - q)) : ws (f_X6_advance_J229 n sc β) (fun γ => SCT γ sc t N q ∧ sf sc β γ) := by
  have L5 := t_5
  have f353 : ∀ v : Int32, sf sc β (hp_sI β 353 sc v) := fun v => sf_sI (by decide)
  have hqN : tkK t N q = 2 → q < N := by
    intro h
    unfold tkK at h
    split at h
    · exact absurd h (by decide)
    · omega
  have h250 : ¬ (tkK t N q = 2 ∧ 5 < tkN t N q - q) → ws (f_X6_advance_J250 n sc β sc) (fun γ => SCT γ sc t N q ∧ sf sc β γ) := by
    intro hno
    unfold f_X6_advance_J250
    have e : tkS t N q = tkK t N q := by unfold tkS; rw [if_neg hno]
    refine ws_l (ws_l (ws_s ⟨⟨?_, ?_, ?_, ?_, fun h2 => ?_⟩, f353 _⟩))
    · rw [hI_sI, if_neg (by omega)]; exact hp
    · rw [hI_sI, if_pos ⟨rfl, rfl⟩, e]; exact hk
    · rw [hI_sI, if_neg (by omega)]; exact hn
    · rw [hI_sI, if_neg (by omega)]; exact hl
    · rw [e] at h2
      rw [hI_sI, if_neg (by omega)]
      exact hv h2 (Nat.le_of_not_lt (fun h => hno ⟨h2, h⟩))
  unfold f_X6_advance_J229
  refine ws_l (ws_i (fun e2 => ws_l (ws_le (fun e5 => h250 ?_) (fun e5 => ws_l (ws_s ?_)))) (fun e2 => h250 (fun h => e2 (hk.trans h.1))))
  · intro h
    have := hqN h.1
    rw [hl, if_neg (by omega), L5] at e5
    omega
  · have h2 : tkK t N q = 2 := hk.symm.trans e2
    have := hqN h2
    rw [hl, if_neg (by omega), L5] at e5
    have e : tkS t N q = 4 := by unfold tkS; rw [if_pos ⟨h2, by omega⟩]
    refine ⟨⟨?_, ?_, ?_, ?_, fun h => ?_⟩, f353 _⟩
    · rw [hI_sI, if_neg (by omega)]; exact hp
    · rw [hI_sI, if_pos ⟨rfl, rfl⟩, e]
    · rw [hI_sI, if_neg (by omega)]; exact hn
    · rw [hI_sI, if_neg (by omega)]; exact hl
    · rw [e] at h; exact absurd h (by decide)
theorem k_adv_177 (n : Nat) {sc N q : Nat} {t : Nat → Int32} : ∀ (d m : Nat) (mI : Int32) (β : hp_T), SB β sc t N → (hp_I β 354 sc).toInt = (q : Int) → hp_I β 353 sc = tkK t N q → (hp_I β 352 sc).toInt = (if N ≤ q then (q : Int) else (tkN t N q : Int)) → (hp_I β 355 sc).toInt = (if N ≤ q then 0 else (tkN t N q : Int) - q) → mI.toInt = (m : Int) → m ≤ 5 → (q < N → m ≤ tkN t N q - q) → (tkK t N q = 2 → hp_I β 356 sc = vl t q m) → 6 - m ≤ d → ws (f_X6_advance_L177 n sc d β mI) (fun γ => SCT γ sc t N q ∧ sf sc β γ) := by
  intro d
  induction d with
  | zero => intro m mI β hB hp hk hn hl h1 h2 h3 h4 h5; omega
  | succ d ih =>
    intro m mI β hB hp hk hn hl h1 h2 h3 h4 h5
    have L5 := t_5
    have l2 := t_2
    have hN := hB.1
    rw [f_X6_advance_L177.eq_2]
    refine ws_l (ws_le (fun e => ?_) (fun e => ws_le (fun e5 => ?_) (fun e5 => ws_l (ws_i (fun e2 => ?_) (fun e2 => ?_)))))
    · refine k_adv_229 n hp hk hn hl (fun h2' h5' => ?_)
      have hq : q < N := Nat.lt_of_not_le (fun h => by unfold tkK at h2'; rw [if_pos h] at h2'; exact absurd h2' (by decide))
      rw [hl, if_neg (by omega), h1] at e
      rw [h4 h2', show tkN t N q - q = m by have := h3 hq; omega]
    · refine k_adv_229 n hp hk hn hl (fun h2' h5' => ?_)
      have hq : q < N := Nat.lt_of_not_le (fun h => by unfold tkK at h2'; rw [if_pos h] at h2'; exact absurd h2' (by decide))
      rw [h4 h2', show tkN t N q - q = m by have := h3 hq; omega]
    · have h2' : tkK t N q = 2 := hk.symm.trans e2
      have hq : q < N := Nat.lt_of_not_le (fun h => by unfold tkK at h2'; rw [if_pos h] at h2'; exact absurd h2' (by decide))
      rw [hl, if_neg (by omega), h1] at e
      have hb := tkN_le t hq
      have hq2 : (hp_I β 354 sc + mI).toInt = ((q + m : Nat) : Int) := by rw [ii_add (by omega) (by omega), hp, h1]; omega
      refine ws_l (ws_l (ws_b (k_byteAt n hB (q + m) _ hq2) (fun r hr => ws_l (ws_l ?_))))
      rw [if_pos (by omega)] at hr
      have f : sf sc β (hp_sI β 356 sc ((((10 : Int32) * (hp_I β 356 sc)) + r) - (48 : Int32))) := sf_sI (by decide)
      refine ws_m (ih (m + 1) _ _ (SB_sf hB f) (by rw [hI_sI, if_neg (by omega)]; exact hp) (by rw [hI_sI, if_neg (by omega)]; exact hk) (by rw [hI_sI, if_neg (by omega)]; exact hn) (by rw [hI_sI, if_neg (by omega)]; exact hl) (by rw [ii_add (by rw [lt1]; omega) (by rw [lt1]; omega), h1, lt1]; omega) (by omega) (fun _ => by omega) (fun _ => ?_) (by omega)) (fun γ hγ => ⟨hγ.1, sf_tr f hγ.2⟩)
      rw [hI_sI, if_pos ⟨rfl, rfl⟩, h4 h2', hr, vl]
    · refine k_adv_229 n hp hk hn hl (fun h2' _ => absurd (hk.trans h2') e2)
theorem tkS_K {t : Nat → Int32} {N q : Nat} : tkS t N q = 2 → tkK t N q = 2 := by
  unfold tkS
  intro h
  split at h
  · exact absurd h (by decide)
  · exact h
theorem k_adv_157 (n : Nat) (hn7 : 70000 ≤ n) {β : hp_T} {sc N q : Nat} {t : Nat → Int32} (hB : SB β sc t N) (hp : (hp_I β 354 sc).toInt = (q : Int)) (hq : q ≤ 900) (hk : hp_I β 353 sc = tkK t N q) (hn : (hp_I β 352 sc).toInt = (if N ≤ q then (q : Int) else (tkN t N q : Int))) : ws (f_X6_advance_J157 n sc β) (fun γ => SCT γ sc t N q ∧ sf sc β γ) := by
  unfold f_X6_advance_J157
  have hN := hB.1
  have hb : q < N → q + 1 ≤ tkN t N q ∧ tkN t N q ≤ N := fun h => tkN_le t h
  have hd : (hp_I β 352 sc - hp_I β 354 sc).toInt = (if N ≤ q then 0 else (tkN t N q : Int) - q) := by
    by_cases h : N ≤ q
    · rw [if_pos h] at hn ⊢
      rw [ii_sub (by omega) (by omega), hn, hp]; omega
    · rw [if_neg h] at hn ⊢
      have := hb (by omega)
      rw [ii_sub (by omega) (by omega), hn, hp]
  have f1 : sf sc β (hp_sI β 355 sc (hp_I β 352 sc - hp_I β 354 sc)) := sf_sI (by decide)
  have f2 : sf sc (hp_sI β 355 sc (hp_I β 352 sc - hp_I β 354 sc)) (hp_sI (hp_sI β 355 sc (hp_I β 352 sc - hp_I β 354 sc)) 356 sc 0) := sf_sI (by decide)
  refine ws_l (ws_l (ws_l (ws_l (ws_m (k_adv_177 n n 0 0 _ (SB_sf (SB_sf hB f1) f2) ?_ ?_ ?_ ?_ rfl (by omega) (fun _ => Nat.zero_le _) (fun _ => ?_) (by omega)) (fun γ hγ => ⟨hγ.1, sf_tr (sf_tr f1 f2) hγ.2⟩)))))
  · rw [hI_sI, if_neg (by omega), hI_sI, if_neg (by omega)]; exact hp
  · rw [hI_sI, if_neg (by omega), hI_sI, if_neg (by omega)]; exact hk
  · rw [hI_sI, if_neg (by omega), hI_sI, if_neg (by omega)]; exact hn
  · rw [hI_sI, if_neg (by omega), hI_sI, if_pos ⟨rfl, rfl⟩]; exact hd
  · rw [hI_sI, if_pos ⟨rfl, rfl⟩]; rfl
/-- the run behind a word's or a number's first letter -/
theorem k_adv_100 (n : Nat) (hn7 : 70000 ≤ n) {sc N q : Nat} {t : Nat → Int32} (hq : q < N) : ∀ (d r : Nat) (jI : Int32) (β : hp_T), SB β sc t N → (hp_I β 354 sc).toInt = (q : Int) → hp_I β 353 sc = tkK t N q → (hp_I β 352 sc).toInt = (r : Int) → q + 1 ≤ r → r ≤ N → (tkK t N q = 1 → tkN t N q = ru isL t (N - r) r) → (tkK t N q = 2 → tkN t N q = ru isD t (N - r) r) → (tkK t N q ≠ 1 → tkK t N q ≠ 2 → tkN t N q = r) → jI.toInt + q + 1 = (r : Int) → N + 1 - r ≤ d → ws (f_X6_advance_L100 n sc d β jI) (fun γ => SCT γ sc t N q ∧ sf sc β γ) := by
  intro d
  induction d with
  | zero => intro r jI β hB hp hk hn h1 h2 h3 h4 h5 h6 h7; omega
  | succ d ih =>
    intro r jI β hB hp hk hn h1 h2 h3 h4 h5 h6 h7
    have hN := hB.1
    have L := t_900
    have hend : tkN t N q = r → ws (f_X6_advance_J157 n sc β) (fun γ => SCT γ sc t N q ∧ sf sc β γ) := fun h => k_adv_157 n hn7 hB hp (by omega) hk (by rw [if_neg (by omega), h]; exact hn)
    have hJ : ∀ (g : Int32 → Bool), (∀ c, (kof c = tkK t N q) ↔ g c = true) → g 0 = false → tkN t N q = ru g t (N - r) r → (∀ r', tkK t N q = 1 → ru isL t (N - r') r' = ru g t (N - r') r') → (∀ r', tkK t N q = 2 → ru isD t (N - r') r' = ru g t (N - r') r') → (tkK t N q = 1 ∨ tkK t N q = 2) → ws (f_X6_advance_J123 n sc (f_X6_advance_L100 n sc d) β jI) (fun γ => SCT γ sc t N q ∧ sf sc β γ) := by
      intro g hg h0 hr hg1 hg2 hor
      unfold f_X6_advance_J123
      refine ws_l (ws_b (k_byteAt n hB r _ hn) (fun c hc => ws_b (k_kindOf n c) (fun kc hkc => ws_l (ws_i (fun e => ?_) (fun e => ?_)))))
      · have hgc : g c = true := (hg c).mp (hkc.symm.trans (e.trans hk))
        have hrN : r < N := by
          refine Nat.lt_of_not_le (fun h => ?_)
          rw [if_neg (by omega)] at hc
          rw [hc, h0] at hgc
          exact absurd hgc (by decide)
        rw [if_pos hrN] at hc
        have f : sf sc β (hp_sI β 352 sc (hp_I β 352 sc + (1 : Int32))) := sf_sI (by decide)
        have hstep : ru g t (N - r) r = ru g t (N - (r + 1)) (r + 1) := by
          rw [show N - r = (N - (r + 1)) + 1 by omega, ru, if_pos (by rw [← hc]; exact hgc)]
        refine ws_l (ws_l (ws_l (ws_m (ih (r + 1) _ _ (SB_sf hB f) (by rw [hI_sI, if_neg (by omega)]; exact hp) (by rw [hI_sI, if_neg (by omega)]; exact hk) (by rw [hI_sI, if_pos ⟨rfl, rfl⟩, ii_add (by rw [lt1]; omega) (by rw [lt1]; omega), hn, lt1]; omega) (by omega) (by omega) (fun h => ?_) (fun h => ?_) (fun h1 h2 => ?_) (by rw [ii_add (by rw [lt1]; omega) (by rw [lt1]; omega), lt1]; omega) (by omega)) (fun γ hγ => ⟨hγ.1, sf_tr f hγ.2⟩))))
        · rw [hr, hstep, hg1 _ h]
        · rw [hr, hstep, hg2 _ h]
        · rcases hor with h | h
          · exact absurd h h1
          · exact absurd h h2
      · refine hend ?_
        by_cases hrN : r < N
        · rw [if_pos hrN] at hc
          rw [hr, show N - r = (N - (r + 1)) + 1 by omega, ru, if_neg]
          intro hgc
          rw [← hc] at hgc
          exact e (hkc.trans (((hg c).mpr hgc).trans hk.symm))
        · rw [hr, show N - r = 0 by omega, ru]
    rw [f_X6_advance_L100.eq_2]
    refine ws_le (fun e => by omega) (fun _ => ws_l (ws_i (fun e => ?_) (fun e => ws_l (ws_i (fun e2 => ?_) (fun e2 => ?_)))))
    · have hk1 : tkK t N q = 1 := hk.symm.trans e
      exact hJ isL (fun c => by rw [hk1]; exact kof_L) (by decide) (h3 hk1) (fun _ _ => rfl) (fun _ h => by rw [hk1] at h; exact absurd h (by decide)) (Or.inl hk1)
    · have hk2 : tkK t N q = 2 := hk.symm.trans e2
      refine hJ isD (fun c => ?_) (by decide) (h4 hk2) (fun _ h => by rw [hk2] at h; exact absurd h (by decide)) (fun _ _ => rfl) (Or.inr hk2)
      rw [hk2, kof_D]
      constructor
      · intro h; exact h.2
      · intro h
        refine ⟨?_, h⟩
        unfold isD at h
        unfold isL
        simp at h ⊢
        omega
    · exact hend (h5 (fun h => e (hk.trans h)) (fun h => e2 (hk.trans h)))
theorem k_adv_39 (n : Nat) (hn7 : 70000 ≤ n) {β : hp_T} {sc N q : Nat} {t : Nat → Int32} (hB : SB β sc t N) (hq : q ≤ N) (hn : (hp_I β 352 sc).toInt = (q : Int)) : ws (f_X6_advance_J39 n sc β) (fun γ => SCT γ sc t N q ∧ sf sc β γ) := by
  have hN := hB.1
  have f1 : sf sc β (hp_sI β 354 sc (hp_I β 352 sc)) := sf_sI (by decide)
  have hB1 := SB_sf hB f1
  have hJ : ∀ w, w = tkK t N q → ws (f_X6_advance_J74 n sc (hp_sI β 354 sc (hp_I β 352 sc)) w sc) (fun γ => SCT γ sc t N q ∧ sf sc β γ) := by
    intro w hw
    unfold f_X6_advance_J74
    have f2 : sf sc (hp_sI β 354 sc (hp_I β 352 sc)) (hp_sI (hp_sI β 354 sc (hp_I β 352 sc)) 353 sc w) := sf_sI (by decide)
    have hB2 := SB_sf hB1 f2
    refine ws_l (ws_l (ws_l (ws_i (fun e => ?_) (fun e => ?_))))
    · rw [hI_sI, if_pos ⟨rfl, rfl⟩] at e
      have hqN : N ≤ q := by
        refine Nat.le_of_not_lt (fun h => ?_)
        rw [hw] at e
        unfold tkK at e
        rw [if_neg (by omega)] at e
        exact kof_0 e
      unfold f_X6_advance_J94
      obtain ⟨n', rfl⟩ : ∃ n', n = n' + 1 := ⟨n - 1, by omega⟩
      have f3 : sf sc (hp_sI (hp_sI β 354 sc (hp_I β 352 sc)) 353 sc w) (hp_sI (hp_sI (hp_sI β 354 sc (hp_I β 352 sc)) 353 sc w) 352 sc (hp_I (hp_sI (hp_sI β 354 sc (hp_I β 352 sc)) 353 sc w) 352 sc + (0 : Int32))) := sf_sI (by decide)
      have hk0 : tkK t N q = 0 := hw.symm.trans e
      refine ws_l ?_
      rw [f_X6_advance_L100.eq_2]
      refine ws_le (fun e => absurd e (by decide)) (fun _ => ws_l (ws_i (fun e1 => ?_) (fun _ => ws_l (ws_i (fun e1 => ?_) (fun _ => ?_)))))
      · rw [hI_sI, if_neg (by omega), hI_sI, if_pos ⟨rfl, rfl⟩, e] at e1; exact absurd e1 (by decide)
      · rw [hI_sI, if_neg (by omega), hI_sI, if_pos ⟨rfl, rfl⟩, e] at e1; exact absurd e1 (by decide)
      · refine ws_m (k_adv_157 (n' + 1) hn7 (SB_sf hB2 f3) ?_ (by omega) ?_ ?_) (fun γ hγ => ⟨hγ.1, sf_tr (sf_tr (sf_tr f1 f2) f3) hγ.2⟩)
        · rw [hI_sI, if_neg (by omega), hI_sI, if_neg (by omega), hI_sI, if_pos ⟨rfl, rfl⟩]; exact hn
        · rw [hI_sI, if_neg (by omega), hI_sI, if_pos ⟨rfl, rfl⟩]; exact hw
        · rw [if_pos hqN, hI_sI, if_pos ⟨rfl, rfl⟩, hI_sI, if_neg (by omega), hI_sI, if_neg (by omega), ii_add (by rw [lt0]; omega) (by rw [lt0]; omega), lt0, hn]; omega
    · rw [hI_sI, if_pos ⟨rfl, rfl⟩] at e
      have hqN : q < N := by
        refine Nat.lt_of_not_le (fun h => e ?_)
        rw [hw]
        unfold tkK
        rw [if_pos h]
      unfold f_X6_advance_J94
      have f3 : sf sc (hp_sI (hp_sI β 354 sc (hp_I β 352 sc)) 353 sc w) (hp_sI (hp_sI (hp_sI β 354 sc (hp_I β 352 sc)) 353 sc w) 352 sc (hp_I (hp_sI (hp_sI β 354 sc (hp_I β 352 sc)) 353 sc w) 352 sc + (1 : Int32))) := sf_sI (by decide)
      have hkK : tkK t N q = kof (t q) := by unfold tkK; rw [if_neg (by omega)]
      refine ws_l (ws_m (k_adv_100 n hn7 hqN n (q + 1) 0 _ (SB_sf hB2 f3) ?_ ?_ ?_ (Nat.le_refl _) (by omega) (fun h => ?_) (fun h => ?_) (fun h1 h2 => ?_) (by rw [lt0]; omega) (by omega)) (fun γ hγ => ⟨hγ.1, sf_tr (sf_tr (sf_tr f1 f2) f3) hγ.2⟩))
      · rw [hI_sI, if_neg (by omega), hI_sI, if_neg (by omega), hI_sI, if_pos ⟨rfl, rfl⟩]; exact hn
      · rw [hI_sI, if_neg (by omega), hI_sI, if_pos ⟨rfl, rfl⟩]; exact hw
      · rw [hI_sI, if_pos ⟨rfl, rfl⟩, hI_sI, if_neg (by omega), hI_sI, if_neg (by omega), ii_add (by rw [lt1]; omega) (by rw [lt1]; omega), lt1, hn]; omega
      · rw [hkK] at h
        have hL := kof_L.mp h
        unfold tkN
        rw [if_neg (by omega), if_pos hL, show N - q = (N - (q + 1)) + 1 by omega, ru, if_pos hL]
      · rw [hkK] at h
        obtain ⟨hL, hD⟩ := kof_D.mp h
        unfold tkN
        rw [if_neg (by omega), if_neg (by rw [hL]; decide), if_pos hD, show N - q = (N - (q + 1)) + 1 by omega, ru, if_pos hD]
      · rw [hkK] at h1 h2
        unfold tkN
        rw [if_neg (by omega), if_neg (fun h => h1 (kof_L.mpr h)), if_neg (fun h => h2 (kof_D.mpr ⟨by cases hh : isL (t q); rfl; exact absurd (kof_L.mpr hh) h1, h⟩))]
  unfold f_X6_advance_J39
  refine ws_l (ws_l (ws_l (ws_l (ws_le (fun e => hJ 0 ?_) (fun e => ws_l ?_)))))
  · rw [hB1.2.1, hI_sI, if_neg (by omega), hn] at e
    unfold tkK
    rw [if_pos (by omega)]
  · rw [hB1.2.1, hI_sI, if_neg (by omega), hn] at e
    refine ws_b (k_byteAt n hB1 q _ (by rw [hI_sI, if_neg (by omega)]; exact hn)) (fun c hc => ws_b (k_kindOf n c) (fun kc hkc => hJ kc ?_))
    rw [if_pos (by omega)] at hc
    rw [hkc, hc]
    unfold tkK
    rw [if_neg (by omega)]
theorem k_adv_2 (n : Nat) (hn7 : 70000 ≤ n) {sc N : Nat} {t : Nat → Int32} : ∀ (d p : Nat) (jI : Int32) (β : hp_T), SB β sc t N → p ≤ N → (hp_I β 352 sc).toInt = (p : Int) → 0 ≤ jI.toInt → jI.toInt ≤ (p : Int) → N + 1 - p ≤ d → ws (f_X6_advance_L2 n sc d β jI) (fun γ => SCT γ sc t N (tkP t N p) ∧ sf sc β γ) := by
  intro d
  induction d with
  | zero => intro p jI β hB hp hn h0 h1 h2; omega
  | succ d ih =>
    intro p jI β hB hp hn h0 h1 h2
    have hN := hB.1
    have L := t_900
    rw [f_X6_advance_L2.eq_2]
    have hend : (p < N → isB (t p) = false) → ws (f_X6_advance_J39 n sc β) (fun γ => SCT γ sc t N (tkP t N p) ∧ sf sc β γ) := by
      intro h
      have e : tkP t N p = p := by
        unfold tkP
        by_cases hpN : p < N
        · rw [show N - p = (N - p - 1) + 1 by omega, ru, if_neg (by rw [h hpN]; decide)]
        · rw [show N - p = 0 by omega, ru]
      rw [e]
      exact k_adv_39 n hn7 hB hp hn
    refine ws_le (fun e => hend (fun h => by omega)) (fun _ => ws_l (ws_b (k_byteAt n hB p _ hn) (fun c hc => wk_bo (k_isBlank n c) (fun hb => hend (fun h => ?_)) (fun hb => ?_))))
    · rw [if_pos h] at hc
      rw [← hc]
      cases hh : isB c
      · rfl
      · exact absurd hh hb
    · have hpN : p < N := by
        refine Nat.lt_of_not_le (fun h => ?_)
        rw [if_neg (by omega)] at hc
        rw [hc] at hb
        exact absurd hb (by decide)
      rw [if_pos hpN] at hc
      have f : sf sc β (hp_sI β 352 sc (hp_I β 352 sc + (1 : Int32))) := sf_sI (by decide)
      have e : tkP t N p = tkP t N (p + 1) := by
        unfold tkP
        rw [show N - p = (N - (p + 1)) + 1 by omega, ru, if_pos (by rw [← hc]; exact hb)]
      rw [e]
      refine ws_l (ws_l (ws_l (ws_m (ih (p + 1) _ _ (SB_sf hB f) (by omega) (by rw [hI_sI, if_pos ⟨rfl, rfl⟩, ii_add (by rw [lt1]; omega) (by rw [lt1]; omega), hn, lt1]; omega) (by rw [ii_add (by rw [lt1]; omega) (by rw [lt1]; omega), lt1]; omega) (by rw [ii_add (by rw [lt1]; omega) (by rw [lt1]; omega), lt1]; omega) (by omega)) (fun γ hγ => ⟨hγ.1, sf_tr f hγ.2⟩))))
theorem k_advance (n : Nat) (hn7 : 70000 ≤ n) {sc N p : Nat} {t : Nat → Int32} {β : hp_T} (hB : SB β sc t N) (hp : p ≤ N) (hn : (hp_I β 352 sc).toInt = (p : Int)) : ws (f_X6_advance n β sc) (fun γ => SCT γ sc t N (tkP t N p) ∧ sf sc β γ) := by
  have hN := hB.1
  unfold f_X6_advance
  exact k_adv_2 n hn7 n p 0 β hB hp hn (by decide) (by rw [lt0]; omega) (by omega)
