section JN8_0
/-! ===== what holds of whatever comes out ===== -/
def pr {R : Type} (o : Option R) (P : R → Prop) : Prop := ∀ r, o = some r → P r
section PR
variable {A S R : Type} {P Q : R → Prop} {i j : Int32} {n : Nat} {k : Option R}
theorem pr_0 : pr (none : Option R) P := fun _ h => by cases h
theorem pr_s {r : R} (h : P r) : pr (some r) P := fun r' e => by cases e; exact h
theorem pr_m {o : Option R} (h : pr o P) (g : ∀ r, P r → Q r) : pr o Q := fun r e => g r (h r e)
theorem pr_g (h : 0 ≤ i.toInt → i.toInt < (n : Int) → pr k P) : pr (ms_g i n k) P := fun r e => by
  obtain ⟨⟨h0, h1⟩, e⟩ := ms_gE e
  exact h h0 h1 r e
theorem pr_n (h : ¬ i = 0 → pr k P) : pr (ms_n i k) P := fun r e => h (ms_nE e).1 r (ms_nE e).2
theorem pr_nl {i : Int64} (h : ¬ i = 0 → pr k P) : pr (ms_nl i k) P := fun r e => h (ms_nlE e).1 r (ms_nlE e).2
theorem pr_q (h : 0 ≤ i.toInt → i.toInt < j.toInt → pr k P) : pr (ms_q i j k) P := fun r e => h (ms_qE e).1.1 (ms_qE e).1.2 r (ms_qE e).2
theorem pr_l {v : A} {k : A → Option R} (h : pr (k v) P) : pr (ms_l v k) P := h
theorem pr_ln {v : A} {k : A → Option R} (h : ∀ x, x = v → pr (k x) P) : pr (ms_l v k) P := h v rfl
theorem pr_b {x : Option A} {k : A → Option R} {T : A → Prop} (h : pr x T) (g : ∀ a, T a → pr (k a) P) : pr (ms_b x k) P := fun r e => by
  obtain ⟨a, e1, e2⟩ := ms_bE e
  exact g a (h a e1) r e2
theorem pr_c {x : Option (A × ms_T)} {k : A → ms_T → Option R} {T : A × ms_T → Prop} (h : pr x T) (g : ∀ a τ, T (a, τ) → pr (k a τ) P) : pr (ms_c x k) P := fun r e => by
  obtain ⟨a, τ, e1, e2⟩ := ms_cE e
  exact g a τ (h _ e1) r e2
theorem pr_i {c : Prop} [Decidable c] {a b : Option R} (h : c → pr a P) (g : ¬ c → pr b P) : pr (if c then a else b) P := by
  by_cases e : c
  · rw [if_pos e]; exact h e
  · rw [if_neg e]; exact g e
theorem pr_lt {a b : Option R} (h : i.toInt < j.toInt → pr a P) (g : j.toInt ≤ i.toInt → pr b P) : pr (if i < j then a else b) P := pr_i (fun e => h (il_lt e)) (fun e => g (il_nlt e))
theorem pr_le {a b : Option R} (h : i.toInt ≤ j.toInt → pr a P) (g : j.toInt < i.toInt → pr b P) : pr (if i ≤ j then a else b) P := pr_i (fun e => h (il_le e)) (fun e => g (il_nle e))
theorem pr_e {a b : Option R} (h : i = j → pr a P) (g : ¬ i.toInt = j.toInt → pr b P) : pr (if i = j then a else b) P := pr_i h (fun e => g (il_ne e))
theorem ws_pr {o : Option R} (h : ws o P) (g : pr o Q) : ws o (fun r => P r ∧ Q r) := by
  obtain ⟨r, e, p⟩ := h
  exact ⟨r, e, p, g r e⟩
theorem ws_hc {x : Option (A × S)} {k : A → S → Option R} {T : A × S → Prop} (h : ws x T) (g : ∀ a τ, T (a, τ) → ws (k a τ) P) : ws (hq_c x k) P := by
  obtain ⟨⟨a, τ⟩, rfl, q⟩ := h
  exact g a τ q
end PR
theorem hI_sI {α : hp_T} {φ a ψ b : Nat} {v : Int32} : hp_I (hp_sI α φ a v) ψ b = if ψ = φ ∧ b = a then v else hp_I α ψ b := rfl
theorem hI_sE {α : hp_T} {κ a j ψ b : Nat} {v : Int32} : hp_I (hp_sE α κ a j v) ψ b = hp_I α ψ b := rfl
theorem hE_sI {α : hp_T} {φ a κ b j : Nat} {v : Int32} : hp_E (hp_sI α φ a v) κ b j = hp_E α κ b j := rfl
theorem hE_sE {α : hp_T} {κ a i κ' b j : Nat} {v : Int32} : hp_E (hp_sE α κ a i v) κ' b j = if κ' = κ ∧ b = a ∧ j = i then v else hp_E α κ' b j := rfl
theorem hR_sI {α : hp_T} {φ a ψ b : Nat} {v : Int32} : hp_R (hp_sI α φ a v) ψ b = hp_R α ψ b := rfl
theorem hR_sE {α : hp_T} {κ a j ψ b : Nat} {v : Int32} : hp_R (hp_sE α κ a j v) ψ b = hp_R α ψ b := rfl
theorem hR_sR {α : hp_T} {φ a x ψ b : Nat} : hp_R (hp_sR α φ a x) ψ b = if ψ = φ ∧ b = a then x else hp_R α ψ b := rfl
theorem i_ofN {v : Int32} {k : Nat} (h : v.toInt = (k : Int)) : v = Int32.ofNat k := by
  rw [← Int32.toInt_inj, h, Int32.toInt_ofNat_of_lt]
  have := ib_hi v
  omega
end JN8_0
section JN8_1
def p0 (m : Nat) : Nat := 2 ^ Nat.log2 (m - 1)
theorem p0_lt {m : Nat} (h : 2 ≤ m) : p0 m < m := by
  have := Nat.log2_self_le (n := m - 1) (by omega)
  unfold p0; omega
theorem p0_le {m : Nat} : m ≤ 2 * p0 m := by
  have := Nat.lt_log2_self (n := m - 1)
  unfold p0; rw [Nat.pow_succ] at this; omega
theorem p0_pos (m : Nat) : 1 ≤ p0 m := Nat.one_le_two_pow
theorem p0_un {m e : Nat} (h1 : 2 ^ e < m) (h2 : m ≤ 2 * 2 ^ e) : p0 m = 2 ^ e := by
  unfold p0
  have h3 := Nat.log2_self_le (n := m - 1) (by omega)
  have h4 := Nat.lt_log2_self (n := m - 1)
  have h5 : ¬ Nat.log2 (m - 1) < e := fun h => by
    have : 2 ^ (Nat.log2 (m - 1) + 1) ≤ 2 ^ e := Nat.pow_le_pow_right (by decide) h
    omega
  have h6 : ¬ e < Nat.log2 (m - 1) := fun h => by
    have : 2 ^ (e + 1) ≤ 2 ^ Nat.log2 (m - 1) := Nat.pow_le_pow_right (by decide) h
    rw [Nat.pow_succ] at this
    omega
  rw [show Nat.log2 (m - 1) = e by omega]
theorem p0_dn {m e : Nat} (h : 2 ≤ m) (h2 : m ≤ 2 ^ (e + 1)) : p0 m ≤ 2 ^ e := by
  have h3 := p0_lt h
  unfold p0 at *
  apply Nat.pow_le_pow_right (by decide)
  have h6 : ¬ e < Nat.log2 (m - 1) := fun h => by
    have : 2 ^ (e + 1) ≤ 2 ^ Nat.log2 (m - 1) := Nat.pow_le_pow_right (by decide) h
    omega
  omega
def Lz (x : Nat) (C r : Int) : Prop := ∃ e : Nat, r = C - e ∧ 2 ^ e ≤ x ∧ x < 2 * 2 ^ e
theorem Lz_1 {x : Nat} {C r : Int} (h0 : 1 ≤ x) (h1 : x < 4) (hr : r = C - (x / 2 : Nat)) : Lz x C r := by
  refine ⟨x / 2, hr, ?_⟩
  have : x = 1 ∨ x = 2 ∨ x = 3 := by omega
  rcases this with rfl | rfl | rfl <;> decide
theorem Lz_s {x d s : Nat} {C r : Int} (hd : d = 2 ^ s) (h : Lz (x / d) (C - s) r) : Lz x C r := by
  obtain ⟨e, h1, h2, h3⟩ := h
  subst hd
  have hp : 0 < 2 ^ s := Nat.two_pow_pos s
  refine ⟨e + s, by omega, ?_, ?_⟩
  · rw [Nat.pow_add]; exact (Nat.le_div_iff_mul_le hp).mp h2
  · rw [Nat.pow_add]
    have := (Nat.div_lt_iff_lt_mul hp).mp h3
    rw [Nat.mul_assoc] at this; exact this
theorem and_hb {a e : Nat} (h1 : 2 ^ e ≤ a) (h2 : a < 2 * 2 ^ e) : a &&& 2 ^ e = 2 ^ e := by
  have h3 : a / 2 ^ e = 1 := Nat.div_eq_of_lt_le (by omega) (by omega)
  have t : a.testBit e = true := by rw [Nat.testBit_eq_decide_div_mod_eq, h3]; decide
  apply Nat.eq_of_testBit_eq
  intro i
  rw [Nat.testBit_and, Nat.testBit_two_pow]
  by_cases hi : e = i
  · subst hi; simp [t]
  · simp [hi]
theorem hb_sh : ∀ j : Nat, j < 31 → (((-2147483648 : Int32)).toUInt32 >>> ((Int32.ofNat (31 - j)).toUInt32 &&& Int32.toUInt32 31)).toInt32.toBitVec.toNat = 2 ^ j := by decide
def wyT : Nat → Nat → Nat → Nat → List (Nat × Nat × Bool)
  | 0, _, _, _ => []
  | d + 1, i, f, m => if m ≤ 1 then [] else if i < p0 m then (f + p0 m, m - p0 m, false) :: wyT d i f (p0 m) else (f, p0 m, true) :: wyT d (i - p0 m) (f + p0 m) (m - p0 m)
theorem wyT_len : ∀ (d i f m : Nat), (wyT d i f m).length ≤ d := by
  intro d
  induction d with
  | zero => intro i f m; exact Nat.le_refl _
  | succ d ih =>
    intro i f m
    rw [wyT]
    split
    · exact Nat.zero_le _
    · split
      · exact Nat.succ_le_succ (ih _ _ _)
      · exact Nat.succ_le_succ (ih _ _ _)
/-- of growth: below the whole the last tree of the older things is asked, too -/
def wyG : Nat → Nat → Nat → Nat → Bool → List (Nat × Nat × Bool)
  | 0, _, _, _, _ => []
  | d + 1, i, f, m, w => if i = m then (if w then [] else [(f, m, false)]) else if i ≤ p0 m then (f + p0 m, m - p0 m, false) :: wyG d i f (p0 m) w else (f, p0 m, true) :: wyG d (i - p0 m) (f + p0 m) (m - p0 m) false
theorem wyG_len : ∀ (d i f m : Nat) (w : Bool), (wyG d i f m w).length ≤ d := by
  intro d
  induction d with
  | zero => intro i f m w; exact Nat.le_refl _
  | succ d ih =>
    intro i f m w
    rw [wyG]
    split
    · split
      · exact Nat.zero_le _
      · exact Nat.succ_le_succ (Nat.zero_le _)
    · split
      · exact Nat.succ_le_succ (ih _ _ _ _)
      · exact Nat.succ_le_succ (ih _ _ _ _)
end JN8_1
section JN8_2
/-! ===== the greatest power of two below; ways: the reference's and the class's ===== -/
theorem v_part0_L (n : Nat) : ∀ (k : Nat) (v p : Int32) (e : Nat), p.toInt = ((2 ^ e : Nat) : Int) → p.toInt < v.toInt → pr (f_X12_part0_L2 n k v p) (fun r => r.toInt = (p0 v.toInt.toNat : Int)) := by
  intro k
  induction k with
  | zero => intro v p e h1 h2; rw [f_X12_part0_L2.eq_1]; exact pr_0
  | succ k ih =>
    intro v p e h1 h2
    have hp : 1 ≤ 2 ^ e := Nat.one_le_two_pow
    have hv := ib_hi v
    have hs : (v - p).toInt = v.toInt - p.toInt := ii_sub (by omega) (by omega)
    rw [f_X12_part0_L2.eq_2]
    refine pr_le (fun h => pr_s ?_) (fun h => pr_l (ih _ _ (e + 1) ?_ ?_))
    · rw [p0_un (m := v.toInt.toNat) (e := e) (by omega) (by omega), h1]
    · rw [ii_add (by omega) (by omega), Nat.pow_succ]; omega
    · rw [ii_add (by omega) (by omega)]; omega
theorem v_part0 (n : Nat) (v : Int32) (h : 2 ≤ v.toInt) : pr (f_X12_part0 n v) (fun r => r.toInt = (p0 v.toInt.toNat : Int)) :=
  v_part0_L n n v 1 0 (by decide) (by rw [lt1]; omega)
theorem tI_N (x : Int32) (h : x.toBitVec.toNat < 2147483648) : x.toInt = (x.toBitVec.toNat : Int) := by
  show BitVec.toInt _ = _
  rw [BitVec.toInt_eq_toNat_cond, if_pos (by omega)]
theorem t_m2 : (-2 : Int32).toInt = -2 := by decide
theorem t_m4 : (-4 : Int32).toInt = -4 := by decide
theorem t_m8 : (-8 : Int32).toInt = -8 := by decide
theorem k_nlz73 (n : Nat) (v c : Int32) (h0 : 1 ≤ v.toInt) (h1 : v.toInt < 4) (c0 : 1 ≤ c.toInt) (c1 : c.toInt ≤ 31) : ws (f_J6_numberOfLeadingZeros_0f7a4_J73 n v c) (fun r => Lz v.toInt.toNat c.toInt r.toInt) := by
  unfold f_J6_numberOfLeadingZeros_0f7a4_J73
  obtain ⟨b1, b2⟩ := bN v (by omega)
  have e1 := n_sh1 v
  have e2 := tI_N _ (by rw [e1]; omega)
  rw [e1] at e2
  exact ws_s (Lz_1 (by omega) (by omega) (by rw [ii_sub (by rw [e2]; omega) (by rw [e2]; omega), e2]; omega))
theorem k_nlz61 (n : Nat) (v c : Int32) (h0 : 1 ≤ v.toInt) (h1 : v.toInt < 16) (c0 : 3 ≤ c.toInt) (c1 : c.toInt ≤ 31) : ws (f_J6_numberOfLeadingZeros_0f7a4_J61 n v c) (fun r => Lz v.toInt.toNat c.toInt r.toInt) := by
  unfold f_J6_numberOfLeadingZeros_0f7a4_J61
  have L4 := t_4
  have L16 := t_16
  refine ws_lt (fun h => k_nlz73 n v c h0 (by omega) (by omega) c1) (fun h => ?_)
  obtain ⟨b1, b2⟩ := bN v (by omega)
  have e1 := n_sh2 v
  have e2 := tI_N _ (by rw [e1]; omega)
  rw [e1] at e2
  have e3 : (c + (-2)).toInt = c.toInt - 2 := by rw [ii_add (by rw [t_m2]; omega) (by rw [t_m2]; omega), t_m2]; omega
  refine ws_l (ws_l (ws_m (k_nlz73 n _ _ (by rw [e2]; omega) (by rw [e2]; omega) (by omega) (by omega)) (fun r hr => ?_)))
  rw [e2, e3] at hr
  refine Lz_s (d := 4) (s := 2) rfl ?_
  rw [show v.toInt.toNat / 4 = ((v.toBitVec.toNat / 4 : Nat) : Int).toNat by omega]
  exact hr
theorem k_nlz48 (n : Nat) (v c : Int32) (h0 : 1 ≤ v.toInt) (h1 : v.toInt < 256) (c0 : 7 ≤ c.toInt) (c1 : c.toInt ≤ 31) : ws (f_J6_numberOfLeadingZeros_0f7a4_J48 n v c) (fun r => Lz v.toInt.toNat c.toInt r.toInt) := by
  unfold f_J6_numberOfLeadingZeros_0f7a4_J48
  have L4 := t_4
  have L16 := t_16
  refine ws_lt (fun h => k_nlz61 n v c h0 (by omega) (by omega) c1) (fun h => ?_)
  obtain ⟨b1, b2⟩ := bN v (by omega)
  have e1 := n_sh4 v
  have e2 := tI_N _ (by rw [e1]; omega)
  rw [e1] at e2
  have e3 : (c + (-4)).toInt = c.toInt - 4 := by rw [ii_add (by rw [t_m4]; omega) (by rw [t_m4]; omega), t_m4]; omega
  refine ws_l (ws_l (ws_m (k_nlz61 n _ _ (by rw [e2]; omega) (by rw [e2]; omega) (by omega) (by omega)) (fun r hr => ?_)))
  rw [e2, e3] at hr
  refine Lz_s (d := 16) (s := 4) rfl ?_
  rw [show v.toInt.toNat / 16 = ((v.toBitVec.toNat / 16 : Nat) : Int).toNat by omega]
  exact hr
theorem k_nlz33 (n : Nat) (v c : Int32) (h0 : 1 ≤ v.toInt) (h1 : v.toInt < 65536) (c0 : 15 ≤ c.toInt) (c1 : c.toInt ≤ 31) : ws (f_J6_numberOfLeadingZeros_0f7a4_J33 n v c) (fun r => Lz v.toInt.toNat c.toInt r.toInt) := by
  unfold f_J6_numberOfLeadingZeros_0f7a4_J33
  have t256 : (256 : Int32).toInt = 256 := by decide
  refine ws_lt (fun h => k_nlz48 n v c h0 (by omega) (by omega) c1) (fun h => ?_)
  obtain ⟨b1, b2⟩ := bN v (by omega)
  have e1 := n_sh8 v
  have e2 := tI_N _ (by rw [e1]; omega)
  rw [e1] at e2
  have e3 : (c + (-8)).toInt = c.toInt - 8 := by rw [ii_add (by rw [t_m8]; omega) (by rw [t_m8]; omega), t_m8]; omega
  refine ws_l (ws_l (ws_m (k_nlz48 n _ _ (by rw [e2]; omega) (by rw [e2]; omega) (by omega) (by omega)) (fun r hr => ?_)))
  rw [e2, e3] at hr
  refine Lz_s (d := 256) (s := 8) rfl ?_
  rw [show v.toInt.toNat / 256 = ((v.toBitVec.toNat / 256 : Nat) : Int).toNat by omega]
  exact hr
theorem k_nlz (n : Nat) (v : Int32) (h0 : 1 ≤ v.toInt) : ws (f_J6_numberOfLeadingZeros_0f7a4 n v) (fun r => Lz v.toInt.toNat 31 r.toInt) := by
  unfold f_J6_numberOfLeadingZeros_0f7a4
  have L := lits
  have t6 : (65536 : Int32).toInt = 65536 := by decide
  have t31 : (31 : Int32).toInt = 31 := by decide
  refine ws_lt (fun _ => ws_lt (fun h => ?_) (fun h => ?_)) (fun h => by omega)
  · have := k_nlz33 n v 31 h0 (by omega) (by decide) (by decide)
    rw [t31] at this
    exact this
  · obtain ⟨b1, b2⟩ := bN v (by omega)
    have e1 := n_sh16 v
    have e2 := tI_N _ (by rw [e1]; omega)
    rw [e1] at e2
    refine ws_l (ws_l (ws_m (k_nlz33 n _ _ (by rw [e2]; omega) (by rw [e2]; omega) (by decide) (by decide)) (fun r hr => ?_)))
    rw [e2, show ((31 : Int32) + (-16)).toInt = 15 by decide] at hr
    refine Lz_s (d := 65536) (s := 16) rfl ?_
    rw [show v.toInt.toNat / 65536 = ((v.toBitVec.toNat / 65536 : Nat) : Int).toNat by omega]
    exact hr
theorem k_hob (n : Nat) (v : Int32) (h0 : 1 ≤ v.toInt) : ws (f_J6_highestOneBit_0f7a4 n v) (fun r => r.toInt = (p0 (v.toInt.toNat + 1) : Int)) := by
  unfold f_J6_highestOneBit_0f7a4
  refine ws_b (k_nlz n v h0) (fun r hr => ws_s ?_)
  obtain ⟨e, h1, h2, h3⟩ := hr
  obtain ⟨b1, b2⟩ := bN v (by omega)
  have he : e < 31 := by
    refine Nat.lt_of_not_le (fun h => ?_)
    have : 2 ^ 31 ≤ 2 ^ e := Nat.pow_le_pow_right (by decide) h
    omega
  have hr2 : r = Int32.ofNat (31 - e) := i_ofN (by omega)
  have e1 := n_and v ((((-2147483648 : Int32)).toUInt32 >>> ((r).toUInt32 &&& Int32.toUInt32 31)).toInt32)
  rw [hr2, hb_sh e he, and_hb (by omega) (by omega)] at e1
  rw [hr2, tI_N _ (by rw [e1]; omega), e1, p0_un (m := v.toInt.toNat + 1) (e := e) (by omega) (by omega)]
theorem k_first (n : Nat) (v : Int32) (h : 2 ≤ v.toInt) : ws (f_X11_firstPartOf n v) (fun r => r.toInt = (p0 v.toInt.toNat : Int)) := by
  unfold f_X11_firstPartOf
  have L := lits
  have hv := ib_hi v
  have e1 : (v - 1).toInt = v.toInt - 1 := by rw [ii_sub (by rw [lt1]; omega) (by rw [lt1]; omega), lt1]
  refine ws_le (fun _ => ws_b (k_hob n (v - 1) (by omega)) (fun r hr => ws_s ?_)) (fun _ => by omega)
  rw [hr, e1, show (v.toInt - 1).toNat + 1 = v.toInt.toNat by omega]
def WS (σ : ms_T) (l : List (Nat × Nat × Bool)) : Prop := (ms_I σ 657).toInt = (l.length : Int) ∧ ∀ (k : Nat) (q : Nat × Nat × Bool), l[k]? = some q → (ms_E σ 42 k).toInt = (q.1 : Int) ∧ (ms_E σ 43 k).toInt = (q.2.1 : Int)
theorem ap_get {A : Type} {l : List A} {a q : A} {k : Nat} (h : (l ++ [a])[k]? = some q) : (k < l.length ∧ l[k]? = some q) ∨ (k = l.length ∧ q = a) := by
  by_cases hk : k < l.length
  · rw [List.getElem?_append_left hk] at h; exact Or.inl ⟨hk, h⟩
  · rw [List.getElem?_append_right (by omega)] at h
    have : k - l.length < [a].length := (List.getElem?_eq_some_iff.mp h).1
    have h1 : k - l.length = 0 := by simp at this; omega
    rw [h1] at h
    exact Or.inr ⟨by omega, (Option.some.inj h).symm⟩
theorem v_asks (n : Nat) {σ : ms_T} {l : List (Nat × Nat × Bool)} (h : WS σ l) (a b : Int32) (q : Nat × Nat × Bool) (ha : a.toInt = (q.1 : Int)) (hb : b.toInt = (q.2.1 : Int)) : pr (f_X12_asks n σ a b) (fun τ => WS τ (l ++ [q])) := by
  unfold f_X12_asks
  refine pr_g (fun g0 g1 => pr_l (pr_g (fun _ _ => pr_l (pr_l (pr_s ⟨?_, ?_⟩)))))
  · rw [mI_sI, if_pos rfl]
    show (ms_I σ 657 + 1).toInt = _
    rw [ii_add (by rw [lt1]; omega) (by rw [lt1]; omega), h.1, lt1, List.length_append]
    rfl
  · intro k r hk
    have hc : (ms_I σ 657).toNatClampNeg = l.length := cl_n h.1
    have hc2 : ∀ u, (ms_I (ms_sE σ 42 l.length u) 657).toNatClampNeg = l.length := fun _ => hc
    rw [mE_sI, mE_sI, hc, hc2, mE_sE, mE_sE, mE_sE, mE_sE]
    rcases ap_get hk with ⟨h1, h2⟩ | ⟨h1, h2⟩
    · have hne : ¬ k = l.length := by omega
      simpa [hne] using h.2 k r h2
    · subst h1; subst h2
      simpa using ⟨ha, hb⟩
theorem v_waysIn (n : Nat) : ∀ (d e : Nat) (σ : ms_T) (l : List (Nat × Nat × Bool)) (f i m : Nat) (fI iI mI : Int32), WS σ l → fI.toInt = (f : Int) → iI.toInt = (i : Int) → mI.toInt = (m : Int) → i < m → m ≤ 2 ^ e → f + m ≤ 2147483647 → pr (f_X12_waysIn n d σ fI iI mI) (fun τ => WS τ (l ++ (wyT e i f m).reverse)) := by
  intro d
  induction d with
  | zero => intro e σ l f i m fI iI mI hW hf hi hm him hme hfm; rw [f_X12_waysIn.eq_1]; exact pr_0
  | succ d ih =>
    intro e σ l f i m fI iI mI hW hf hi hm him hme hfm
    rw [f_X12_waysIn.eq_2]
    refine pr_e (fun h1 => ?_) (fun h1 => ?_)
    · have : m = 1 := by rw [h1, lt1] at hm; omega
      subst this
      refine pr_s ?_
      have e1 : wyT e i f 1 = [] := by cases e <;> simp [wyT]
      rw [e1, List.reverse_nil, List.append_nil]
      exact hW
    · rw [lt1, hm] at h1
      have hm2 : 2 ≤ m := by omega
      cases e with
      | zero => simp at hme; omega
      | succ e =>
      have hp1 := p0_lt hm2
      have hp2 := p0_le (m := m)
      have hp3 := p0_pos m
      have hp4 := p0_dn hm2 hme
      have e1 : wyT (e + 1) i f m = if i < p0 m then (f + p0 m, m - p0 m, false) :: wyT e i f (p0 m) else (f, p0 m, true) :: wyT e (i - p0 m) (f + p0 m) (m - p0 m) := by rw [wyT, if_neg (by omega)]
      rw [e1]
      refine pr_b (v_part0 n mI (by omega)) (fun r hr => ?_)
      rw [hm, Int.toNat_natCast] at hr
      refine pr_le (fun h2 => ?_) (fun h2 => ?_)
      · rw [if_neg (by omega)]
        refine pr_b (ih e σ l (f + p0 m) (i - p0 m) (m - p0 m) _ _ _ hW (by rw [ii_add (by omega) (by omega)]; omega) (by rw [ii_sub (by omega) (by omega)]; omega) (by rw [ii_sub (by omega) (by omega)]; omega) (by omega) (by omega) (by omega)) (fun τ hτ => pr_b (v_asks n hτ _ _ (f, p0 m, true) hf hr) (fun υ hυ => pr_s ?_))
        rw [List.reverse_cons, ← List.append_assoc]
        exact hυ
      · rw [if_pos (by omega)]
        refine pr_b (ih e σ l f i (p0 m) _ _ _ hW hf hi hr (by omega) hp4 (by omega)) (fun τ hτ => pr_b (v_asks n hτ _ _ (f + p0 m, m - p0 m, false) (by show _ = ((f + p0 m : Nat) : Int); rw [ii_add (by omega) (by omega)]; omega) (by show _ = ((m - p0 m : Nat) : Int); rw [ii_sub (by omega) (by omega)]; omega)) (fun υ hυ => pr_s ?_))
        rw [List.reverse_cons, ← List.append_assoc]
        exact hυ
theorem v_growsIn (n : Nat) : ∀ (d e : Nat) (σ : ms_T) (l : List (Nat × Nat × Bool)) (f i m : Nat) (fI iI mI wI : Int32) (w : Bool), WS σ l → fI.toInt = (f : Int) → iI.toInt = (i : Int) → mI.toInt = (m : Int) → 1 ≤ i → i ≤ m → m ≤ 2 ^ e → f + m ≤ 2147483647 → wI = (if w then 1 else 0) → pr (f_X12_growsIn n d σ fI iI mI wI) (fun τ => WS τ (l ++ (wyG (e + 1) i f m w).reverse)) := by
  intro d
  induction d with
  | zero => intro e σ l f i m fI iI mI wI w hW hf hi hm hi1 him hme hfm hw; rw [f_X12_growsIn.eq_1]; exact pr_0
  | succ d ih =>
    intro e σ l f i m fI iI mI wI w hW hf hi hm hi1 him hme hfm hw
    rw [f_X12_growsIn.eq_2, wyG]
    refine pr_e (fun h1 => ?_) (fun h1 => ?_)
    · have : i = m := by rw [h1] at hi; omega
      rw [if_pos this]
      cases w with
      | true =>
        subst hw
        refine pr_i (fun h => absurd h (by decide)) (fun _ => pr_s ?_)
        simpa using hW
      | false =>
        subst hw
        refine pr_i (fun _ => pr_b (v_asks n hW fI mI (f, m, false) hf hm) (fun υ hυ => pr_s ?_)) (fun h => absurd rfl h)
        simpa using hυ
    · rw [hi, hm] at h1
      rw [if_neg (by omega)]
      have hm2 : 2 ≤ m := by omega
      cases e with
      | zero => simp at hme; omega
      | succ e =>
      have hp1 := p0_lt hm2
      have hp2 := p0_le (m := m)
      have hp3 := p0_pos m
      have hp4 := p0_dn hm2 hme
      refine pr_b (v_part0 n mI (by omega)) (fun r hr => ?_)
      rw [hm, Int.toNat_natCast] at hr
      refine pr_lt (fun h2 => ?_) (fun h2 => ?_)
      · rw [if_neg (by omega)]
        refine pr_b (ih e σ l (f + p0 m) (i - p0 m) (m - p0 m) _ _ _ 0 false hW (by rw [ii_add (by omega) (by omega)]; omega) (by rw [ii_sub (by omega) (by omega)]; omega) (by rw [ii_sub (by omega) (by omega)]; omega) (by omega) (by omega) (by omega) (by omega) rfl) (fun τ hτ => pr_b (v_asks n hτ _ _ (f, p0 m, true) hf hr) (fun υ hυ => pr_s ?_))
        rw [List.reverse_cons, ← List.append_assoc]
        exact hυ
      · rw [if_pos (by omega)]
        refine pr_b (ih e σ l f i (p0 m) _ _ _ wI w hW hf hi hr (by omega) (by omega) hp4 (by omega) hw) (fun τ hτ => pr_b (v_asks n hτ _ _ (f + p0 m, m - p0 m, false) (by show _ = ((f + p0 m : Nat) : Int); rw [ii_add (by omega) (by omega)]; omega) (by show _ = ((m - p0 m : Nat) : Int); rw [ii_sub (by omega) (by omega)]; omega)) (fun υ hυ => pr_s ?_))
        rw [List.reverse_cons, ← List.append_assoc]
        exact hυ
theorem v_inclusion (n : Nat) (σ : ms_T) (i m : Int32) (h0 : 0 ≤ i.toInt) (h1 : i.toInt < m.toInt) : pr (f_X12_inclusion n σ i m) (fun τ => WS τ (wyT 31 i.toInt.toNat 0 m.toInt.toNat).reverse) := by
  have hm := ib_hi m
  unfold f_X12_inclusion
  refine pr_l (pr_b (v_waysIn n 40 31 _ [] 0 i.toInt.toNat m.toInt.toNat 0 i m ⟨by rw [mI_sI, if_pos rfl]; rfl, fun k q h => by simp at h⟩ rfl (by omega) (by omega) (by omega) (by omega) (by omega)) (fun τ hτ => pr_s ?_))
  simpa using hτ
/-- a growth's way: none from nothing, none to itself -/
def wyH (i m : Nat) : List (Nat × Nat × Bool) := if i = 0 then [] else wyG 32 i 0 m true
theorem v_growth (n : Nat) (σ : ms_T) (i m : Int32) (h0 : 0 ≤ i.toInt) (h1 : i.toInt ≤ m.toInt) : pr (f_X12_growth n σ i m) (fun τ => WS τ (wyH i.toInt.toNat m.toInt.toNat).reverse) := by
  have hm := ib_hi m
  have L := lits
  have hz : WS (ms_sI σ 657 0) [] := ⟨by rw [mI_sI, if_pos rfl]; rfl, fun k q h => by simp at h⟩
  unfold f_X12_growth wyH
  refine pr_l (pr_le (fun h => pr_s ?_) (fun h => pr_le (fun g => pr_s ?_) (fun g => ?_)))
  · rw [if_pos (by omega)]; exact hz
  · rw [if_neg (by omega), wyG, if_pos (by omega)]; exact hz
  · rw [if_neg (by omega)]
    refine pr_b (v_growsIn n 40 31 _ [] 0 i.toInt.toNat m.toInt.toNat 0 i m 1 true hz rfl (by omega) (by omega) (by omega) (by omega) (by omega) (by omega) rfl) (fun τ hτ => pr_s ?_)
    simpa using hτ
end JN8_2
section JN8_3
/-! ===== the class's ways ===== -/
def WC (α : hp_T) (a : Nat) (l : List (Nat × Nat × Bool)) : Prop := (hp_I α 453 a).toInt = (l.length : Int) ∧ ∀ (k : Nat) (q : Nat × Nat × Bool), l[k]? = some q → (hp_E α 21 (hp_R α 450 a) k).toInt = (q.1 : Int) ∧ (hp_E α 22 (hp_R α 451 a) k).toInt = (q.2.1 : Int) ∧ hp_E α 23 (hp_R α 452 a) k = if q.2.2 then 1 else 0
/-- what a way's own methods leave as it is -/
def wf (a : Nat) (α β : hp_T) : Prop := hp_R β = hp_R α ∧ hp_K β = hp_K α ∧ hp_Q β = hp_Q α ∧ hp_N β = hp_N α ∧ (∀ φ b, ¬ (b = a ∧ (φ = 453 ∨ φ = 454)) → hp_I β φ b = hp_I α φ b) ∧ ∀ κ b j, ¬ ((κ = 21 ∧ b = hp_R α 450 a) ∨ (κ = 22 ∧ b = hp_R α 451 a) ∨ (κ = 23 ∧ b = hp_R α 452 a)) → hp_E β κ b j = hp_E α κ b j
theorem wf_rf {a : Nat} {α : hp_T} : wf a α α := ⟨rfl, rfl, rfl, rfl, fun _ _ _ => rfl, fun _ _ _ _ => rfl⟩
theorem wf_tr {a : Nat} {α β γ : hp_T} (h : wf a α β) (g : wf a β γ) : wf a α γ := by
  obtain ⟨h1, h2, h3, h4, h5, h6⟩ := h
  obtain ⟨g1, g2, g3, g4, g5, g6⟩ := g
  rw [h1] at g6
  exact ⟨g1.trans h1, g2.trans h2, g3.trans h3, g4.trans h4, fun φ b q => (g5 φ b q).trans (h5 φ b q), fun κ b j q => (g6 κ b j q).trans (h6 κ b j q)⟩
theorem wf_sI {a φ : Nat} {α : hp_T} {v : Int32} (h : φ = 453 ∨ φ = 454) : wf a α (hp_sI α φ a v) :=
  ⟨rfl, rfl, rfl, rfl, fun ψ b q => by rw [hI_sI, if_neg (fun (e : ψ = φ ∧ b = a) => q ⟨e.2, by rw [e.1]; exact h⟩)], fun _ _ _ _ => rfl⟩
theorem wf_sE {a κ b j : Nat} {α : hp_T} {v : Int32} (h : (κ = 21 ∧ b = hp_R α 450 a) ∨ (κ = 22 ∧ b = hp_R α 451 a) ∨ (κ = 23 ∧ b = hp_R α 452 a)) : wf a α (hp_sE α κ b j v) :=
  ⟨rfl, rfl, rfl, rfl, fun _ _ _ => rfl, fun κ' b' j' q => by rw [hE_sE, if_neg (fun e => q (by rw [e.1, e.2.1]; exact h))]⟩
theorem k_put8 (n : Nat) (α : hp_T) (a : Nat) (l : List (Nat × Nat × Bool)) (h : WC α a l) (hl : l.length < 64) (q : Nat × Nat × Bool) (f m b : Int32) (hf : f.toInt = (q.1 : Int)) (hm : m.toInt = (q.2.1 : Int)) (hb : b = if q.2.2 then 1 else 0) : ws (f_X8_put n α a f m b) (fun β => WC β a (l ++ [q]) ∧ wf a α β) := by
  have L64 := t_64
  unfold f_X8_put
  obtain ⟨h1, h2⟩ := h
  have hc : (hp_I α 453 a).toNatClampNeg = l.length := cl_n h1
  refine ws_l (ws_lt (fun e => by rw [lt0] at e; omega) (fun _ => ws_l (ws_le (fun e => by omega) (fun _ => ws_l (ws_l (ws_g (by omega) (by omega) (ws_l (ws_l (ws_l (ws_g (by show 0 ≤ (hp_I α 453 a).toInt; omega) (by show (hp_I α 453 a).toInt < _; omega) (ws_l (ws_l (ws_l (ws_g (by show 0 ≤ (hp_I α 453 a).toInt; omega) (by show (hp_I α 453 a).toInt < _; omega) (ws_l (ws_l ?_))))))))))))))))
  have e5 : (hp_I α 453 a + 1).toInt = (l.length : Int) + 1 := by rw [ii_add (by rw [lt1]; omega) (by rw [lt1]; omega), h1, lt1]
  refine ws_g (by show 0 ≤ (hp_I α 453 a + 1).toInt; omega) (by show (hp_I α 453 a + 1).toInt < _; omega) (ws_l (ws_s ⟨⟨?_, fun k r hk => ?_⟩, ?_⟩))
  · rw [hI_sI, if_pos ⟨rfl, rfl⟩]
    show (hp_I α 453 a + 1).toInt = _
    rw [e5, List.length_append]; rfl
  · simp only [hI_sE, hc, hE_sI, hR_sI, hR_sE, hE_sE]
    have hb1 : b &&& 1 = b := by subst hb; split <;> rfl
    rw [hb1]
    rcases ap_get hk with ⟨g1, g2⟩ | ⟨g1, g2⟩
    · have hne : ¬ k = l.length := by omega
      simpa [hne] using h2 k r g2
    · subst g1; subst g2
      simpa using ⟨hf, hm, hb⟩
  · exact wf_tr (wf_tr (wf_tr (wf_sE (Or.inl ⟨rfl, rfl⟩)) (wf_sE (Or.inr (Or.inl ⟨rfl, rfl⟩)))) (wf_sE (Or.inr (Or.inr ⟨rfl, rfl⟩)))) (wf_sI (Or.inl rfl))
def sw (L v k : Nat) : Nat := if k < v ∨ L - v ≤ k then L - 1 - k else k
theorem sw_step {A : Type} (g : Nat → A) {L v k : Nat} (h : 2 * v + 1 < L) (hk : k < L) : (if k = L - 1 - v then g (sw L v v) else if k = v then g (sw L v (L - 1 - v)) else g (sw L v k)) = g (sw L (v + 1) k) := by
  unfold sw
  split
  · rw [if_neg (by omega), if_pos (by omega)]; congr 1; omega
  · split
    · rw [if_neg (by omega), if_pos (by omega)]; congr 1; omega
    · by_cases hq : k < v ∨ L - v ≤ k
      · rw [if_pos hq, if_pos (by omega)]
      · rw [if_neg hq, if_neg (by omega)]
theorem k_turn_L (n : Nat) (a : Nat) (α : hp_T) (l : List (Nat × Nat × Bool)) (h : WC α a l) (hl : l.length ≤ 64) : ∀ (k : Nat) (β : hp_T) (v : Nat) (vI : Int32), vI.toInt = (v : Int) → v ≤ 32 → 33 - v ≤ k → wf a α β → (hp_I β 453 a).toInt = (l.length : Int) → (∀ j, j < l.length → hp_E β 21 (hp_R α 450 a) j = hp_E α 21 (hp_R α 450 a) (sw l.length v j) ∧ hp_E β 22 (hp_R α 451 a) j = hp_E α 22 (hp_R α 451 a) (sw l.length v j) ∧ hp_E β 23 (hp_R α 452 a) j = hp_E α 23 (hp_R α 452 a) (sw l.length v j)) → ws (f_X8_turnRound_L2 n a k β vI) (fun β => WC β a l.reverse ∧ wf a α β) := by
  intro k
  induction k with
  | zero => intro β v vI h1 h2 h3; omega
  | succ k ih =>
    intro β v vI h1 h2 h3 hw hc he
    rw [f_X8_turnRound_L2.eq_2]
    have L2 := t_2
    have L64 := t_64
    have hR : hp_R β = hp_R α := hw.1
    have h01 : ∀ j, j < l.length → (hp_E α 23 (hp_R α 452 a) j) &&& 1 = hp_E α 23 (hp_R α 452 a) j := by
      intro j hj
      rw [(h.2 j l[j] (List.getElem?_eq_getElem hj)).2.2]
      split <;> rfl
    refine ws_l (ws_le (fun hd => ?_) (fun hd => ?_))
    · rw [ii_div (by omega) (by decide), hc, L2] at hd
      refine ws_s ⟨⟨by rw [hc, List.length_reverse], fun j q hj => ?_⟩, hw⟩
      have hj2 : j < l.length := by
        have := (List.getElem?_eq_some_iff.mp hj).1
        rwa [List.length_reverse] at this
      rw [List.getElem?_reverse hj2] at hj
      have := h.2 _ q hj
      rw [hR, (he j hj2).1, (he j hj2).2.1, (he j hj2).2.2]
      have es : sw l.length v j = l.length - 1 - j := by unfold sw; split <;> omega
      rw [es]
      exact this
    · rw [ii_div (by omega) (by decide), hc, L2] at hd
      have hvl : 2 * v + 1 < l.length := by omega
      have e1 : (hp_I β 453 a - 1).toInt = (l.length : Int) - 1 := by rw [ii_sub (by rw [lt1]; omega) (by rw [lt1]; omega), hc, lt1]
      have e2 : ((hp_I β 453 a - 1) - vI).toInt = ((l.length - 1 - v : Nat) : Int) := by rw [ii_sub (by omega) (by omega), e1]; omega
      obtain ⟨eI, hE⟩ : ∃ eI, eI = (hp_I β 453 a - 1) - vI := ⟨_, rfl⟩
      rw [← hE] at e2
      refine ws_l (ws_l ?_)
      rw [← hE]
      have g1 : 0 ≤ eI.toInt := by omega
      have g2 : eI.toInt < ((64 : Nat) : Int) := by omega
      have g3 : 0 ≤ vI.toInt := by omega
      have g4 : vI.toInt < ((64 : Nat) : Int) := by omega
      have cE : eI.toNatClampNeg = l.length - 1 - v := cl_n e2
      have cV : vI.toNatClampNeg = v := cl_n h1
      refine ws_lt (fun e => by rw [lt0] at e; omega) (fun _ => ws_le (fun e => by omega) (fun _ => ws_lt (fun _ => ?_) (fun e => by omega)))
      refine ws_l (ws_g g3 g4 (ws_l (ws_l (ws_l (ws_g g1 g2 (ws_g g3 g4 (ws_l (ws_l (ws_g g1 g2 (ws_l ?_))))))))))
      refine ws_l (ws_g g3 g4 (ws_l (ws_l (ws_l (ws_g g1 g2 (ws_g g3 g4 (ws_l (ws_l (ws_g g1 g2 (ws_l ?_))))))))))
      refine ws_l (ws_g g3 g4 (ws_l (ws_l (ws_l (ws_g g1 g2 (ws_g g3 g4 (ws_l (ws_l (ws_g g1 g2 (ws_l (ws_l ?_)))))))))))
      refine ih _ (v + 1) _ ?_ (by omega) (by omega) ?_ ?_ ?_
      · rw [ii_add (by rw [lt1]; omega) (by rw [lt1]; omega), h1, lt1]; omega
      · refine wf_tr hw ?_
        exact wf_tr (wf_tr (wf_tr (wf_tr (wf_tr (wf_sE (Or.inl ⟨rfl, rfl⟩)) (wf_sE (Or.inl ⟨rfl, rfl⟩))) (wf_sE (Or.inr (Or.inl ⟨rfl, rfl⟩)))) (wf_sE (Or.inr (Or.inl ⟨rfl, rfl⟩)))) (wf_sE (Or.inr (Or.inr ⟨rfl, rfl⟩)))) (wf_sE (Or.inr (Or.inr ⟨rfl, rfl⟩)))
      · exact hc
      · intro j hj
        have n1 : ¬ v = l.length - 1 - v := by omega
        have n2 : ¬ l.length - 1 - v = v := by omega
        simp only [hR_sE, hE_sE, hR, cE, cV, n1, n2, Nat.reduceEqDiff, false_and, true_and, and_true, and_false, if_false, if_true, reduceIte]
        have hv1 := he v (by omega)
        have hv2 := he (l.length - 1 - v) (by omega)
        have hj1 := he j hj
        rw [hv1.1, hv1.2.1, hv1.2.2, hv2.1, hv2.2.1, hv2.2.2, hj1.1, hj1.2.1, hj1.2.2]
        have hs1 : sw l.length v v < l.length := by unfold sw; split <;> omega
        have hs2 : sw l.length v (l.length - 1 - v) < l.length := by unfold sw; split <;> omega
        rw [h01 _ hs1, h01 _ hs2]
        exact ⟨sw_step (fun k => hp_E α 21 (hp_R α 450 a) k) hvl hj, sw_step (fun k => hp_E α 22 (hp_R α 451 a) k) hvl hj, sw_step (fun k => hp_E α 23 (hp_R α 452 a) k) hvl hj⟩
theorem k_turn (n : Nat) (hn : 70000 ≤ n) (a : Nat) (α : hp_T) (l : List (Nat × Nat × Bool)) (h : WC α a l) (hl : l.length ≤ 64) : ws (f_X8_turnRound n α a) (fun β => WC β a l.reverse ∧ wf a α β) := by
  unfold f_X8_turnRound
  refine k_turn_L n a α l h hl n α 0 0 rfl (by omega) (by omega) wf_rf h.1 (fun j hj => ?_)
  have : sw l.length 0 j = j := by unfold sw; rw [if_neg (by omega)]
  rw [this]
  exact ⟨rfl, rfl, rfl⟩
theorem k_toThing_L (n : Nat) (hn : 70000 ≤ n) (a : Nat) (α0 : hp_T) : ∀ (k e : Nat) (α : hp_T) (l : List (Nat × Nat × Bool)) (f i m : Nat) (iI fI mI dI : Int32), wf a α0 α → WC α a l → l.length + e ≤ 64 → 0 ≤ dI.toInt → dI.toInt + e ≤ 40 → e + 1 ≤ k → fI.toInt = (f : Int) → iI.toInt = (f : Int) + i → mI.toInt = (m : Int) → i < m → m ≤ 2 ^ e → f + m ≤ 2147483647 → ws (f_X8_toThing_L12 n a k α iI fI mI dI) (fun β => WC β a (l ++ wyT e i f m).reverse ∧ wf a α0 β) := by
  intro k
  induction k with
  | zero => intro e α l f i m iI fI mI dI hw hW hl hd0 hd hk hf hi hm him hme hfm; omega
  | succ k ih =>
    intro e α l f i m iI fI mI dI hw hW hl hd0 hd hk hf hi hm him hme hfm
    rw [f_X8_toThing_L12.eq_2]
    have L40 : (40 : Int32).toInt = 40 := by decide
    have hJ : m ≤ 1 → ws (f_X8_toThing_J87 n a α) (fun β => WC β a (l ++ wyT e i f m).reverse ∧ wf a α0 β) := by
      intro h1
      have e1 : wyT e i f m = [] := by cases e <;> simp [wyT, h1]
      rw [e1, List.append_nil]
      unfold f_X8_toThing_J87
      exact ws_b (k_turn n hn a α l hW (by omega)) (fun β hβ => ws_s ⟨hβ.1, wf_tr hw hβ.2⟩)
    cases e with
    | zero =>
      have hm1 : m ≤ 1 := by simpa using hme
      exact ws_le (fun _ => hJ hm1) (fun _ => ws_le (fun _ => hJ hm1) (fun h => by rw [lt1] at h; omega))
    | succ e =>
    refine ws_le (fun h => by omega) (fun _ => ws_le (fun h => hJ (by rw [lt1] at h; omega)) (fun h => ?_))
    rw [lt1, hm] at h
    have hm2 : 2 ≤ m := by omega
    have hp1 := p0_lt hm2
    have hp2 := p0_le (m := m)
    have hp3 := p0_pos m
    have hp4 := p0_dn hm2 hme
    have e1 : wyT (e + 1) i f m = if i < p0 m then (f + p0 m, m - p0 m, false) :: wyT e i f (p0 m) else (f, p0 m, true) :: wyT e (i - p0 m) (f + p0 m) (m - p0 m) := by rw [wyT, if_neg (by omega)]
    rw [e1]
    have hdI : (dI + 1).toInt = dI.toInt + 1 := by rw [ii_add (by rw [lt1]; omega) (by rw [lt1]; omega), lt1]
    have hif : (iI - fI).toInt = (i : Int) := by rw [ii_sub (by omega) (by omega)]; omega
    refine ws_b (k_first n mI (by omega)) (fun r hr => ?_)
    rw [hm, Int.toNat_natCast] at hr
    refine ws_le (fun h2 => ?_) (fun h2 => ?_)
    · rw [if_neg (by omega)]
      refine ws_b (k_put8 n α a l hW (by omega) (f, p0 m, true) fI r 1 hf hr rfl) (fun β hβ => ws_l (ws_l ?_))
      unfold f_X8_toThing_J81
      have := ih e β (l ++ [(f, p0 m, true)]) (f + p0 m) (i - p0 m) (m - p0 m) iI (fI + r) (mI - r) (dI + 1) (wf_tr hw hβ.2) hβ.1 (by rw [List.length_append]; simp; omega) (by omega) (by omega) (by omega) (by rw [ii_add (by omega) (by omega)]; omega) (by omega) (by rw [ii_sub (by omega) (by omega)]; omega) (by omega) (by omega) (by omega)
      rw [List.append_assoc, List.singleton_append] at this
      exact ws_l this
    · rw [if_pos (by omega)]
      refine ws_b (k_put8 n α a l hW (by omega) (f + p0 m, m - p0 m, false) (fI + r) (mI - r) 0 (by show _ = ((f + p0 m : Nat) : Int); rw [ii_add (by omega) (by omega)]; omega) (by show _ = ((m - p0 m : Nat) : Int); rw [ii_sub (by omega) (by omega)]; omega) rfl) (fun β hβ => ?_)
      unfold f_X8_toThing_J81
      have := ih e β (l ++ [(f + p0 m, m - p0 m, false)]) f i (p0 m) iI fI r (dI + 1) (wf_tr hw hβ.2) hβ.1 (by rw [List.length_append]; simp; omega) (by omega) (by omega) (by omega) hf hi hr (by omega) hp4 (by omega)
      rw [List.append_assoc, List.singleton_append] at this
      exact ws_l this
theorem k_clear (n : Nat) (α : hp_T) (a : Nat) : ws (f_X8_clear n α a) (fun β => WC β a [] ∧ wf a α β) := by
  unfold f_X8_clear
  refine ws_l (ws_l (ws_s ⟨⟨?_, fun k q h => by simp at h⟩, wf_tr (wf_sI (Or.inl rfl)) (wf_sI (Or.inr rfl))⟩))
  rw [hI_sI, if_neg (fun h => absurd h.1 (by decide)), hI_sI, if_pos ⟨rfl, rfl⟩]
  rfl
theorem k_toThing (n : Nat) (hn : 70000 ≤ n) (α : hp_T) (a : Nat) (i m : Int32) (h0 : 0 ≤ i.toInt) (h1 : i.toInt < m.toInt) : ws (f_X8_toThing n α a i m) (fun β => WC β a (wyT 31 i.toInt.toNat 0 m.toInt.toNat).reverse ∧ wf a α β) := by
  have hm := ib_hi m
  unfold f_X8_toThing
  refine ws_b (k_clear n α a) (fun β hβ => ?_)
  have := k_toThing_L n hn a α n 31 β [] 0 i.toInt.toNat m.toInt.toNat i 0 m 0 hβ.2 hβ.1 (by decide) (by decide) (by decide) (by omega) rfl (by omega) (by omega) (by omega) (by omega) (by omega)
  rw [List.nil_append] at this
  exact this
theorem k_toGrowth_J (n : Nat) (hn : 70000 ≤ n) (a : Nat) (α0 α : hp_T) (l : List (Nat × Nat × Bool)) (hw : wf a α0 α) (hW : WC α a l) (hl : l.length < 64) (f m : Nat) (fI mI wI : Int32) (w : Bool) (hf : fI.toInt = (f : Int)) (hm : mI.toInt = (m : Int)) (hwI : wI = if w then 1 else 0) : ws (f_X8_toGrowth_J100 n a α fI mI wI) (fun β => WC β a (l ++ (if w then [] else [(f, m, false)])).reverse ∧ wf a α0 β) := by
  unfold f_X8_toGrowth_J100 f_X8_toGrowth_J118
  cases w with
  | true =>
    subst hwI
    refine ws_i (fun h => absurd h (by decide)) (fun _ => ?_)
    exact ws_b (k_turn n hn a α l hW (by omega)) (fun β hβ => ws_s ⟨by simpa using hβ.1, wf_tr hw hβ.2⟩)
  | false =>
    subst hwI
    refine ws_i (fun _ => ?_) (fun h => absurd rfl h)
    refine ws_b (k_put8 n α a l hW hl (f, m, false) fI mI 0 hf hm rfl) (fun β hβ => ws_l ?_)
    have hW2 : WC (hp_sI β 454 a 1) a (l ++ [(f, m, false)]) := ⟨by rw [hI_sI, if_neg (fun h => absurd h.1 (by decide))]; exact hβ.1.1, hβ.1.2⟩
    exact ws_b (k_turn n hn a _ _ hW2 (by rw [List.length_append]; simp; omega)) (fun γ hγ => ws_s ⟨by simpa using hγ.1, wf_tr hw (wf_tr hβ.2 (wf_tr (wf_sI (Or.inr rfl)) hγ.2))⟩)
theorem k_toGrowth_L (n : Nat) (hn : 70000 ≤ n) (a : Nat) (α0 : hp_T) : ∀ (k e : Nat) (α : hp_T) (l : List (Nat × Nat × Bool)) (f i m : Nat) (iI fI mI wI dI : Int32) (w : Bool), wf a α0 α → WC α a l → l.length + e < 64 → 0 ≤ dI.toInt → dI.toInt + e < 40 → e + 1 ≤ k → fI.toInt = (f : Int) → iI.toInt = (f : Int) + i → mI.toInt = (m : Int) → 1 ≤ i → i ≤ m → m ≤ 2 ^ e → f + m ≤ 2147483647 → wI = (if w then 1 else 0) → ws (f_X8_toGrowth_L20 n a k α iI fI mI wI dI) (fun β => WC β a (l ++ wyG (e + 1) i f m w).reverse ∧ wf a α0 β) := by
  intro k
  induction k with
  | zero => intro e α l f i m iI fI mI wI dI w hw hW hl hd0 hd hk hf hi hm hi1 him hme hfm hwI; omega
  | succ k ih =>
    intro e α l f i m iI fI mI wI dI w hw hW hl hd0 hd hk hf hi hm hi1 him hme hfm hwI
    rw [f_X8_toGrowth_L20.eq_2]
    have L40 : (40 : Int32).toInt = 40 := by decide
    have hif : (iI - fI).toInt = (i : Int) := by rw [ii_sub (by omega) (by omega)]; omega
    refine ws_le (fun h => by omega) (fun _ => ws_e (fun h => ?_) (fun h => ?_))
    · have hq : i = m := by rw [h, hm] at hif; omega
      have e0 : wyG (e + 1) i f m w = (if w then [] else [(f, m, false)]) := by rw [wyG, if_pos hq]
      rw [e0]
      exact k_toGrowth_J n hn a α0 α l hw hW (by omega) f m fI mI wI w hf hm hwI
    · rw [hif, hm] at h
      have hm2 : 2 ≤ m := by omega
      cases e with
      | zero => simp at hme; omega
      | succ e =>
      have hp1 := p0_lt hm2
      have hp2 := p0_le (m := m)
      have hp3 := p0_pos m
      have hp4 := p0_dn hm2 hme
      have e1 : wyG (e + 1 + 1) i f m w = if i ≤ p0 m then (f + p0 m, m - p0 m, false) :: wyG (e + 1) i f (p0 m) w else (f, p0 m, true) :: wyG (e + 1) (i - p0 m) (f + p0 m) (m - p0 m) false := by rw [wyG, if_neg (by omega)]
      rw [e1]
      have hdI : (dI + 1).toInt = dI.toInt + 1 := by rw [ii_add (by rw [lt1]; omega) (by rw [lt1]; omega), lt1]
      refine ws_b (k_first n mI (by omega)) (fun r hr => ?_)
      rw [hm, Int.toNat_natCast] at hr
      refine ws_lt (fun h2 => ?_) (fun h2 => ?_)
      · rw [if_neg (by omega)]
        refine ws_b (k_put8 n α a l hW (by omega) (f, p0 m, true) fI r 1 hf hr rfl) (fun β hβ => ws_l (ws_l ?_))
        unfold f_X8_toGrowth_J94
        have := ih e β (l ++ [(f, p0 m, true)]) (f + p0 m) (i - p0 m) (m - p0 m) iI (fI + r) (mI - r) 0 (dI + 1) false (wf_tr hw hβ.2) hβ.1 (by rw [List.length_append]; simp; omega) (by omega) (by omega) (by omega) (by rw [ii_add (by omega) (by omega)]; omega) (by omega) (by rw [ii_sub (by omega) (by omega)]; omega) (by omega) (by omega) (by omega) (by omega) rfl
        rw [List.append_assoc, List.singleton_append] at this
        exact ws_l this
      · rw [if_pos (by omega)]
        refine ws_b (k_put8 n α a l hW (by omega) (f + p0 m, m - p0 m, false) (fI + r) (mI - r) 0 (by show _ = ((f + p0 m : Nat) : Int); rw [ii_add (by omega) (by omega)]; omega) (by show _ = ((m - p0 m : Nat) : Int); rw [ii_sub (by omega) (by omega)]; omega) rfl) (fun β hβ => ?_)
        unfold f_X8_toGrowth_J94
        have := ih e β (l ++ [(f + p0 m, m - p0 m, false)]) f i (p0 m) iI fI r wI (dI + 1) w (wf_tr hw hβ.2) hβ.1 (by rw [List.length_append]; simp; omega) (by omega) (by omega) (by omega) hf hi hr hi1 (by omega) hp4 (by omega) hwI
        rw [List.append_assoc, List.singleton_append] at this
        exact ws_l this
theorem k_toGrowth (n : Nat) (hn : 70000 ≤ n) (α : hp_T) (a : Nat) (i m : Int32) (h0 : 0 ≤ i.toInt) (h1 : i.toInt ≤ m.toInt) : ws (f_X8_toGrowth n α a i m) (fun β => WC β a (wyH i.toInt.toNat m.toInt.toNat).reverse ∧ wf a α β) := by
  have hm := ib_hi m
  unfold f_X8_toGrowth wyH
  refine ws_b (k_clear n α a) (fun β hβ => ws_e (fun h => ?_) (fun h => ?_))
  · rw [if_pos (by rw [h]; rfl)]
    exact ws_s hβ
  · rw [lt0] at h
    rw [if_neg (by omega)]
    have := k_toGrowth_L n hn a α n 31 β [] 0 i.toInt.toNat m.toInt.toNat i 0 m 1 0 true hβ.2 hβ.1 (by decide) (by decide) (by decide) (by omega) rfl (by omega) (by omega) (by omega) (by omega) (by omega) (by omega) rfl
    rw [List.nil_append] at this
    exact this
end JN8_3
section JN8_4
/-! ===== steps, climbs, span, rise, longest: what they answer ===== -/
theorem pr_w {R : Type} {o : Option R} {P : R → Prop} (h : ws o P) : pr o P := by
  obtain ⟨r, e, p⟩ := h
  intro r' e'
  rw [e] at e'
  cases e'
  exact p
theorem k_answer (n : Nat) (α : hp_T) (a : Nat) (v : Int32) : ws (f_X11_answer n α a v) (fun res => res.1 = v ∧ res.2 = hp_sI α 600 a 0) := by
  unfold f_X11_answer
  exact ws_l (ws_s ⟨rfl, rfl⟩)
theorem k_refuse (n : Nat) (α : hp_T) (a : Nat) (v : Int32) : ws (f_X11_refuse n α a v) (fun res => res.1 = -1 ∧ res.2 = hp_sI α 600 a v) := by
  unfold f_X11_refuse
  exact ws_l (ws_s ⟨rfl, rfl⟩)
theorem v_refuse (n : Nat) (σ : ms_T) (w : Int32) : pr (f_X12_refuse n σ w) (fun res => res.1 = -1) := by
  unfold f_X12_refuse
  exact pr_l (pr_s rfl)
theorem v_isIn (n : Nat) (a b c : Int32) : pr (f_X12_isIn n a b c) (fun r => bo r (b.toInt ≤ a.toInt ∧ a.toInt ≤ c.toInt)) := pr_w (s_isIn n a b c)
section BO
variable {R : Type} {P : Prop} {Q : R → Prop} {a b : Option R}
theorem wk_bo {x : Option Int32} (h : ws x (fun r => bo r P)) (h0 : ¬ P → ws a Q) (h1 : P → ws b Q) : ws (ms_b x fun r => if r = 0 then a else b) Q :=
  ws_b h (fun r hr => ws_e (fun e => h0 (bo_0 hr e)) (fun e => h1 (bo_1 hr e)))
theorem pr_bo {x : Option Int32} (h : pr x (fun r => bo r P)) (h0 : ¬ P → pr a Q) (h1 : P → pr b Q) : pr (ms_b x fun r => if r = 0 then a else b) Q :=
  pr_b h (fun r hr => pr_e (fun e => h0 (bo_0 hr e)) (fun e => h1 (bo_1 hr e)))
end BO
theorem wyH_len (i m : Nat) : (wyH i m).length ≤ 32 := by
  unfold wyH
  split
  · exact Nat.zero_le _
  · exact wyG_len _ _ _ _ _
end JN8_4
