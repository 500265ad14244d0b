/-! ===== the greatest power of two below; ways: the reference's and the class's ===== -/
theorem v_part0_L (n : Nat) : ∀ (k : Nat) (v p : Int32) (e : Nat), p.toInt = ((2 ^ e : Nat) : Int) → p.toInt < v.toInt → pr (f_X12_part0_L2 n k v p) (fun r => r.toInt = (p0 v.toInt.toNat : Int)) := by
  intro k
  induction k with
  | zero => intro v p e h1 h2; rw [f_X12_part0_L2.eq_1]; exact pr_0
  | succ k ih =>
    intro v p e h1 h2
    have hp : 1 ≤ 2 ^ e := Nat.one_le_two_pow
    have hv := ib_hi v
    have hs : (v - p).toInt = v.toInt - p.toInt := ii_sub (by omega) (by omega)
    rw [f_X12_part0_L2.eq_2]
    refine pr_le (fun h => pr_s ?_) (fun h => pr_l (ih _ _ (e + 1) ?_ ?_))
    · rw [p0_un (m := v.toInt.toNat) (e := e) (by omega) (by omega), h1]
    · rw [ii_add (by omega) (by omega), Nat.pow_succ]; omega
    · rw [ii_add (by omega) (by omega)]; omega
theorem v_part0 (n : Nat) (v : Int32) (h : 2 ≤ v.toInt) : pr (f_X12_part0 n v) (fun r => r.toInt = (p0 v.toInt.toNat : Int)) :=
  v_part0_L n n v 1 0 (by decide) (by rw [lt1]; omega)
theorem tI_N (x : Int32) (h : x.toBitVec.toNat < 2147483648) : x.toInt = (x.toBitVec.toNat : Int) := by
  show BitVec.toInt _ = _
  rw [BitVec.toInt_eq_toNat_cond, if_pos (by omega)]
theorem t_m2 : (-2 : Int32).toInt = -2 := by decide
theorem t_m4 : (-4 : Int32).toInt = -4 := by decide
theorem t_m8 : (-8 : Int32).toInt = -8 := by decide
theorem k_nlz73 (n : Nat) (v c : Int32) (h0 : 1 ≤ v.toInt) (h1 : v.toInt < 4) (c0 : 1 ≤ c.toInt) (c1 : c.toInt ≤ 31) : ws (f_J6_numberOfLeadingZeros_0f7a4_J73 n v c) (fun r => Lz v.toInt.toNat c.toInt r.toInt) := by
  unfold f_J6_numberOfLeadingZeros_0f7a4_J73
  obtain ⟨b1, b2⟩ := bN v (by omega)
  have e1 := n_sh1 v
  have e2 := tI_N _ (by rw [e1]; omega)
  rw [e1] at e2
  exact ws_s (Lz_1 (by omega) (by omega) (by rw [ii_sub (by rw [e2]; omega) (by rw [e2]; omega), e2]; omega))
theorem k_nlz61 (n : Nat) (v c : Int32) (h0 : 1 ≤ v.toInt) (h1 : v.toInt < 16) (c0 : 3 ≤ c.toInt) (c1 : c.toInt ≤ 31) : ws (f_J6_numberOfLeadingZeros_0f7a4_J61 n v c) (fun r => Lz v.toInt.toNat c.toInt r.toInt) := by
  unfold f_J6_numberOfLeadingZeros_0f7a4_J61
  have L4 := t_4
  have L16 := t_16
  refine ws_lt (fun h => k_nlz73 n v c h0 (by omega) (by omega) c1) (fun h => ?_)
  obtain ⟨b1, b2⟩ := bN v (by omega)
  have e1 := n_sh2 v
  have e2 := tI_N _ (by rw [e1]; omega)
  rw [e1] at e2
  have e3 : (c + (-2)).toInt = c.toInt - 2 := by rw [ii_add (by rw [t_m2]; omega) (by rw [t_m2]; omega), t_m2]; omega
  refine ws_l (ws_l (ws_m (k_nlz73 n _ _ (by rw [e2]; omega) (by rw [e2]; omega) (by omega) (by omega)) (fun r hr => ?_)))
  rw [e2, e3] at hr
  refine Lz_s (d := 4) (s := 2) rfl ?_
  rw [show v.toInt.toNat / 4 = ((v.toBitVec.toNat / 4 : Nat) : Int).toNat by omega]
  exact hr
theorem k_nlz48 (n : Nat) (v c : Int32) (h0 : 1 ≤ v.toInt) (h1 : v.toInt < 256) (c0 : 7 ≤ c.toInt) (c1 : c.toInt ≤ 31) : ws (f_J6_numberOfLeadingZeros_0f7a4_J48 n v c) (fun r => Lz v.toInt.toNat c.toInt r.toInt) := by
  unfold f_J6_numberOfLeadingZeros_0f7a4_J48
  have L4 := t_4
  have L16 := t_16
  refine ws_lt (fun h => k_nlz61 n v c h0 (by omega) (by omega) c1) (fun h => ?_)
  obtain ⟨b1, b2⟩ := bN v (by omega)
  have e1 := n_sh4 v
  have e2 := tI_N _ (by rw [e1]; omega)
  rw [e1] at e2
  have e3 : (c + (-4)).toInt = c.toInt - 4 := by rw [ii_add (by rw [t_m4]; omega) (by rw [t_m4]; omega), t_m4]; omega
  refine ws_l (ws_l (ws_m (k_nlz61 n _ _ (by rw [e2]; omega) (by rw [e2]; omega) (by omega) (by omega)) (fun r hr => ?_)))
  rw [e2, e3] at hr
  refine Lz_s (d := 16) (s := 4) rfl ?_
  rw [show v.toInt.toNat / 16 = ((v.toBitVec.toNat / 16 : Nat) : Int).toNat by omega]
  exact hr
theorem k_nlz33 (n : Nat) (v c : Int32) (h0 : 1 ≤ v.toInt) (h1 : v.toInt < 65536) (c0 : 15 ≤ c.toInt) (c1 : c.toInt ≤ 31) : ws (f_J6_numberOfLeadingZeros_0f7a4_J33 n v c) (fun r => Lz v.toInt.toNat c.toInt r.toInt) := by
  unfold f_J6_numberOfLeadingZeros_0f7a4_J33
  have t256 : (256 : Int32).toInt = 256 := by decide
  refine ws_lt (fun h => k_nlz48 n v c h0 (by omega) (by omega) c1) (fun h => ?_)
  obtain ⟨b1, b2⟩ := bN v (by omega)
  have e1 := n_sh8 v
  have e2 := tI_N _ (by rw [e1]; omega)
  rw [e1] at e2
  have e3 : (c + (-8)).toInt = c.toInt - 8 := by rw [ii_add (by rw [t_m8]; omega) (by rw [t_m8]; omega), t_m8]; omega
  refine ws_l (ws_l (ws_m (k_nlz48 n _ _ (by rw [e2]; omega) (by rw [e2]; omega) (by omega) (by omega)) (fun r hr => ?_)))
  rw [e2, e3] at hr
  refine Lz_s (d := 256) (s := 8) rfl ?_
  rw [show v.toInt.toNat / 256 = ((v.toBitVec.toNat / 256 : Nat) : Int).toNat by omega]
  exact hr
theorem k_nlz (n : Nat) (v : Int32) (h0 : 1 ≤ v.toInt) : ws (f_J6_numberOfLeadingZeros_0f7a4 n v) (fun r => Lz v.toInt.toNat 31 r.toInt) := by
  unfold f_J6_numberOfLeadingZeros_0f7a4
  have L := lits
  have t6 : (65536 : Int32).toInt = 65536 := by decide
  have t31 : (31 : Int32).toInt = 31 := by decide
  refine ws_lt (fun _ => ws_lt (fun h => ?_) (fun h => ?_)) (fun h => by omega)
  · have := k_nlz33 n v 31 h0 (by omega) (by decide) (by decide)
    rw [t31] at this
    exact this
  · obtain ⟨b1, b2⟩ := bN v (by omega)
    have e1 := n_sh16 v
    have e2 := tI_N _ (by rw [e1]; omega)
    rw [e1] at e2
    refine ws_l (ws_l (ws_m (k_nlz33 n _ _ (by rw [e2]; omega) (by rw [e2]; omega) (by decide) (by decide)) (fun r hr => ?_)))
    rw [e2, show ((31 : Int32) + (-16)).toInt = 15 by decide] at hr
    refine Lz_s (d := 65536) (s := 16) rfl ?_
    rw [show v.toInt.toNat / 65536 = ((v.toBitVec.toNat / 65536 : Nat) : Int).toNat by omega]
    exact hr
theorem k_hob (n : Nat) (v : Int32) (h0 : 1 ≤ v.toInt) : ws (f_J6_highestOneBit_0f7a4 n v) (fun r => r.toInt = (p0 (v.toInt.toNat + 1) : Int)) := by
  unfold f_J6_highestOneBit_0f7a4
  refine ws_b (k_nlz n v h0) (fun r hr => ws_s ?_)
  obtain ⟨e, h1, h2, h3⟩ := hr
  obtain ⟨b1, b2⟩ := bN v (by omega)
  have he : e < 31 := by
    refine Nat.lt_of_not_le (fun h => ?_)
    have : 2 ^ 31 ≤ 2 ^ e := Nat.pow_le_pow_right (by decide) h
    omega
  have hr2 : r = Int32.ofNat (31 - e) := i_ofN (by omega)
  have e1 := n_and v ((((-2147483648 : Int32)).toUInt32 >>> ((r).toUInt32 &&& Int32.toUInt32 31)).toInt32)
  rw [hr2, hb_sh e he, and_hb (by omega) (by omega)] at e1
  rw [hr2, tI_N _ (by rw [e1]; omega), e1, p0_un (m := v.toInt.toNat + 1) (e := e) (by omega) (by omega)]
theorem k_first (n : Nat) (v : Int32) (h : 2 ≤ v.toInt) : ws (f_X11_firstPartOf n v) (fun r => r.toInt = (p0 v.toInt.toNat : Int)) := by
  unfold f_X11_firstPartOf
  have L := lits
  have hv := ib_hi v
  have e1 : (v - 1).toInt = v.toInt - 1 := by rw [ii_sub (by rw [lt1]; omega) (by rw [lt1]; omega), lt1]
  refine ws_le (fun _ => ws_b (k_hob n (v - 1) (by omega)) (fun r hr => ws_s ?_)) (fun _ => by omega)
  rw [hr, e1, show (v.toInt - 1).toNat + 1 = v.toInt.toNat by omega]
def WS (σ : ms_T) (l : List (Nat × Nat × Bool)) : Prop := (ms_I σ 657).toInt = (l.length : Int) ∧ ∀ (k : Nat) (q : Nat × Nat × Bool), l[k]? = some q → (ms_E σ 42 k).toInt = (q.1 : Int) ∧ (ms_E σ 43 k).toInt = (q.2.1 : Int)
theorem ap_get {A : Type} {l : List A} {a q : A} {k : Nat} (h : (l ++ [a])[k]? = some q) : (k < l.length ∧ l[k]? = some q) ∨ (k = l.length ∧ q = a) := by
  by_cases hk : k < l.length
  · rw [List.getElem?_append_left hk] at h; exact Or.inl ⟨hk, h⟩
  · rw [List.getElem?_append_right (by omega)] at h
    have : k - l.length < [a].length := (List.getElem?_eq_some_iff.mp h).1
    have h1 : k - l.length = 0 := by simp at this; omega
    rw [h1] at h
    exact Or.inr ⟨by omega, (Option.some.inj h).symm⟩
theorem v_asks (n : Nat) {σ : ms_T} {l : List (Nat × Nat × Bool)} (h : WS σ l) (a b : Int32) (q : Nat × Nat × Bool) (ha : a.toInt = (q.1 : Int)) (hb : b.toInt = (q.2.1 : Int)) : pr (f_X12_asks n σ a b) (fun τ => WS τ (l ++ [q])) := by
  unfold f_X12_asks
  refine pr_g (fun g0 g1 => pr_l (pr_g (fun _ _ => pr_l (pr_l (pr_s ⟨?_, ?_⟩)))))
  · rw [mI_sI, if_pos rfl]
    show (ms_I σ 657 + 1).toInt = _
    rw [ii_add (by rw [lt1]; omega) (by rw [lt1]; omega), h.1, lt1, List.length_append]
    rfl
  · intro k r hk
    have hc : (ms_I σ 657).toNatClampNeg = l.length := cl_n h.1
    have hc2 : ∀ u, (ms_I (ms_sE σ 42 l.length u) 657).toNatClampNeg = l.length := fun _ => hc
    rw [mE_sI, mE_sI, hc, hc2, mE_sE, mE_sE, mE_sE, mE_sE]
    rcases ap_get hk with ⟨h1, h2⟩ | ⟨h1, h2⟩
    · have hne : ¬ k = l.length := by omega
      simpa [hne] using h.2 k r h2
    · subst h1; subst h2
      simpa using ⟨ha, hb⟩
theorem v_waysIn (n : Nat) : ∀ (d e : Nat) (σ : ms_T) (l : List (Nat × Nat × Bool)) (f i m : Nat) (fI iI mI : Int32), WS σ l → fI.toInt = (f : Int) → iI.toInt = (i : Int) → mI.toInt = (m : Int) → i < m → m ≤ 2 ^ e → f + m ≤ 2147483647 → pr (f_X12_waysIn n d σ fI iI mI) (fun τ => WS τ (l ++ (wyT e i f m).reverse)) := by
  intro d
  induction d with
  | zero => intro e σ l f i m fI iI mI hW hf hi hm him hme hfm; rw [f_X12_waysIn.eq_1]; exact pr_0
  | succ d ih =>
    intro e σ l f i m fI iI mI hW hf hi hm him hme hfm
    rw [f_X12_waysIn.eq_2]
    refine pr_e (fun h1 => ?_) (fun h1 => ?_)
    · have : m = 1 := by rw [h1, lt1] at hm; omega
      subst this
      refine pr_s ?_
      have e1 : wyT e i f 1 = [] := by cases e <;> simp [wyT]
      rw [e1, List.reverse_nil, List.append_nil]
      exact hW
    · rw [lt1, hm] at h1
      have hm2 : 2 ≤ m := by omega
      cases e with
      | zero => simp at hme; omega
      | succ e =>
      have hp1 := p0_lt hm2
      have hp2 := p0_le (m := m)
      have hp3 := p0_pos m
      have hp4 := p0_dn hm2 hme
      have e1 : wyT (e + 1) i f m = if i < p0 m then (f + p0 m, m - p0 m, false) :: wyT e i f (p0 m) else (f, p0 m, true) :: wyT e (i - p0 m) (f + p0 m) (m - p0 m) := by rw [wyT, if_neg (by omega)]
      rw [e1]
      refine pr_b (v_part0 n mI (by omega)) (fun r hr => ?_)
      rw [hm, Int.toNat_natCast] at hr
      refine pr_le (fun h2 => ?_) (fun h2 => ?_)
      · rw [if_neg (by omega)]
        refine pr_b (ih e σ l (f + p0 m) (i - p0 m) (m - p0 m) _ _ _ hW (by rw [ii_add (by omega) (by omega)]; omega) (by rw [ii_sub (by omega) (by omega)]; omega) (by rw [ii_sub (by omega) (by omega)]; omega) (by omega) (by omega) (by omega)) (fun τ hτ => pr_b (v_asks n hτ _ _ (f, p0 m, true) hf hr) (fun υ hυ => pr_s ?_))
        rw [List.reverse_cons, ← List.append_assoc]
        exact hυ
      · rw [if_pos (by omega)]
        refine pr_b (ih e σ l f i (p0 m) _ _ _ hW hf hi hr (by omega) hp4 (by omega)) (fun τ hτ => pr_b (v_asks n hτ _ _ (f + p0 m, m - p0 m, false) (by show _ = ((f + p0 m : Nat) : Int); rw [ii_add (by omega) (by omega)]; omega) (by show _ = ((m - p0 m : Nat) : Int); rw [ii_sub (by omega) (by omega)]; omega)) (fun υ hυ => pr_s ?_))
        rw [List.reverse_cons, ← List.append_assoc]
        exact hυ
theorem v_growsIn (n : Nat) : ∀ (d e : Nat) (σ : ms_T) (l : List (Nat × Nat × Bool)) (f i m : Nat) (fI iI mI wI : Int32) (w : Bool), WS σ l → fI.toInt = (f : Int) → iI.toInt = (i : Int) → mI.toInt = (m : Int) → 1 ≤ i → i ≤ m → m ≤ 2 ^ e → f + m ≤ 2147483647 → wI = (if w then 1 else 0) → pr (f_X12_growsIn n d σ fI iI mI wI) (fun τ => WS τ (l ++ (wyG (e + 1) i f m w).reverse)) := by
  intro d
  induction d with
  | zero => intro e σ l f i m fI iI mI wI w hW hf hi hm hi1 him hme hfm hw; rw [f_X12_growsIn.eq_1]; exact pr_0
  | succ d ih =>
    intro e σ l f i m fI iI mI wI w hW hf hi hm hi1 him hme hfm hw
    rw [f_X12_growsIn.eq_2, wyG]
    refine pr_e (fun h1 => ?_) (fun h1 => ?_)
    · have : i = m := by rw [h1] at hi; omega
      rw [if_pos this]
      cases w with
      | true =>
        subst hw
        refine pr_i (fun h => absurd h (by decide)) (fun _ => pr_s ?_)
        simpa using hW
      | false =>
        subst hw
        refine pr_i (fun _ => pr_b (v_asks n hW fI mI (f, m, false) hf hm) (fun υ hυ => pr_s ?_)) (fun h => absurd rfl h)
        simpa using hυ
    · rw [hi, hm] at h1
      rw [if_neg (by omega)]
      have hm2 : 2 ≤ m := by omega
      cases e with
      | zero => simp at hme; omega
      | succ e =>
      have hp1 := p0_lt hm2
      have hp2 := p0_le (m := m)
      have hp3 := p0_pos m
      have hp4 := p0_dn hm2 hme
      refine pr_b (v_part0 n mI (by omega)) (fun r hr => ?_)
      rw [hm, Int.toNat_natCast] at hr
      refine pr_lt (fun h2 => ?_) (fun h2 => ?_)
      · rw [if_neg (by omega)]
        refine pr_b (ih e σ l (f + p0 m) (i - p0 m) (m - p0 m) _ _ _ 0 false hW (by rw [ii_add (by omega) (by omega)]; omega) (by rw [ii_sub (by omega) (by omega)]; omega) (by rw [ii_sub (by omega) (by omega)]; omega) (by omega) (by omega) (by omega) (by omega) rfl) (fun τ hτ => pr_b (v_asks n hτ _ _ (f, p0 m, true) hf hr) (fun υ hυ => pr_s ?_))
        rw [List.reverse_cons, ← List.append_assoc]
        exact hυ
      · rw [if_pos (by omega)]
        refine pr_b (ih e σ l f i (p0 m) _ _ _ wI w hW hf hi hr (by omega) (by omega) hp4 (by omega) hw) (fun τ hτ => pr_b (v_asks n hτ _ _ (f + p0 m, m - p0 m, false) (by show _ = ((f + p0 m : Nat) : Int); rw [ii_add (by omega) (by omega)]; omega) (by show _ = ((m - p0 m : Nat) : Int); rw [ii_sub (by omega) (by omega)]; omega)) (fun υ hυ => pr_s ?_))
        rw [List.reverse_cons, ← List.append_assoc]
        exact hυ
theorem v_inclusion (n : Nat) (σ : ms_T) (i m : Int32) (h0 : 0 ≤ i.toInt) (h1 : i.toInt < m.toInt) : pr (f_X12_inclusion n σ i m) (fun τ => WS τ (wyT 31 i.toInt.toNat 0 m.toInt.toNat).reverse) := by
  have hm := ib_hi m
  unfold f_X12_inclusion
  refine pr_l (pr_b (v_waysIn n 40 31 _ [] 0 i.toInt.toNat m.toInt.toNat 0 i m ⟨by rw [mI_sI, if_pos rfl]; rfl, fun k q h => by simp at h⟩ rfl (by omega) (by omega) (by omega) (by omega) (by omega)) (fun τ hτ => pr_s ?_))
  simpa using hτ
/-- a growth's way: none from nothing, none to itself -/
def wyH (i m : Nat) : List (Nat × Nat × Bool) := if i = 0 then [] else wyG 32 i 0 m true
theorem v_growth (n : Nat) (σ : ms_T) (i m : Int32) (h0 : 0 ≤ i.toInt) (h1 : i.toInt ≤ m.toInt) : pr (f_X12_growth n σ i m) (fun τ => WS τ (wyH i.toInt.toNat m.toInt.toNat).reverse) := by
  have hm := ib_hi m
  have L := lits
  have hz : WS (ms_sI σ 657 0) [] := ⟨by rw [mI_sI, if_pos rfl]; rfl, fun k q h => by simp at h⟩
  unfold f_X12_growth wyH
  refine pr_l (pr_le (fun h => pr_s ?_) (fun h => pr_le (fun g => pr_s ?_) (fun g => ?_)))
  · rw [if_pos (by omega)]; exact hz
  · rw [if_neg (by omega), wyG, if_pos (by omega)]; exact hz
  · rw [if_neg (by omega)]
    refine pr_b (v_growsIn n 40 31 _ [] 0 i.toInt.toNat m.toInt.toNat 0 i m 1 true hz rfl (by omega) (by omega) (by omega) (by omega) (by omega) (by omega) rfl) (fun τ hτ => pr_s ?_)
    simpa using hτ
