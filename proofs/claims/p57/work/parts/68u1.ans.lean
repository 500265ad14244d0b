set_option maxRecDepth 100000
/-! ===== head ===== -/
theorem v_noSize (n : Nat) (σ : ms_T) (hC : rC (ms_E σ 40)) (a b : Int32) : pr (f_X12_noSize n σ a b) (fun v => (v = 0 ∧ 0 ≤ b.toInt ∧ (0 ≤ a.toInt ∧ a.toInt < (ms_E σ 40 0).toInt) ∧ b.toInt ≤ (ms_E σ 40 (72 + a.toInt.toNat)).toInt) ∨ (¬ v = 0 ∧ ¬ (0 ≤ b.toInt ∧ (0 ≤ a.toInt ∧ a.toInt < (ms_E σ 40 0).toInt) ∧ b.toInt ≤ (ms_E σ 40 (72 + a.toInt.toNat)).toInt))) := by
  have h4 := hC.1
  unfold f_X12_noSize
  refine pr_le (fun e => pr_bo (pr_w (s_isRecord hC a)) (fun h0 => pr_s (Or.inr ⟨by decide, fun q => h0 q.2.1⟩)) (fun h1 => ?_)) (fun e => pr_s (Or.inr ⟨by decide, fun q => by rw [lt0] at e; omega⟩))
  rw [lt0] at e
  unfold f_X12_sizeOf
  refine pr_b (T := fun v => v = ms_E σ 40 (72 + a.toInt.toNat)) (pr_g (fun g0 g1 => pr_s ?_)) (fun v hv => ?_)
  · rw [cl_n (i := (72 : Int32) + a) (k := 72 + a.toInt.toNat) (by rw [iw_add, t_72]; omega)]
  · rw [hv]
    exact pr_le (fun e2 => pr_s (Or.inl ⟨rfl, e, h1, e2⟩)) (fun e2 => pr_s (Or.inr ⟨by decide, fun q => by omega⟩))
/-! ===== include, grow, peaks: what is asked for comes onto the pad ===== -/
theorem wyT_in : ∀ (e i f m : Nat), i < m → ∀ q ∈ wyT e i f m, q.1 + q.2.1 ≤ f + m := by
  intro e
  induction e with
  | zero => intro i f m _ q hq; rw [wyT] at hq; exact absurd hq List.not_mem_nil
  | succ e ih =>
    intro i f m him q hq
    rw [wyT] at hq
    by_cases h1 : m ≤ 1
    · rw [if_pos h1] at hq; exact absurd hq List.not_mem_nil
    · rw [if_neg h1] at hq
      have hp1 := p0_lt (m := m) (by omega)
      by_cases h2 : i < p0 m
      · rw [if_pos h2] at hq
        rcases List.mem_cons.mp hq with h | h
        · rw [h]; show f + p0 m + (m - p0 m) ≤ _; omega
        · have := ih _ _ _ h2 q h; omega
      · rw [if_neg h2] at hq
        rcases List.mem_cons.mp hq with h | h
        · rw [h]; show f + p0 m ≤ _; omega
        · have := ih (i - p0 m) (f + p0 m) (m - p0 m) (by omega) q h; omega
theorem wyT_rin {N I : Nat} (h : I < N) : ∀ q ∈ (wyT 31 I 0 N).reverse, q.1 + q.2.1 ≤ N := fun q hq => by
  have := wyT_in 31 I 0 N h q (List.mem_reverse.mp hq)
  omega
abbrev inOK (f : Nat → Int32) (a i m : Int32) : Prop := (0 ≤ i.toInt ∧ 0 ≤ m.toInt) ∧ (0 ≤ a.toInt ∧ a.toInt < (f 0).toInt) ∧ m.toInt ≤ (f (72 + a.toInt.toNat)).toInt ∧ i.toInt < m.toInt
theorem v_noEntry (n : Nat) (σ : ms_T) (hC : rC (ms_E σ 40)) (a i m : Int32) : pr (f_X12_noEntry n σ a i m) (fun v => (v = 0 ∧ inOK (ms_E σ 40) a i m) ∨ (¬ v = 0 ∧ ¬ inOK (ms_E σ 40) a i m)) := by
  have h4 := hC.1
  unfold f_X12_noEntry f_X12_noEntry_J8 f_X12_noEntry_J38
  refine pr_lt (fun e => pr_s (Or.inr ⟨by decide, fun q => by rw [lt0] at e; have := q.1.1; omega⟩)) (fun e => pr_le (fun e2 => ?_) (fun e2 => pr_s (Or.inr ⟨by decide, fun q => by rw [lt0] at e2; have := q.1.2; omega⟩)))
  rw [lt0] at e e2
  refine pr_bo (pr_w (s_isRecord hC a)) (fun h0 => pr_s (Or.inr ⟨by decide, fun q => h0 q.2.1⟩)) (fun h1 => ?_)
  unfold f_X12_sizeOf
  refine pr_b (T := fun v => v = ms_E σ 40 (72 + a.toInt.toNat)) (pr_g (fun g0 g1 => pr_s ?_)) (fun v hv => ?_)
  · rw [cl_n (i := (72 : Int32) + a) (k := 72 + a.toInt.toNat) (by rw [iw_add, t_72]; omega)]
  · rw [hv]
    exact pr_lt (fun e3 => pr_s (Or.inr ⟨by decide, fun q => by have := q.2.2.1; omega⟩)) (fun e3 => pr_lt (fun e4 => pr_s (Or.inl ⟨rfl, ⟨e, e2⟩, h1, e3, e4⟩)) (fun e4 => pr_s (Or.inr ⟨by decide, fun q => by have := q.2.2.2; omega⟩)))
def inL (f : Nat → Int32) (a i m : Int32) : List Int32 := mkl (f 1) (EL f a.toInt.toNat) (wyT 31 i.toInt.toNat 0 m.toInt.toNat).reverse
theorem WR_wf {α β : hp_T} {w a : Nat} {f : Nat → Int32} (h : WR α w f) (hC : rC f) (g : wf a α β) : WR β w f :=
  WR_f h hC g.1 g.2.2.1 (fun φ b _ _ hφ => g.2.2.2.2.1 φ b (fun z => by omega)) (fun κ b j _ _ hκ => g.2.2.2.2.2 κ b j (fun z => by omega))
/-! grow -/
abbrev grOK (f : Nat → Int32) (a i m : Int32) : Prop := (0 ≤ i.toInt ∧ i.toInt ≤ m.toInt) ∧ (0 ≤ a.toInt ∧ a.toInt < (f 0).toInt) ∧ m.toInt ≤ (f (72 + a.toInt.toNat)).toInt
def grL (f : Nat → Int32) (a i m : Int32) : List Int32 := mkl (f 1) (EL f a.toInt.toNat) (wyH i.toInt.toNat m.toInt.toNat).reverse
theorem v_waysIn_fr (n : Nat) : ∀ (d : Nat) (σ : ms_T) (f i m : Int32), pr (f_X12_waysIn n d σ f i m) (fun τ => fr [657] [42, 43] σ τ) := by
  intro d
  induction d with
  | zero => intro σ f i m; rw [f_X12_waysIn.eq_1]; exact pr_0
  | succ d ih =>
    intro σ f i m
    rw [f_X12_waysIn.eq_2]
    refine pr_i (fun _ => pr_s fr_rf) (fun _ => pr_b (T := fun _ => True) (fun _ _ => trivial) (fun r _ => pr_i (fun _ => ?_) (fun _ => ?_)))
    · exact pr_b (ih σ _ _ _) (fun τ hτ => pr_b (pr_w_asks n τ _ _) (fun υ hυ => pr_s (fr_tr hτ hυ)))
    · exact pr_b (ih σ _ _ _) (fun τ hτ => pr_b (pr_w_asks n τ _ _) (fun υ hυ => pr_s (fr_tr hτ hυ)))
theorem v_incl_fr (n : Nat) (σ : ms_T) (i m : Int32) : pr (f_X12_inclusion n σ i m) (fun τ => fr [657] [42, 43] σ τ) := by
  unfold f_X12_inclusion
  exact pr_l (pr_b (v_waysIn_fr n 40 _ _ _ _) (fun τ hτ => pr_s (fr_tr (fr_sI (by decide)) hτ)))
/-! ===== length of a growth's way ===== -/
theorem wyG_dep : ∀ (e d i f m : Nat) (w : Bool), 1 ≤ i → i ≤ m → m ≤ 2 ^ e → (wyG d i f m w).length ≤ e + 1 := by
  intro e
  induction e with
  | zero =>
    intro d i f m w h1 h2 h3
    rw [Nat.pow_zero] at h3
    cases d with
    | zero => rw [wyG]; exact Nat.zero_le _
    | succ d =>
      rw [wyG, if_pos (show i = m by omega)]
      split
      · exact Nat.zero_le _
      · exact Nat.le_refl _
  | succ e ih =>
    intro d i f m w h1 h2 h3
    cases d with
    | zero => rw [wyG]; exact Nat.zero_le _
    | succ d =>
      rw [wyG]
      by_cases h4 : i = m
      · rw [if_pos h4]
        split
        · exact Nat.zero_le _
        · exact Nat.succ_le_succ (Nat.zero_le _)
      · rw [if_neg h4]
        have hp := p0_dn (show 2 ≤ m by omega) h3
        have hp2 := p0_lt (show 2 ≤ m by omega)
        have hp3 := p0_le (m := m)
        have pe : 2 ^ (e + 1) = 2 ^ e + 2 ^ e := by rw [Nat.pow_succ]; omega
        by_cases h5 : i ≤ p0 m
        · rw [if_pos h5]; exact Nat.succ_le_succ (ih d i f (p0 m) w h1 h5 hp)
        · rw [if_neg h5]; exact Nat.succ_le_succ (ih d (i - p0 m) (f + p0 m) (m - p0 m) false (by omega) (by omega) (by omega))
theorem wyH_7 {i N : Nat} (h : i ≤ N) (hN : N ≤ 48) : (wyH i N).length ≤ 7 := by
  unfold wyH
  split
  · exact Nat.zero_le _
  · exact wyG_dep 6 32 i 0 N true (by omega) h (by have : (2 : Nat) ^ 6 = 64 := (by decide); omega)
/-! ===== marks lie below M ===== -/
theorem mx_r (m h x : Int32) (hm : 0 < m.toInt) (h0 : 0 ≤ h.toInt) (h1 : h.toInt ≤ 70000) (x0 : 0 ≤ x.toInt) (x1 : x.toInt ≤ 70000) : 0 ≤ (mx m h x).toInt ∧ (mx m h x).toInt < m.toInt := by
  obtain ⟨H, hH⟩ : ∃ H, H = h.toInt * h.toInt := ⟨_, rfl⟩
  have H0 : 0 ≤ H := by rw [hH]; exact Int.mul_nonneg h0 h0
  have H1 : H ≤ 4900000000 := by
    rw [hH]
    exact Int.le_trans (Int.mul_le_mul h1 h1 h0 (by decide)) (by decide)
  have i3 : (3 : Int64).toInt = 3 := by decide
  have i7 : (7 : Int64).toInt = 7 := by decide
  have e1 : (h.toInt64 * h.toInt64).toInt = H := by rw [jl_mul (by rw [i64_of, ← hH]; omega) (by rw [i64_of, ← hH]; omega), i64_of, ← hH]
  have e2 : ((3 : Int64) * h.toInt64).toInt = 3 * h.toInt := by rw [jl_mul (by rw [i64_of, i3]; omega) (by rw [i64_of, i3]; omega), i64_of, i3]
  have e3 : (h.toInt64 * h.toInt64 + (3 : Int64) * h.toInt64).toInt = H + 3 * h.toInt := by rw [jl_add (by rw [e1, e2]; omega) (by rw [e1, e2]; omega), e1, e2]
  have e4 : (h.toInt64 * h.toInt64 + (3 : Int64) * h.toInt64 + x.toInt64).toInt = H + 3 * h.toInt + x.toInt := by rw [jl_add (by rw [e3, i64_of]; omega) (by rw [e3, i64_of]; omega), e3, i64_of]
  have e5 : (h.toInt64 * h.toInt64 + (3 : Int64) * h.toInt64 + x.toInt64 + (7 : Int64)).toInt = H + 3 * h.toInt + x.toInt + 7 := by rw [jl_add (by rw [e4, i7]; omega) (by rw [e4, i7]; omega), e4, i7]
  obtain ⟨T, hT⟩ : ∃ T, T = h.toInt64 * h.toInt64 + (3 : Int64) * h.toInt64 + x.toInt64 + (7 : Int64) := ⟨_, rfl⟩
  rw [← hT] at e5
  have hr := jl_rem (x := T) (m := m) (by omega) (by omega) hm
  have h32 := congrArg Int64.toInt (rem_32 (x := T) (m := m) (by omega) (by omega) hm)
  rw [i64_of, hr] at h32
  have em : (mx m h x).toInt = T.toInt.tmod m.toInt := by
    unfold mx
    rw [← hT]
    exact h32
  rw [em]
  exact ⟨Int.tmod_nonneg _ (by omega), Int.tmod_lt_of_pos _ hm⟩
theorem bt_r (m a b : Int32) (hm : 0 < m.toInt) (hm2 : m.toInt ≤ 65521) (a0 : 0 ≤ a.toInt) (a1 : a.toInt ≤ 70000) (b0 : 0 ≤ b.toInt) (b1 : b.toInt ≤ 70000) : 0 ≤ (bt m a b).toInt ∧ (bt m a b).toInt < m.toInt := by
  have h := mx_r m 2 a hm (by decide) (by decide) a0 a1
  exact mx_r m _ b hm h.1 (by omega) b0 b1
theorem eml_r (m : Int32) (hm : 0 < m.toInt) (hm2 : m.toInt ≤ 65521) (g : Nat → Int32) : ∀ k, (∀ j, j < k → 0 ≤ (g j).toInt ∧ (g j).toInt ≤ 70000) → 0 ≤ (eml m g k).toInt ∧ (eml m g k).toInt ≤ 65521 := by
  intro k
  induction k with
  | zero => intro _; exact ⟨by show 0 ≤ (1 : Int32).toInt; decide, by show (1 : Int32).toInt ≤ 65521; decide⟩
  | succ k ih =>
    intro h
    have q := ih (fun j hj => h j (by omega))
    have r := mx_r m (eml m g k) (g k) hm q.1 (by omega) (h k (by omega)).1 (h k (by omega)).2
    rw [eml]
    exact ⟨r.1, by omega⟩
theorem TR_r (m : Int32) (hm : 0 < m.toInt) (hm2 : m.toInt ≤ 65521) : ∀ (d : Nat) (l : List Int32), (∀ x ∈ l, 0 ≤ x.toInt ∧ x.toInt ≤ 65521) → 0 ≤ (TR (bt m) d l).toInt ∧ (TR (bt m) d l).toInt ≤ 65521 := by
  have hd : ∀ l : List Int32, (∀ x ∈ l, 0 ≤ x.toInt ∧ x.toInt ≤ 65521) → 0 ≤ (l.headD 0).toInt ∧ (l.headD 0).toInt ≤ 65521 := fun l h => by
    cases l with
    | nil => exact ⟨by show 0 ≤ (0 : Int32).toInt; decide, by show (0 : Int32).toInt ≤ 65521; decide⟩
    | cons a l => exact h a List.mem_cons_self
  intro d
  induction d with
  | zero => intro l h; exact hd l h
  | succ d ih =>
    intro l h
    rw [TR]
    split
    · exact hd l h
    · have q1 := ih (l.take (p0 l.length)) (fun x hx => h x (List.mem_of_mem_take hx))
      have q2 := ih (l.drop (p0 l.length)) (fun x hx => h x (List.mem_of_mem_drop hx))
      have r := bt_r m _ _ hm hm2 q1.1 (by omega) q2.1 (show (TR (bt m) d (l.drop (p0 l.length))).toInt ≤ 70000 by omega)
      exact ⟨r.1, by omega⟩
/-- the marks of what there is lie in 0 .. 65,521 -/
def MR (f : Nat → Int32) : Prop := ∀ r, r < (f 0).toInt.toNat → ∀ x ∈ EL f r, 0 ≤ x.toInt ∧ x.toInt ≤ 65521
theorem TMK_r {f : Nat → Int32} (hC : rC f) {L : List Int32} (h : ∀ x ∈ L, 0 ≤ x.toInt ∧ x.toInt ≤ 65521) (a k : Nat) : 0 ≤ (TMK (f 1) L a k).toInt ∧ (TMK (f 1) L a k).toInt ≤ 65521 := by
  have hm := hC.2.1
  unfold TMK
  split
  · exact ⟨by decide, by decide⟩
  · exact TR_r (f 1) (by omega) (by omega) 6 _ (fun x hx => h x (List.mem_of_mem_drop (List.mem_of_mem_take hx)))
theorem MR_WR {α : hp_T} {w : Nat} {f : Nat → Int32} (h : WR α w f) (hC : rC f) : MR f := by
  have hm := hC.2.1
  intro r hr x hx
  unfold EL at hx
  obtain ⟨i, hi, rfl⟩ := List.mem_map.mp hx
  rw [List.mem_range] at hi
  obtain ⟨⟨-, -, -, b4⟩, -⟩ := (h.2.2.1 r hr).2 i hi
  rw [EM_l]
  refine eml_r (f 1) (by omega) (by omega) _ _ (fun j hj => ?_)
  have hmem : (ltr f r i).getD j 0 ∈ ltr f r i := by
    rw [List.getD_eq_getElem?_getD, List.getElem?_eq_getElem hj]
    exact List.getElem_mem hj
  have := b4 _ hmem
  exact ⟨this.1, by omega⟩
/-! ===== what is told: letters and digits ===== -/
def te : Nat → Int32
  | 0 => 1
  | 1 => 10
  | 2 => 100
  | 3 => 1000
  | _ => 10000
def dg1 (v : Int32) (k : Nat) : Int32 := (48 : Int32) + (v / te k - v / te k / (10 : Int32) * (10 : Int32))
def emL (v : Int32) : Nat → List Int32
  | 0 => [dg1 v 0]
  | k + 1 => dg1 v (k + 1) :: emL v k
theorem emL_len (v : Int32) : ∀ k, (emL v k).length = k + 1 := by
  intro k
  induction k with
  | zero => rfl
  | succ k ih => rw [emL, List.length_cons, ih]
def dE (v : Int32) : Nat := if v.toInt ≤ 9 then 0 else if v.toInt ≤ 99 then 1 else if v.toInt ≤ 999 then 2 else if v.toInt ≤ 9999 then 3 else 4
def dgs (v : Int32) : List Int32 := emL v (dE v)
theorem dE_4 (v : Int32) : dE v ≤ 4 := by unfold dE; split; omega; split; omega; split; omega; split <;> omega
theorem te_t : ∀ k, k ≤ 4 → (te k).toInt = (10 : Int) ^ k := by decide
theorem te_p : ∀ k, k ≤ 4 → 0 < (te k).toInt ∧ ¬ te k = 0 := by decide
theorem te_m : ∀ k, k < 4 → te k * (10 : Int32) = te (k + 1) ∧ te (k + 1) / (10 : Int32) = te k := by decide
theorem te_0 : te 0 / (10 : Int32) = 0 := by decide
theorem dg1_r {v : Int32} (h0 : 0 ≤ v.toInt) {k : Nat} (hk : k ≤ 4) : 48 ≤ (dg1 v k).toInt ∧ (dg1 v k).toInt ≤ 57 := by
  have t10 := t_10
  have hp := (te_p k hk).1
  have hd := ii_div h0 hp
  have h1 : 0 ≤ (v / te k).toInt := by rw [hd]; exact Int.ediv_nonneg h0 (by omega)
  have hr := ii_rem (x := v / te k) (y := 10) h1 (by decide)
  have t48 := t_48
  unfold dg1
  rw [iw_add, hr, t10, t48]
  omega
/-- whether the power is high enough -/
theorem dE_k {v : Int32} (h0 : 0 ≤ v.toInt) (h1 : v.toInt ≤ 70000) {k : Nat} (hk : k ≤ 4) : (v / te k).toInt ≤ 9 ↔ dE v ≤ k := by
  have hd := ii_div h0 (te_p k hk).1
  rw [hd]
  unfold dE
  have : k = 0 ∨ k = 1 ∨ k = 2 ∨ k = 3 ∨ k = 4 := by omega
  have q0 : (te 0).toInt = 1 := by decide
  have q1 : (te 1).toInt = 10 := by decide
  have q2 : (te 2).toInt = 100 := by decide
  have q3 : (te 3).toInt = 1000 := by decide
  have q4 : (te 4).toInt = 10000 := by decide
  rcases this with rfl | rfl | rfl | rfl | rfl
  · rw [q0]; split <;> (try split) <;> (try split) <;> (try split) <;> omega
  · rw [q1]; split <;> (try split) <;> (try split) <;> (try split) <;> omega
  · rw [q2]; split <;> (try split) <;> (try split) <;> (try split) <;> omega
  · rw [q3]; split <;> (try split) <;> (try split) <;> (try split) <;> omega
  · rw [q4]; split <;> (try split) <;> (try split) <;> (try split) <;> omega
/-! of the reference -/
def TDS (σ : ms_T) (T : List Int32) : Prop := (ms_I σ 697).toInt = (T.length : Int) ∧ ∀ k, k < T.length → some (ms_E σ 59 k) = T[k]?
theorem v_tells (n : Nat) {σ : ms_T} {T : List Int32} (h : TDS σ T) (c : Int32) : pr (f_X12_tells n σ c) (fun τ => TDS τ (T ++ [c]) ∧ fr [697] [59] σ τ) := by
  unfold f_X12_tells
  refine pr_g (fun g0 g1 => pr_l (pr_l (pr_s ⟨⟨?_, fun k hk => ?_⟩, fr_tr (fr_sE (by decide)) (fr_sI (by decide))⟩)))
  · rw [mI_sI, if_pos rfl]
    show (ms_I σ 697 + 1).toInt = _
    rw [iw_add, lt1, List.length_append, List.length_singleton, h.1]
    have := h.1
    omega
  · rw [List.length_append, List.length_singleton] at hk
    rw [mE_sI, mE_sE, cl_n h.1]
    by_cases ek : k = T.length
    · rw [if_pos ⟨rfl, ek⟩, ek, List.getElem?_append_right (Nat.le_refl _), Nat.sub_self]; rfl
    · rw [if_neg (fun q => ek q.2), List.getElem?_append_left (by omega)]
      exact h.2 k (by omega)
theorem v_emit (n : Nat) (v : Int32) : ∀ (d k : Nat) (σ : ms_T) (T : List Int32), k ≤ 4 → TDS σ T → pr (f_X12_tellsNumber_L18 n d σ v (te k)) (fun τ => TDS τ (T ++ emL v k) ∧ fr [697] [59] σ τ) := by
  intro d
  induction d with
  | zero => intro k σ T _ _; rw [f_X12_tellsNumber_L18.eq_1]; exact pr_0
  | succ d ih =>
    intro k σ T hk hT
    rw [f_X12_tellsNumber_L18.eq_2]
    refine pr_le (fun e => by have := (te_p k hk).1; rw [lt0] at e; omega) (fun _ => pr_n (fun _ => pr_b (v_tells n hT _) (fun τ hτ => pr_l ?_)))
    cases k with
    | zero =>
      rw [te_0]
      cases d with
      | zero => rw [f_X12_tellsNumber_L18.eq_1]; exact pr_0
      | succ d =>
        rw [f_X12_tellsNumber_L18.eq_2]
        exact pr_le (fun _ => pr_s hτ) (fun e => absurd e (by decide))
    | succ k =>
      rw [(te_m k (by omega)).2]
      refine pr_m (ih k τ _ (by omega) hτ.1) (fun υ hυ => ⟨?_, fr_tr hτ.2 hυ.2⟩)
      rw [List.append_assoc] at hυ
      exact hυ.1
theorem v_number_L (n : Nat) (v : Int32) (h0 : 0 ≤ v.toInt) (h1 : v.toInt ≤ 70000) (σ : ms_T) (T : List Int32) (hT : TDS σ T) : ∀ (d k : Nat), k ≤ dE v → pr (f_X12_tellsNumber_L2 n d σ v (te k)) (fun τ => TDS τ (T ++ dgs v) ∧ fr [697] [59] σ τ) := by
  intro d
  induction d with
  | zero => intro k _; rw [f_X12_tellsNumber_L2.eq_1]; exact pr_0
  | succ d ih =>
    intro k hk
    have h4 := dE_4 v
    have t9 : (9 : Int32).toInt = 9 := by decide
    have q := dE_k h0 h1 (k := k) (by omega)
    rw [f_X12_tellsNumber_L2.eq_2]
    refine pr_n (fun _ => pr_le (fun e => ?_) (fun e => pr_l ?_))
    · rw [t9] at e
      have : dE v = k := by have := q.mp e; omega
      unfold dgs
      rw [this]
      exact v_emit n v n k σ T (by omega) hT
    · rw [t9] at e
      have : ¬ dE v ≤ k := fun z => by have := q.mpr z; omega
      rw [(te_m k (by omega)).1]
      exact ih (k + 1) (by omega)
theorem v_number (n : Nat) (v : Int32) (h0 : 0 ≤ v.toInt) (h1 : v.toInt ≤ 70000) {σ : ms_T} {T : List Int32} (hT : TDS σ T) : pr (f_X12_tellsNumber n σ v) (fun τ => TDS τ (T ++ dgs v) ∧ fr [697] [59] σ τ) := by
  unfold f_X12_tellsNumber
  exact v_number_L n v h0 h1 σ T hT n 0 (Nat.zero_le _)
def cs (i : Nat) : List Int32 := (List.range (hp_len i).toInt.toNat).map (hp_ch i)
theorem cs_gt (i k : Nat) (h : k < (cs i).length) : (cs i)[k] = hp_ch i k := by
  have q : (cs i)[k]? = some (hp_ch i k) := by
    unfold cs at h ⊢
    rw [List.length_map, List.length_range] at h
    rw [List.getElem?_map, List.getElem?_range h]; rfl
  rw [List.getElem?_eq_getElem h] at q
  exact Option.some.inj q
theorem EL_gt {f : Nat → Int32} {r i : Nat} (h : i < (f (72 + r)).toInt.toNat) (h2 : i < (EL f r).length) : (EL f r)[i] = EM f r i := by
  have q := EL_get f r i h
  rw [List.getElem?_eq_getElem h2] at q
  exact Option.some.inj q
theorem v_says_L (n i : Nat) (hi : i < 21) (v : Int32) (h0 : 0 ≤ v.toInt) (h1 : v.toInt ≤ 70000) (σ0 : ms_T) (T : List Int32) : ∀ (d k : Nat) (σ : ms_T) (kI : Int32), kI.toInt = (k : Int) → k ≤ (cs i).length → TDS σ (T ++ (cs i).take k) → fr [697] [59] σ0 σ → pr (f_X12_says_L15 n i d σ v kI) (fun τ => TDS τ (T ++ cs i ++ [32] ++ dgs v) ∧ fr [697] [59] σ0 τ) := by
  intro d
  induction d with
  | zero => intro k σ kI _ _ _ _; rw [f_X12_says_L15.eq_1]; exact pr_0
  | succ d ih =>
    intro k σ kI hk hkl hT hf
    have hl := st_len i hi
    have hcl : (cs i).length = (hp_len i).toInt.toNat := by unfold cs; rw [List.length_map, List.length_range]
    rw [f_X12_says_L15.eq_2]
    refine pr_le (fun e => ?_) (fun e => pr_q (fun _ _ => ?_))
    · rw [List.take_of_length_le (by omega)] at hT
      refine pr_b (v_tells n hT 32) (fun τ hτ => pr_b (v_number n v h0 h1 hτ.1) (fun υ hυ => pr_s ⟨hυ.1, fr_tr hf (fr_tr hτ.2 hυ.2)⟩))
    · have hk2 : k < (cs i).length := by omega
      refine pr_b (v_tells n hT _) (fun τ hτ => pr_l ?_)
      refine ih (k + 1) τ _ (by rw [iw_add, lt1]; omega) (by omega) ?_ (fr_tr hf hτ.2)
      have e1 : (cs i).take (k + 1) = (cs i).take k ++ [hp_ch i k] := by
        rw [List.take_succ_eq_append_getElem hk2]
        congr 2
        exact cs_gt i k hk2
      rw [e1, ← List.append_assoc]
      rw [cl_n hk] at hτ
      exact hτ.1
/-- a word and a number behind what is told -/
def sayL (i : Nat) (v : Int32) : List Int32 := cs i ++ [32] ++ dgs v
theorem v_says (n i : Nat) (hi : i < 21) (v : Int32) (h0 : 0 ≤ v.toInt) (h1 : v.toInt ≤ 70000) {σ : ms_T} {T : List Int32} (hT : TDS σ T) : pr (f_X12_says n σ i v) (fun τ => TDS τ (T ++ (if T = [] then [] else [32]) ++ sayL i v) ∧ fr [697] [59] σ τ) := by
  unfold f_X12_says f_X12_says_J13 sayL
  refine pr_le (fun e => ?_) (fun e => pr_b (v_tells n hT 32) (fun τ hτ => ?_))
  · have : T = [] := by
      rw [hT.1, lt0] at e
      exact List.eq_nil_of_length_eq_zero (by omega)
    subst this
    refine pr_m (v_says_L n i hi v h0 h1 σ [] n 0 σ 0 rfl (Nat.zero_le _) hT fr_rf) (fun τ hτ => ⟨?_, hτ.2⟩)
    have := hτ.1
    simpa [List.append_assoc] using this
  · have hne : ¬ T = [] := fun q => by rw [hT.1, q, lt0] at e; exact absurd e (by decide)
    rw [if_neg hne]
    refine pr_m (v_says_L n i hi v h0 h1 τ (T ++ [32]) n 0 τ 0 rfl (Nat.zero_le _) (by rw [List.take_zero, List.append_nil]; exact hτ.1) fr_rf) (fun υ hυ => ⟨?_, fr_tr hτ.2 hυ.2⟩)
    have := hυ.1
    simpa [List.append_assoc] using this
def mksL : List Int32 → List Int32
  | [] => []
  | v :: r => [32] ++ dgs v ++ mksL r
theorem v_tm_L (n : Nat) (ml : List Int32) (hr : ∀ x ∈ ml, 0 ≤ x.toInt ∧ x.toInt ≤ 65521) : ∀ (d k : Nat) (σ : ms_T) (T : List Int32) (kI : Int32), kI.toInt = (k : Int) → k ≤ ml.length → TDS σ T → (ms_I σ 657).toInt = (ml.length : Int) → MKS σ ml → pr (f_X12_tellsMarks_L25 n d σ kI) (fun res => res.1.toInt = ((T ++ mksL (ml.drop k) ++ [59]).length : Int) ∧ TDS res.2 (T ++ mksL (ml.drop k) ++ [59])) := by
  intro d
  induction d with
  | zero => intro k σ T kI _ _ _ _ _; rw [f_X12_tellsMarks_L25.eq_1]; exact pr_0
  | succ d ih =>
    intro k σ T kI hk hkl hT h7 hM
    rw [f_X12_tellsMarks_L25.eq_2]
    refine pr_le (fun e => ?_) (fun e => ?_)
    · rw [List.drop_eq_nil_of_le (by omega)]
      refine pr_b (v_tells n hT 59) (fun τ hτ => pr_s ?_)
      have e0 : T ++ mksL [] ++ [59] = T ++ [59] := by rw [mksL, List.append_nil]
      rw [e0]
      exact ⟨hτ.1.1, hτ.1⟩
    · have hk2 : k < ml.length := by omega
      refine pr_b (v_tells n hT 32) (fun τ hτ => pr_g (fun _ _ => ?_))
      have hv : ms_E τ 44 kI.toNatClampNeg = ml[k] := by
        rw [cl_n hk, hτ.2.2 44 (by decide)]
        have := hM k hk2
        rw [List.getElem?_eq_getElem hk2] at this
        exact Option.some.inj this
      rw [hv]
      have hx := hr _ (List.getElem_mem hk2)
      refine pr_b (v_number n ml[k] hx.1 (by omega) hτ.1) (fun υ hυ => pr_l ?_)
      have i7 : ms_I υ 657 = ms_I σ 657 := (hυ.2.1 657 (by decide)).trans (hτ.2.1 657 (by decide))
      have hMυ : MKS υ ml := fun j hj => by rw [hυ.2.2 44 (by decide), hτ.2.2 44 (by decide)]; exact hM j hj
      refine pr_m (ih (k + 1) υ (T ++ [32] ++ dgs ml[k]) _ (by rw [iw_add, lt1]; omega) (by omega) hυ.1 (by rw [i7]; exact h7) hMυ) (fun res hres => ?_)
      rw [List.drop_eq_getElem_cons hk2, mksL]
      simpa [List.append_assoc] using hres
theorem v_tm (n : Nat) (σ : ms_T) (hC : rC (ms_E σ 40)) (hMR : MR (ms_E σ 40)) (r : Nat) (hr : r < (ms_E σ 40 0).toInt.toNat) (rI : Int32) (hrI : rI.toInt = (r : Int)) (l : List (Nat × Nat × Bool)) (hW : WS σ l) (hin : ∀ q ∈ l, q.1 + q.2.1 ≤ (EL (ms_E σ 40) r).length) (T : List Int32) (hT : TDS σ T) : pr (f_X12_tellsMarks n σ rI) (fun res => res.1.toInt = ((T ++ [32, 98, 121] ++ mksL (mkl (ms_E σ 40 1) (EL (ms_E σ 40) r) l) ++ [59]).length : Int) ∧ TDS res.2 (T ++ [32, 98, 121] ++ mksL (mkl (ms_E σ 40 1) (EL (ms_E σ 40) r) l) ++ [59])) := by
  have h4 := hC.1
  unfold f_X12_tellsMarks
  refine pr_b (v_fetches n σ hC r (by omega) rI hrI l hW hin) (fun τ hτ => ?_)
  obtain ⟨h1, h2, h3⟩ := hτ
  have hT1 : TDS τ T := ⟨by rw [h3.1 697 (by decide)]; exact hT.1, fun k hk => by rw [h3.2 59 (by decide)]; exact hT.2 k hk⟩
  refine pr_b (v_tells n hT1 32) (fun t1 q1 => pr_b (v_tells n q1.1 98) (fun t2 q2 => pr_b (v_tells n q2.1 121) (fun t3 q3 => ?_)))
  have hf : fr [697] [59] τ t3 := fr_tr q1.2 (fr_tr q2.2 q3.2)
  have hml : ∀ x ∈ mkl (ms_E σ 40 1) (EL (ms_E σ 40) r) l, 0 ≤ x.toInt ∧ x.toInt ≤ 65521 := fun x hx => by
    unfold mkl at hx
    obtain ⟨q, -, rfl⟩ := List.mem_map.mp hx
    exact TMK_r hC (hMR r hr) _ _
  refine pr_m (v_tm_L n _ hml n 0 t3 (T ++ [32] ++ [98] ++ [121]) 0 rfl (Nat.zero_le _) q3.1 (by rw [hf.1 657 (by decide), mkl_len]; exact h2.1) (fun k hk => by rw [hf.2 44 (by decide)]; exact h1 k hk)) (fun res hres => ?_)
  rw [List.drop_zero] at hres
  simpa [List.append_assoc] using hres
def tlL (f : Nat → Int32) (a i m : Int32) : List Int32 := sayL 14 i ++ [32] ++ sayL 18 m ++ [32] ++ sayL 16 (EM f a.toInt.toNat i.toInt.toNat) ++ [32] ++ sayL 13 (TMK (f 1) (EL f a.toInt.toNat) 0 m.toInt.toNat) ++ [32, 98, 121] ++ mksL (inL f a i m) ++ [59]
theorem sayL_ne (i : Nat) (v : Int32) (T : List Int32) : ¬ T ++ sayL i v = [] := by
  unfold sayL
  simp
theorem EL_mem {f : Nat → Int32} {r i : Nat} (h : i < (f (72 + r)).toInt.toNat) : EM f r i ∈ EL f r := by
  unfold EL
  exact List.mem_map.mpr ⟨i, List.mem_range.mpr h, rfl⟩
theorem v_tell (n : Nat) (σ : ms_T) (hC : rC (ms_E σ 40)) (hMR : MR (ms_E σ 40)) (a i m : Int32) : pr (f_X12_tell n σ a i m) (fun res => (inOK (ms_E σ 40) a i m → res.1.toInt = ((tlL (ms_E σ 40) a i m).length : Int) ∧ TDS res.2 (tlL (ms_E σ 40) a i m)) ∧ (¬ inOK (ms_E σ 40) a i m → res.1 = -1 ∧ ∀ T, TDS σ T → TDS res.2 T)) := by
  have h4 := hC.1
  unfold f_X12_tell
  refine pr_b (v_noEntry n σ hC a i m) (fun v hv => ?_)
  rcases hv with ⟨rfl, ok⟩ | ⟨hv, no⟩
  · have hsz := hC.2.2.2.2.1 a.toInt.toNat (by omega)
    refine v_is0 n σ (pr_ln (fun τ hτ => ?_))
    have e40 : ms_E τ 40 = ms_E σ 40 := by rw [hτ]; rfl
    have hT0 : TDS τ [] := ⟨by rw [hτ, mI_sI, if_pos rfl]; rfl, fun k hk => absurd hk (Nat.not_lt_zero _)⟩
    refine pr_b (v_says n 14 (by decide) i (by omega) (by omega) hT0) (fun t1 q1 => ?_)
    rw [if_pos rfl, List.append_nil, List.nil_append] at q1
    refine pr_b (v_says n 18 (by decide) m (by omega) (by omega) q1.1) (fun t2 q2 => ?_)
    rw [if_neg (show ¬ sayL 14 i = [] from fun z => sayL_ne 14 i [] (by rw [List.nil_append]; exact z))] at q2
    have f2 : fr [697] [59] τ t2 := fr_tr q1.2 q2.2
    have c2 : ms_E t2 40 = ms_E σ 40 := by rw [← e40]; exact funext (fun j => f2.2 40 (by decide) j)
    refine pr_b (v_entryMark n t2 a.toInt.toNat i.toInt.toNat (by omega) (by omega) a i (by omega) (by omega) (by rw [c2]; exact (hC.2.2.2.2.2.2.2.2 (48 * a.toInt.toNat + i.toInt.toNat) (by omega)).1) (by rw [c2]; exact (hC.2.2.2.2.2.2.2.2 (48 * a.toInt.toNat + i.toInt.toNat) (by omega)).2)) (fun v1 hv1 => ?_)
    rw [c2] at hv1
    have hm1 := hMR a.toInt.toNat (by omega) _ (EL_mem (f := ms_E σ 40) (r := a.toInt.toNat) (i := i.toInt.toNat) (by omega))
    rw [← hv1] at hm1
    refine pr_b (v_says n 16 (by decide) v1 hm1.1 (by omega) q2.1) (fun t3 q3 => ?_)
    rw [if_neg (sayL_ne 18 m _)] at q3
    have f3 : fr [697] [59] τ t3 := fr_tr f2 q3.2
    have c3 : ms_E t3 40 = ms_E σ 40 := by rw [← e40]; exact funext (fun j => f3.2 40 (by decide) j)
    refine pr_b (v_headOf n t3 (by rw [c3]; exact hC) a.toInt.toNat (by omega) a (by omega) m.toInt.toNat m (by omega) (by rw [EL_len, c3]; omega)) (fun v2 hv2 => ?_)
    rw [c3] at hv2
    have hm2 := TMK_r hC (hMR a.toInt.toNat (by omega)) 0 m.toInt.toNat
    rw [← hv2] at hm2
    refine pr_b (v_says n 13 (by decide) v2 hm2.1 (by omega) q3.1) (fun t4 q4 => ?_)
    rw [if_neg (sayL_ne 16 v1 _)] at q4
    have f4 : fr [697] [59] τ t4 := fr_tr f3 q4.2
    have c4 : ms_E t4 40 = ms_E σ 40 := by rw [← e40]; exact funext (fun j => f4.2 40 (by decide) j)
    refine pr_b (fun t5 h5 => (⟨v_inclusion n t4 i m ok.1.1 ok.2.2.2 t5 h5, v_incl_fr n t4 i m t5 h5⟩ : WS t5 _ ∧ fr [657] [42, 43] t4 t5)) (fun t5 q5 => ?_)
    obtain ⟨hW, f5⟩ := q5
    have c5 : ms_E t5 40 = ms_E σ 40 := by rw [← c4]; exact funext (fun j => f5.2 40 (by decide) j)
    have hT5 : TDS t5 _ := ⟨by rw [f5.1 697 (by decide)]; exact q4.1.1, fun k hk => by rw [f5.2 59 (by decide)]; exact q4.1.2 k hk⟩
    refine pr_c (v_tm n t5 (by rw [c5]; exact hC) (by rw [c5]; exact hMR) a.toInt.toNat (by rw [c5]; omega) a (by omega) _ hW (fun q hq => ?_) _ hT5) (fun r t6 h6 => pr_s ⟨fun _ => ?_, fun no => absurd ok no⟩)
    · have := wyT_rin (N := m.toInt.toNat) (I := i.toInt.toNat) (by omega) q hq
      rw [c5, EL_len]; omega
    · rw [c5, hv1, hv2] at h6
      exact h6
  · exact v_is1 n σ v hv (pr_s ⟨fun ok => absurd ok no, fun _ => ⟨rfl, fun T hT => ⟨hT.1, hT.2⟩⟩⟩)
def tgL (f : Nat → Int32) (a i m : Int32) : List Int32 := sayL 11 i ++ [32] ++ sayL 16 (TMK (f 1) (EL f a.toInt.toNat) 0 i.toInt.toNat) ++ [32] ++ sayL 20 m ++ [32] ++ sayL 13 (TMK (f 1) (EL f a.toInt.toNat) 0 m.toInt.toNat) ++ [32, 98, 121] ++ mksL (grL f a i m) ++ [59]
theorem v_tellGrowth (n : Nat) (σ : ms_T) (hC : rC (ms_E σ 40)) (hMR : MR (ms_E σ 40)) (a i m : Int32) : pr (f_X12_tellGrowth n σ a i m) (fun res => (grOK (ms_E σ 40) a i m → res.1.toInt = ((tgL (ms_E σ 40) a i m).length : Int) ∧ TDS res.2 (tgL (ms_E σ 40) a i m)) ∧ (¬ grOK (ms_E σ 40) a i m → res.1 = -1 ∧ ∀ T, TDS σ T → TDS res.2 T)) := by
  have h4 := hC.1
  have bad : ∀ v : Int32, ¬ v = 0 → ¬ grOK (ms_E σ 40) a i m → pr (f_X12_tellGrowth_J20 n σ a i m v) (fun res => (grOK (ms_E σ 40) a i m → res.1.toInt = ((tgL (ms_E σ 40) a i m).length : Int) ∧ TDS res.2 (tgL (ms_E σ 40) a i m)) ∧ (¬ grOK (ms_E σ 40) a i m → res.1 = -1 ∧ ∀ T, TDS σ T → TDS res.2 T)) := fun v hv no => by
    unfold f_X12_tellGrowth_J20
    exact v_is1 n σ v hv (pr_s ⟨fun ok => absurd ok no, fun _ => ⟨rfl, fun T hT => ⟨hT.1, hT.2⟩⟩⟩)
  unfold f_X12_tellGrowth f_X12_tellGrowth_J10
  refine pr_lt (fun e => bad 1 (by decide) (fun q => by rw [lt0] at e; have := q.1.1; omega)) (fun e => pr_le (fun e2 => ?_) (fun e2 => bad 1 (by decide) (fun q => by have := q.1.2; omega)))
  rw [lt0] at e
  refine pr_b (v_noSize n σ hC a m) (fun v hv => ?_)
  rcases hv with ⟨rfl, ok0⟩ | ⟨hv, no⟩
  · have ok : grOK (ms_E σ 40) a i m := ⟨⟨e, e2⟩, ok0.2.1, ok0.2.2⟩
    have hsz := hC.2.2.2.2.1 a.toInt.toNat (by omega)
    unfold f_X12_tellGrowth_J20
    refine v_is0 n σ (pr_ln (fun τ hτ => ?_))
    have e40 : ms_E τ 40 = ms_E σ 40 := by rw [hτ]; rfl
    have hT0 : TDS τ [] := ⟨by rw [hτ, mI_sI, if_pos rfl]; rfl, fun k hk => absurd hk (Nat.not_lt_zero _)⟩
    refine pr_b (v_says n 11 (by decide) i (by omega) (by omega) hT0) (fun t1 q1 => ?_)
    rw [if_pos rfl, List.append_nil, List.nil_append] at q1
    have c1 : ms_E t1 40 = ms_E σ 40 := by rw [← e40]; exact funext (fun j => q1.2.2 40 (by decide) j)
    refine pr_b (v_headOf n t1 (by rw [c1]; exact hC) a.toInt.toNat (by omega) a (by omega) i.toInt.toNat i (by omega) (by rw [EL_len, c1]; omega)) (fun v1 hv1 => ?_)
    rw [c1] at hv1
    have hm1 := TMK_r hC (hMR a.toInt.toNat (by omega)) 0 i.toInt.toNat
    rw [← hv1] at hm1
    refine pr_b (v_says n 16 (by decide) v1 hm1.1 (by omega) q1.1) (fun t2 q2 => ?_)
    rw [if_neg (show ¬ sayL 11 i = [] from fun z => sayL_ne 11 i [] (by rw [List.nil_append]; exact z))] at q2
    have f2 : fr [697] [59] τ t2 := fr_tr q1.2 q2.2
    refine pr_b (v_says n 20 (by decide) m (by omega) (by omega) q2.1) (fun t3 q3 => ?_)
    rw [if_neg (sayL_ne 16 v1 _)] at q3
    have f3 : fr [697] [59] τ t3 := fr_tr f2 q3.2
    have c3 : ms_E t3 40 = ms_E σ 40 := by rw [← e40]; exact funext (fun j => f3.2 40 (by decide) j)
    refine pr_b (v_headOf n t3 (by rw [c3]; exact hC) a.toInt.toNat (by omega) a (by omega) m.toInt.toNat m (by omega) (by rw [EL_len, c3]; omega)) (fun v2 hv2 => ?_)
    rw [c3] at hv2
    have hm2 := TMK_r hC (hMR a.toInt.toNat (by omega)) 0 m.toInt.toNat
    rw [← hv2] at hm2
    refine pr_b (v_says n 13 (by decide) v2 hm2.1 (by omega) q3.1) (fun t4 q4 => ?_)
    rw [if_neg (sayL_ne 20 m _)] at q4
    have f4 : fr [697] [59] τ t4 := fr_tr f3 q4.2
    have c4 : ms_E t4 40 = ms_E σ 40 := by rw [← e40]; exact funext (fun j => f4.2 40 (by decide) j)
    refine pr_b (fun t5 h5 => (⟨v_growth n t4 i m e e2 t5 h5, v_growth_fr n t4 i m t5 h5⟩ : WS t5 _ ∧ fr [657] [42, 43] t4 t5)) (fun t5 q5 => ?_)
    obtain ⟨hW, f5⟩ := q5
    have c5 : ms_E t5 40 = ms_E σ 40 := by rw [← c4]; exact funext (fun j => f5.2 40 (by decide) j)
    have hT5 : TDS t5 _ := ⟨by rw [f5.1 697 (by decide)]; exact q4.1.1, fun k hk => by rw [f5.2 59 (by decide)]; exact q4.1.2 k hk⟩
    refine pr_c (v_tm n t5 (by rw [c5]; exact hC) (by rw [c5]; exact hMR) a.toInt.toNat (by rw [c5]; omega) a (by omega) _ hW (fun q hq => ?_) _ hT5) (fun r t6 h6 => pr_s ⟨fun _ => ?_, fun no => absurd ok no⟩)
    · have := wyH_in i.toInt.toNat m.toInt.toNat (by omega) q hq
      rw [c5, EL_len]; omega
    · rw [c5, hv1, hv2] at h6
      exact h6
  · exact bad v hv (fun q => no ⟨by omega, q.2.1, q.2.2⟩)
/-! of the class -/
def TDC (α : hp_T) (x : Nat) (T : List Int32) : Prop := (hp_I α 611 x).toInt = (T.length : Int) ∧ T.length ≤ 256 ∧ ∀ k, k < T.length → some (hp_E α 25 (hp_R α 610 x) k) = T[k]?
def tdf (x : Nat) (α β : hp_T) : Prop := hp_R β = hp_R α ∧ hp_K β = hp_K α ∧ hp_Q β = hp_Q α ∧ hp_N β = hp_N α ∧ (∀ φ b, φ ≠ 611 → hp_I β φ b = hp_I α φ b) ∧ ∀ κ b j, κ ≠ 25 → hp_E β κ b j = hp_E α κ b j
theorem tdf_rf {x : Nat} {α : hp_T} : tdf x α α := ⟨rfl, rfl, rfl, rfl, fun _ _ _ => rfl, fun _ _ _ _ => rfl⟩
theorem tdf_tr {x : Nat} {α β γ : hp_T} (h : tdf x α β) (g : tdf x β γ) : tdf x α γ := by
  obtain ⟨h1, h2, h3, h4, h5, h6⟩ := h
  obtain ⟨g1, g2, g3, g4, g5, g6⟩ := g
  exact ⟨g1.trans h1, g2.trans h2, g3.trans h3, g4.trans h4, fun φ b q => (g5 φ b q).trans (h5 φ b q), fun κ b j q => (g6 κ b j q).trans (h6 κ b j q)⟩
theorem b8_id {a : Int32} (h0 : 0 ≤ a.toInt) (h1 : a.toInt ≤ 127) : ((a).toInt8.toInt32).toInt8.toInt32 = a := by
  have e : ∀ y : Int32, 0 ≤ y.toInt → y.toInt ≤ 127 → y.toInt8.toInt32 = y := fun y p q => by
    rw [← Int32.toInt_inj, Int8.toInt_toInt32, Int32.toInt_toInt8]
    exact Int.bmod_eq_of_le (by omega) (by omega)
  rw [e a h0 h1, e a h0 h1]
theorem k_tellByte (n : Nat) {α : hp_T} {x : Nat} {T : List Int32} (h : TDC α x T) (hl : T.length < 256) (c : Int32) (c0 : 0 ≤ c.toInt) (c1 : c.toInt ≤ 127) : ws (f_X11_tellByte n α x c) (fun β => TDC β x (T ++ [c]) ∧ tdf x α β) := by
  obtain ⟨h1, h2, h3⟩ := h
  have t256 : (256 : Int32).toInt = 256 := by decide
  unfold f_X11_tellByte
  refine ws_l (ws_lt (fun e => by rw [lt0] at e; omega) (fun _ => ws_l (ws_l (ws_le (fun e => by omega) (fun _ => ws_l (ws_l (ws_g (by omega) (by omega) (ws_l (ws_l (ws_l (ws_s ⟨⟨?_, ?_, fun k hk => ?_⟩, ?_⟩)))))))))))
  · rw [hI_sI, if_pos ⟨rfl, rfl⟩]
    show (hp_I α 611 x + 1).toInt = _
    rw [iw_add, lt1, List.length_append, List.length_singleton]; omega
  · rw [List.length_append, List.length_singleton]; omega
  · rw [List.length_append, List.length_singleton] at hk
    rw [hE_sI, hE_sE, cl_n h1, hR_sI, hR_sE]
    by_cases ek : k = T.length
    · rw [if_pos ⟨rfl, rfl, ek⟩, ek, List.getElem?_append_right (Nat.le_refl _), Nat.sub_self, b8_id c0 c1]; rfl
    · rw [if_neg (fun q => ek q.2.2), List.getElem?_append_left (by omega)]
      exact h3 k (by omega)
  · exact ⟨rfl, rfl, rfl, rfl, fun φ b q => by rw [hI_sI, if_neg (fun z => q z.1), hI_sE], fun κ b j q => by rw [hE_sI, hE_sE, if_neg (fun z => q z.1)]⟩
theorem cs_r : ∀ i, i < 21 → ∀ c ∈ cs i, 0 ≤ c.toInt ∧ c.toInt ≤ 127 := by decide +kernel
theorem k_text_L (n i : Nat) (hi : i < 21) (x : Nat) (T : List Int32) (α0 : hp_T) (hT6 : T.length + (cs i).length ≤ 256) : ∀ (d k : Nat) (α : hp_T) (kI : Int32), kI.toInt = (k : Int) → k ≤ (cs i).length → TDC α x (T ++ (cs i).take k) → tdf x α0 α → (cs i).length + 1 - k ≤ d → ws (f_X11_tellText_L2 n x i d α kI) (fun β => TDC β x (T ++ cs i) ∧ tdf x α0 β) := by
  intro d
  induction d with
  | zero => intro k α kI _ _ _ _ hd; omega
  | succ d ih =>
    intro k α kI hk hkl hT hf hd
    have hl := st_len i hi
    have hcl : (cs i).length = (hp_len i).toInt.toNat := by unfold cs; rw [List.length_map, List.length_range]
    rw [f_X11_tellText_L2.eq_2]
    refine ws_le (fun e => ws_s ?_) (fun e => ws_q (by omega) (by omega) ?_)
    · rw [List.take_of_length_le (by omega)] at hT
      exact ⟨hT, hf⟩
    · have hk2 : k < (cs i).length := by omega
      have hch : hp_ch i kI.toNatClampNeg = (cs i)[k] := by
        rw [cl_n hk]
        exact (cs_gt i k hk2).symm
      rw [hch]
      have hr := cs_r i hi _ (List.getElem_mem hk2)
      refine ws_b (k_tellByte n hT (by rw [List.length_append, List.length_take]; omega) _ hr.1 hr.2) (fun β hβ => ws_l ?_)
      refine ih (k + 1) β _ (by rw [iw_add, lt1]; omega) (by omega) ?_ (tdf_tr hf hβ.2) (by omega)
      rw [List.take_succ_eq_append_getElem hk2, ← List.append_assoc]
      exact hβ.1
theorem k_text (n : Nat) (hn : 70000 ≤ n) (i : Nat) (hi : i < 21) {x : Nat} {T : List Int32} {α : hp_T} (hT : TDC α x T) (hT6 : T.length + (cs i).length ≤ 256) : ws (f_X11_tellText n α x i) (fun β => TDC β x (T ++ cs i) ∧ tdf x α β) := by
  unfold f_X11_tellText
  exact k_text_L n i hi x T α hT6 n 0 α 0 rfl (Nat.zero_le _) (by rw [List.take_zero, List.append_nil]; exact hT) tdf_rf (by omega)
theorem k_emit (n : Nat) (v : Int32) (h0 : 0 ≤ v.toInt) (x : Nat) : ∀ (k d : Nat) (α : hp_T) (T : List Int32), k ≤ 4 → TDC α x T → T.length + (k + 1) ≤ 256 → k + 2 ≤ d → ws (f_X11_tellNumber_L29 n x d α v (te k)) (fun β => TDC β x (T ++ emL v k) ∧ tdf x α β) := by
  intro k
  induction k with
  | zero =>
    intro d α T hk hT hl hd
    obtain ⟨d, rfl⟩ : ∃ y, d = y + 2 := ⟨d - 2, by omega⟩
    have hr := dg1_r h0 (k := 0) (by omega)
    rw [f_X11_tellNumber_L29.eq_2]
    refine ws_le (fun e => absurd e (by decide)) (fun _ => ws_n (by decide) (ws_b (k_tellByte n hT (by omega) _ (by show 0 ≤ (dg1 v 0).toInt; omega) (by show (dg1 v 0).toInt ≤ 127; omega)) (fun β hβ => ws_l ?_)))
    rw [te_0, f_X11_tellNumber_L29.eq_2]
    exact ws_le (fun _ => ws_s hβ) (fun e => absurd e (by decide))
  | succ k ih =>
    intro d α T hk hT hl hd
    obtain ⟨d, rfl⟩ : ∃ y, d = y + 1 := ⟨d - 1, by omega⟩
    have hr := dg1_r h0 (k := k + 1) (by omega)
    have hp := te_p (k + 1) (by omega)
    rw [f_X11_tellNumber_L29.eq_2]
    refine ws_le (fun e => by rw [lt0] at e; omega) (fun _ => ws_n hp.2 (ws_b (k_tellByte n hT (by omega) _ (by show 0 ≤ (dg1 v (k + 1)).toInt; omega) (by show (dg1 v (k + 1)).toInt ≤ 127; omega)) (fun β hβ => ws_l ?_)))
    rw [(te_m k (by omega)).2]
    refine ws_m (ih d β (T ++ [dg1 v (k + 1)]) (by omega) hβ.1 (by rw [List.length_append, List.length_singleton]; omega) (by omega)) (fun γ hγ => ⟨?_, tdf_tr hβ.2 hγ.2⟩)
    rw [emL]
    have := hγ.1
    rw [List.append_assoc] at this
    exact this
theorem k_number_L (n : Nat) (hn : 70000 ≤ n) (v : Int32) (h0 : 0 ≤ v.toInt) (h1 : v.toInt ≤ 70000) (x : Nat) (α : hp_T) (T : List Int32) (hT : TDC α x T) (hl : T.length + 5 ≤ 256) : ∀ (d k : Nat) (kI : Int32), kI.toInt = (k : Int) → k ≤ dE v → 6 - k ≤ d → ws (f_X11_tellNumber_L4 n x d α v (te k) kI) (fun β => TDC β x (T ++ dgs v) ∧ tdf x α β) := by
  intro d
  induction d with
  | zero => intro k kI _ hk hd; have := dE_4 v; omega
  | succ d ih =>
    intro k kI hkI hk hd
    have h4 := dE_4 v
    have t8 := t_8
    have t10 := t_10
    have hp := te_p k (by omega)
    have q := dE_k h0 h1 (k := k) (by omega)
    have hd1 := ii_div h0 hp.1
    have hd2 := ii_div (x := v) (y := 10) h0 (by decide)
    have hte := te_t k (by omega)
    have e9 : (v / 10).toInt < (te k).toInt ↔ (v / te k).toInt ≤ 9 := by
      rw [hd1, hd2, t10]
      have : k = 0 ∨ k = 1 ∨ k = 2 ∨ k = 3 ∨ k = 4 := by omega
      have q0 : (te 0).toInt = 1 := by decide
      have q1 : (te 1).toInt = 10 := by decide
      have q2 : (te 2).toInt = 100 := by decide
      have q3 : (te 3).toInt = 1000 := by decide
      have q4 : (te 4).toInt = 10000 := by decide
      rcases this with rfl | rfl | rfl | rfl | rfl
      · rw [q0]; omega
      · rw [q1]; omega
      · rw [q2]; omega
      · rw [q3]; omega
      · rw [q4]; omega
    rw [f_X11_tellNumber_L4.eq_2]
    refine ws_le (fun e => by omega) (fun _ => ws_lt (fun e => ?_) (fun e => ws_l (ws_l ?_)))
    · have : dE v = k := by have := q.mp (e9.mp e); omega
      unfold dgs
      rw [this]
      exact k_emit n v h0 x k n α T (by omega) hT (by omega) (by omega)
    · have : ¬ dE v ≤ k := fun z => by have := e9.mpr (q.mpr z); omega
      rw [(te_m k (by omega)).1]
      exact ih (k + 1) _ (by rw [iw_add, lt1]; omega) (by omega) (by omega)
theorem k_number (n : Nat) (hn : 70000 ≤ n) (v : Int32) (h0 : 0 ≤ v.toInt) (h1 : v.toInt ≤ 70000) {x : Nat} {α : hp_T} {T : List Int32} (hT : TDC α x T) (hl : T.length + 5 ≤ 256) : ws (f_X11_tellNumber n α x v) (fun β => TDC β x (T ++ dgs v) ∧ tdf x α β) := by
  unfold f_X11_tellNumber
  exact k_number_L n hn v h0 h1 x α T hT hl n 0 0 rfl (Nat.zero_le _) (by omega)
theorem dgs_len (v : Int32) : (dgs v).length ≤ 5 := by
  unfold dgs
  rw [emL_len]
  have := dE_4 v
  omega
theorem RWL_tdf {α β : hp_T} {x a : Nat} {l : List Int32} (h : RWL α a l) (f : tdf x α β) : RWL β a l := ⟨h.1, by rw [f.2.2.2.2.1 301 a (by decide)]; exact h.2.1, fun k hk => by rw [f.1, f.2.2.2.2.2 20 _ _ (by decide)]; exact h.2.2 k hk⟩
theorem LM_tdf {α β : hp_T} {x lg : Nat} {L : List Int32} (h : LM α lg L) (g : tdf x α β) : LM β lg L := by
  refine ⟨h.1, by rw [g.2.2.2.2.1 152 lg (by decide)]; exact h.2.1, fun j hj => ?_⟩
  rw [g.1, g.2.2.2.2.2 29 _ _ (by decide)]
  exact h.2.2 j hj
theorem TDC_jf {α β : hp_T} {x w : Nat} {T : List Int32} (h : TDC α x T) (g : jf w α β) : TDC β x T := by
  obtain ⟨g1, g2, g3, g4, g5, g6⟩ := g
  exact ⟨by rw [g5]; exact h.1, h.2.1, fun k hk => by rw [g1, g6 25 _ _ (fun z => absurd z.1 (by decide))]; exact h.2.2 k hk⟩
theorem k_tp_L (n : Nat) (hn : 70000 ≤ n) (x row : Nat) (ml : List Int32) (hr : ∀ v ∈ ml, 0 ≤ v.toInt ∧ v.toInt ≤ 65521) (hm7 : ml.length ≤ 7) : ∀ (d k : Nat) (α : hp_T) (T : List Int32) (kI : Int32), hp_R α 614 x = row → RWL α row ml → kI.toInt = (k : Int) → k ≤ ml.length → TDC α x T → T.length + 6 * (ml.length - k) + 1 ≤ 256 → ml.length + 1 - k ≤ d → ws (f_X11_tellProof_L9 n x d α kI) (fun β => TDC β x (T ++ mksL (ml.drop k) ++ [59])) := by
  intro d
  induction d with
  | zero => intro k α T kI _ _ _ _ _ _ hd; omega
  | succ d ih =>
    intro k α T kI hrow hR hk hkl hT hb hd
    have e0 : cs 0 = [32] := by decide
    have e6 : cs 6 = [59] := by decide
    have hl := hR.2.1
    rw [f_X11_tellProof_L9.eq_2]
    refine ws_l (ws_l ?_)
    rw [hrow]
    refine ws_le (fun e => ?_) (fun e => ?_)
    · rw [List.drop_eq_nil_of_le (by omega)]
      refine ws_b (k_text n hn 6 (by decide) hT (by rw [e6]; show T.length + 1 ≤ 256; omega)) (fun β hβ => ws_s ?_)
      rw [e6] at hβ
      have e0' : T ++ mksL [] ++ [59] = T ++ [59] := by rw [mksL, List.append_nil]
      rw [e0']
      exact hβ.1
    · have hk2 : k < ml.length := by omega
      have hx := hr _ (List.getElem_mem hk2)
      have hdl := dgs_len ml[k]
      refine ws_b (k_text n hn 0 (by decide) hT (by rw [e0]; show T.length + 1 ≤ 256; omega)) (fun β hβ => ws_l ?_)
      rw [e0] at hβ
      have hRβ := RWL_tdf hR hβ.2
      have h614 : hp_R β 614 x = row := by rw [hβ.2.1]; exact hrow
      rw [h614]
      refine ws_b (k_rat n hRβ k hk2 kI hk) (fun v hv => ?_)
      have hv2 : v = ml[k] := by rw [hv, List.getD_eq_getElem?_getD, List.getElem?_eq_getElem hk2]; rfl
      rw [hv2]
      refine ws_b (k_number n hn ml[k] hx.1 (by omega) hβ.1 (by rw [List.length_append, List.length_singleton]; omega)) (fun γ hγ => ws_l ?_)
      refine ws_m (ih (k + 1) γ (T ++ [32] ++ dgs ml[k]) _ (by rw [hγ.2.1]; exact h614) (RWL_tdf hRβ hγ.2) (by rw [iw_add, lt1]; omega) (by omega) hγ.1 (by rw [List.length_append, List.length_append, List.length_singleton]; omega) (by omega)) (fun δ hδ => ?_)
      rw [List.drop_eq_getElem_cons hk2, mksL]
      simpa [List.append_assoc] using hδ
theorem mkl_r {f : Nat → Int32} (hC : rC f) {L : List Int32} (h : ∀ x ∈ L, 0 ≤ x.toInt ∧ x.toInt ≤ 65521) (l : List (Nat × Nat × Bool)) : ∀ v ∈ mkl (f 1) L l, 0 ≤ v.toInt ∧ v.toInt ≤ 65521 := fun v hv => by
  unfold mkl at hv
  obtain ⟨q, -, rfl⟩ := List.mem_map.mp hv
  exact TMK_r hC h _ _
theorem wyT_dep : ∀ (e d i f m : Nat), i < m → m ≤ 2 ^ e → (wyT d i f m).length ≤ e := by
  intro e
  induction e with
  | zero =>
    intro d i f m h1 h2
    rw [Nat.pow_zero] at h2
    cases d with
    | zero => rw [wyT]; exact Nat.zero_le _
    | succ d => rw [wyT, if_pos (show m ≤ 1 by omega)]; exact Nat.zero_le _
  | succ e ih =>
    intro d i f m h1 h2
    cases d with
    | zero => rw [wyT]; exact Nat.zero_le _
    | succ d =>
      rw [wyT]
      by_cases h3 : m ≤ 1
      · rw [if_pos h3]; exact Nat.zero_le _
      · rw [if_neg h3]
        have hp := p0_dn (show 2 ≤ m by omega) h2
        have hp2 := p0_lt (show 2 ≤ m by omega)
        have hp3 := p0_le (m := m)
        by_cases h5 : i < p0 m
        · rw [if_pos h5]; exact Nat.succ_le_succ (ih d i (f) (p0 m) h5 hp)
        · rw [if_neg h5]; exact Nat.succ_le_succ (ih d (i - p0 m) (f + p0 m) (m - p0 m) (by omega) (by omega))
theorem cs_15 : cs 15 = cs 14 ++ [32] := by decide +kernel
theorem cs_4 : cs 4 = [32] ++ cs 18 ++ [32] := by decide +kernel
theorem cs_3 : cs 3 = [32] ++ cs 16 ++ [32] := by decide +kernel
theorem cs_2 : cs 2 = [32] ++ cs 13 ++ [32] := by decide +kernel
theorem cs_1 : cs 1 = [32, 98, 121] := by decide +kernel
theorem cs_12 : cs 12 = cs 11 ++ [32] := by decide +kernel
theorem cs_5 : cs 5 = [32] ++ cs 20 ++ [32] := by decide +kernel
theorem cs_l : ∀ i, i < 21 → (cs i).length ≤ 6 := by decide +kernel
/-- from the told words on: where the class reads what it tells -/
def TLS (γ : hp_T) (x w lg row : Nat) (m : Int32) (L ml : List Int32) : Prop := hp_R γ 601 x = w ∧ hp_R γ 614 x = row ∧ hp_I γ 550 w = m ∧ LM γ lg L ∧ RWL γ row ml
theorem TLS_t {γ δ : hp_T} {x w lg row : Nat} {m : Int32} {L ml : List Int32} (h : TLS γ x w lg row m L ml) (g : tdf x γ δ) : TLS δ x w lg row m L ml := by
  obtain ⟨h1, h2, h3, h4, h5⟩ := h
  exact ⟨by rw [g.1]; exact h1, by rw [g.1]; exact h2, by rw [g.2.2.2.2.1 550 w (by decide)]; exact h3, LM_tdf h4 g, RWL_tdf h5 g⟩
theorem TLS_j {γ δ : hp_T} {x w lg row : Nat} {m : Int32} {L ml : List Int32} (h : TLS γ x w lg row m L ml) (g : jf w γ δ) : TLS δ x w lg row m L ml := by
  obtain ⟨h1, h2, h3, h4, h5⟩ := h
  exact ⟨by rw [g.1]; exact h1, by rw [g.1]; exact h2, by rw [g.2.2.2.2.1]; exact h3, LM_jf h4 g, RWL_jf h5 g⟩
theorem k_proofT (n : Nat) (hn : 70000 ≤ n) {γ : hp_T} {x w lg row : Nat} {m : Int32} {L ml : List Int32} (h : TLS γ x w lg row m L ml) (hr : ∀ v ∈ ml, 0 ≤ v.toInt ∧ v.toInt ≤ 65521) (hm7 : ml.length ≤ 7) {T : List Int32} (hT : TDC γ x T) (hb : T.length ≤ 200) : ws (f_X11_tellProof n γ x) (fun β => TDC β x (T ++ [32, 98, 121] ++ mksL ml ++ [59])) := by
  unfold f_X11_tellProof
  have hl := cs_l 1 (by decide)
  refine ws_b (k_text n hn 1 (by decide) hT (by omega)) (fun β hβ => ?_)
  rw [cs_1] at hβ
  have h2 := TLS_t h hβ.2
  refine ws_m (k_tp_L n hn x row ml hr hm7 n 0 β _ 0 h2.2.1 h2.2.2.2.2 rfl (Nat.zero_le _) hβ.1 (by rw [List.length_append]; show T.length + 3 + _ + 1 ≤ 256; omega) (by omega)) (fun γ hγ => ?_)
  rw [List.drop_zero] at hγ
  exact hγ
theorem k_tell (n : Nat) (hn : 70000 ≤ n) (α : hp_T) (x : Nat) (f : Nat → Int32) (hC : rC f) (h : RWX α x f) (pl : List Int32) (hP : RWL α (hp_R α 614 x) pl) (a i m : Int32) : ws (f_X11_tell n α x a i m) (fun res => (inOK f a i m → res.1.toInt = ((tlL f a i m).length : Int) ∧ TDC res.2 x (tlL f a i m)) ∧ (¬ inOK f a i m → res.1 = -1 ∧ ∀ T, TDC α x T → TDC res.2 x T)) := by
  obtain ⟨w, u, h1, h2, -, h4, -⟩ := h
  have hm0 := hC.2.1
  have h44 := hC.1
  have bad : ∀ v : Int32, ¬ inOK f a i m → ws (hq_c (f_X11_refuse n α x v) fun r β => some (r, β)) (fun res => (inOK f a i m → res.1.toInt = ((tlL f a i m).length : Int) ∧ TDC res.2 x (tlL f a i m)) ∧ (¬ inOK f a i m → res.1 = -1 ∧ ∀ T, TDC α x T → TDC res.2 x T)) := fun v hno => ws_hc (k_refuse n α x v) (fun z γ hz => ws_s ⟨fun ok => absurd ok hno, fun _ => ⟨hz.1, fun T hT => by
    rw [show γ = hp_sI α 600 x v from hz.2]
    exact ⟨by rw [hI_sI, if_neg (fun q => absurd q.1 (by decide))]; exact hT.1, hT.2.1, fun k hk => hT.2.2 k hk⟩⟩⟩)
  unfold f_X11_tell f_X11_tell_J29 f_X11_wrongInclusion f_X11_wrongInclusions_J29
  refine ws_l ?_
  rw [h1]
  refine ws_b (k_logAt n h4 hC a) (fun o ho => ?_)
  by_cases hr : 0 ≤ a.toInt ∧ a.toInt < (f 0).toInt
  · rw [if_pos hr] at ho
    subst ho
    have q152 := (h4.2.2.1 a.toInt.toNat (by omega)).1
    have hsz := hC.2.2.2.2.1 a.toInt.toNat (by omega)
    refine ws_hS ?_
    refine ws_b (S := fun v => (v = 0 ∧ inOK f a i m) ∨ (¬ v = 0 ∧ ¬ inOK f a i m)) (ws_hS (ws_lt (fun e => ws_s (Or.inr ⟨by decide, fun q => by rw [lt0] at e; have := q.1.1; omega⟩)) (fun e => ws_le (fun e2 => ws_l ?_) (fun e2 => ws_s (Or.inr ⟨by decide, fun q => by have := q.1.2; omega⟩))))) (fun v hv => ?_)
    · rw [lt0] at e e2
      rw [q152]
      exact ws_lt (fun e3 => ws_s (Or.inr ⟨by decide, fun q => by have := q.2.2.1; omega⟩)) (fun e3 => ws_lt (fun e4 => ws_s (Or.inl ⟨rfl, ⟨e, e2⟩, hr, e3, e4⟩)) (fun e4 => ws_s (Or.inr ⟨by decide, fun q => by have := q.2.2.2; omega⟩)))
    · rcases hv with ⟨rfl, ok⟩ | ⟨hv, no⟩
      · refine ws_i (fun _ => ws_l ?_) (fun q => absurd rfl q)
        have ok1 := ok.1
        have ok3 := ok.2.2
        have hMR := MR_WR h4 hC
        refine ws_b (k_toThing n hn α _ i m ok1.1 ok3.2) (fun β hβ => ws_l (ws_l (ws_l ?_)))
        obtain ⟨hWC, hwf⟩ := hβ
        have hWβ := WR_wf h4 hC hwf
        rw [hwf.1, h1]
        have hwl := wyT_dep 6 31 i.toInt.toNat 0 m.toInt.toNat (by omega) (by have : (2 : Nat) ^ 6 = 64 := (by decide); omega)
        have hPβ : RWL β (hp_R α 614 x) pl := RWL_wf hP hwf
        refine ws_b (k_marksAlong n hn w (hp_R α 614 x) _ β (f 1) (by omega) hWβ.2.1.1 (lpA w a.toInt.toNat) (EL f a.toInt.toNat) (WR_LM hWβ hC (by omega)) _ hWC (by rw [List.length_reverse]; omega) (fun q hq => ?_) pl hPβ) (fun γ hγ => ws_l ?_)
        · have := wyT_rin (N := m.toInt.toNat) (I := i.toInt.toNat) (by omega) q hq
          rw [EL_len]; omega
        · obtain ⟨hR, hq⟩ := hγ
          have hml : ∀ v ∈ inL f a i m, 0 ≤ v.toInt ∧ v.toInt ≤ 65521 := mkl_r hC (hMR a.toInt.toNat (by omega)) _
          have hm7 : (inL f a i m).length ≤ 7 := by unfold inL; rw [mkl_len, List.length_reverse]; omega
          obtain ⟨δ, hδ⟩ : ∃ δ, δ = hp_sI γ 611 x 0 := ⟨_, rfl⟩
          rw [← hδ]
          have hT0 : TDC δ x [] := ⟨by rw [hδ, hI_sI, if_pos ⟨rfl, rfl⟩]; rfl, by decide, fun k hk => absurd hk (Nat.not_lt_zero _)⟩
          have f0 : tdf x γ δ := by
            rw [hδ]
            exact ⟨rfl, rfl, rfl, rfl, fun φ b q => by rw [hI_sI, if_neg (fun z => q z.1)], fun _ _ _ _ => rfl⟩
          have S0 : TLS δ x w (lpA w a.toInt.toNat) (hp_R α 614 x) (f 1) (EL f a.toInt.toNat) (inL f a i m) := TLS_t ⟨by rw [hq.1, hwf.1]; exact h1, by rw [hq.1, hwf.1], by rw [hq.2.2.2.2.1 550 w (fun z => absurd z.2 (by decide))]; exact hWβ.2.1.1, LM_qf (WR_LM hWβ hC (by omega)) hq, hR⟩ f0
          have l15 := cs_l 15 (by decide)
          have l4 := cs_l 4 (by decide)
          have l3 := cs_l 3 (by decide)
          have l2 := cs_l 2 (by decide)
          have di := dgs_len i
          have dm := dgs_len m
          refine ws_b (k_text n hn 15 (by decide) hT0 (by rw [List.length_nil]; omega)) (fun b1 g1 => ?_)
          have S1 := TLS_t S0 g1.2
          refine ws_b (k_number n hn i ok1.1 (by omega) g1.1 (by simp only [List.length_append, List.length_nil]; omega)) (fun b2 g2 => ?_)
          have S2 := TLS_t S1 g2.2
          refine ws_b (k_text n hn 4 (by decide) g2.1 (by simp only [List.length_append, List.length_nil]; omega)) (fun b3 g3 => ?_)
          have S3 := TLS_t S2 g3.2
          refine ws_b (k_number n hn m (by omega) (by omega) g3.1 (by simp only [List.length_append, List.length_nil]; omega)) (fun b4 g4 => ?_)
          have S4 := TLS_t S3 g4.2
          refine ws_b (k_text n hn 3 (by decide) g4.1 (by simp only [List.length_append, List.length_nil]; omega)) (fun b5 g5 => ?_)
          have S5 := TLS_t S4 g5.2
          have hiL : i.toInt.toNat < (EL f a.toInt.toNat).length := by rw [EL_len]; omega
          refine ws_b (k_markAt n S5.2.2.2.1 i.toInt.toNat i (by omega) hiL) (fun v1 hv1 => ?_)
          have hv1' : v1 = EM f a.toInt.toNat i.toInt.toNat := by
            rw [hv1]
            exact EL_gt (by omega) hiL
          have r1 := hMR a.toInt.toNat (by omega) _ (EL_mem (f := f) (r := a.toInt.toNat) (i := i.toInt.toNat) (by omega))
          rw [← hv1'] at r1
          have d1 := dgs_len v1
          refine ws_b (k_number n hn v1 r1.1 (by omega) g5.1 (by simp only [List.length_append, List.length_nil]; omega)) (fun b6 g6 => ?_)
          have S6 := TLS_t S5 g6.2
          refine ws_b (k_text n hn 2 (by decide) g6.1 (by simp only [List.length_append, List.length_nil]; omega)) (fun b7 g7 => ws_l ?_)
          have S7 := TLS_t S6 g7.2
          rw [S7.1]
          refine ws_hc (k_headOf n hn w b7 (f 1) (by omega) S7.2.2.1 (lpA w a.toInt.toNat) (EL f a.toInt.toNat) S7.2.2.2.1 m.toInt.toNat (by rw [EL_len]; omega) m (by omega)) (fun v2 b8 hv2 => ?_)
          obtain ⟨hv2', j8⟩ := hv2
          replace hv2' : v2 = TMK (f 1) (EL f a.toInt.toNat) 0 m.toInt.toNat := hv2'
          have r2 := TMK_r hC (hMR a.toInt.toNat (by omega)) 0 m.toInt.toNat
          rw [← hv2'] at r2
          have S8 := TLS_j S7 j8
          have d2 := dgs_len v2
          refine ws_b (k_number n hn v2 r2.1 (by omega) (TDC_jf g7.1 j8) (by simp only [List.length_append, List.length_nil]; omega)) (fun b9 g9 => ?_)
          have S9 := TLS_t S8 g9.2
          refine ws_b (k_proofT n hn S9 hml hm7 g9.1 (by simp only [List.length_append, List.length_nil]; omega)) (fun b10 g10 => ws_l ?_)
          have eT : ([] : List Int32) ++ cs 15 ++ dgs i ++ cs 4 ++ dgs m ++ cs 3 ++ dgs v1 ++ cs 2 ++ dgs v2 ++ [32, 98, 121] ++ mksL (inL f a i m) ++ [59] = tlL f a i m := by
            unfold tlL sayL
            rw [← hv1', ← hv2', cs_15, cs_4, cs_3, cs_2]
            simp only [List.append_assoc, List.nil_append]
          rw [eT] at g10
          refine ws_hc (k_answer n b10 x _) (fun z ε hz => ws_s ⟨fun _ => ⟨?_, ?_⟩, fun no => absurd ok no⟩)
          · rw [show z = hp_I b10 611 x from hz.1]; exact g10.1
          · rw [show ε = hp_sI b10 600 x 0 from hz.2]
            exact ⟨by rw [hI_sI, if_neg (fun q => absurd q.1 (by decide))]; exact g10.1, g10.2.1, fun k hk => g10.2.2 k hk⟩
      · exact ws_i (fun q => absurd q hv) (fun _ => bad v no)
  · rw [if_neg hr] at ho
    subst ho
    refine ws_hN ?_
    refine ws_b (S := fun v => ¬ v = 0) (ws_hN (ws_lt (fun e => ws_s (by decide)) (fun _ => ws_le (fun e => ws_s (by decide)) (fun e => ws_s (by decide))))) (fun v hv => ?_)
    exact ws_i (fun q => absurd q hv) (fun _ => bad v (fun q => hr q.2.1))
theorem k_tellGrowth (n : Nat) (hn : 70000 ≤ n) (α : hp_T) (x : Nat) (f : Nat → Int32) (hC : rC f) (h : RWX α x f) (pl : List Int32) (hP : RWL α (hp_R α 614 x) pl) (a i m : Int32) : ws (f_X11_tellGrowth n α x a i m) (fun res => (grOK f a i m → res.1.toInt = ((tgL f a i m).length : Int) ∧ TDC res.2 x (tgL f a i m)) ∧ (¬ grOK f a i m → res.1 = -1 ∧ ∀ T, TDC α x T → TDC res.2 x T)) := by
  obtain ⟨w, u, h1, h2, -, h4, -⟩ := h
  have hm0 := hC.2.1
  have h44 := hC.1
  have bad : ∀ v : Int32, ¬ grOK f a i m → ws (hq_c (f_X11_refuse n α x v) fun r β => some (r, β)) (fun res => (grOK f a i m → res.1.toInt = ((tgL f a i m).length : Int) ∧ TDC res.2 x (tgL f a i m)) ∧ (¬ grOK f a i m → res.1 = -1 ∧ ∀ T, TDC α x T → TDC res.2 x T)) := fun v hno => ws_hc (k_refuse n α x v) (fun z γ hz => ws_s ⟨fun ok => absurd ok hno, fun _ => ⟨hz.1, fun T hT => by
    rw [show γ = hp_sI α 600 x v from hz.2]
    exact ⟨by rw [hI_sI, if_neg (fun q => absurd q.1 (by decide))]; exact hT.1, hT.2.1, fun k hk => hT.2.2 k hk⟩⟩⟩)
  unfold f_X11_tellGrowth f_X11_wrongGrowth
  refine ws_l ?_
  rw [h1]
  refine ws_b (k_logAt n h4 hC a) (fun o ho => ?_)
  by_cases hr : 0 ≤ a.toInt ∧ a.toInt < (f 0).toInt
  · rw [if_pos hr] at ho
    subst ho
    have q152 := (h4.2.2.1 a.toInt.toNat (by omega)).1
    have hsz := hC.2.2.2.2.1 a.toInt.toNat (by omega)
    refine ws_hS ?_
    refine ws_b (S := fun v => (v = 0 ∧ grOK f a i m) ∨ (¬ v = 0 ∧ ¬ grOK f a i m)) (ws_hS (ws_lt (fun e => ws_s (Or.inr ⟨by decide, fun q => by rw [lt0] at e; have := q.1.1; omega⟩)) (fun e => ws_le (fun e2 => ws_l ?_) (fun e2 => ws_s (Or.inr ⟨by decide, fun q => by have := q.1.2; omega⟩))))) (fun v hv => ?_)
    · rw [lt0] at e
      rw [q152]
      exact ws_le (fun e3 => ws_s (Or.inl ⟨rfl, ⟨e, e2⟩, hr, e3⟩)) (fun e3 => ws_s (Or.inr ⟨by decide, fun q => by have := q.2.2; omega⟩))
    · rcases hv with ⟨rfl, ok⟩ | ⟨hv, no⟩
      · refine ws_i (fun _ => ws_l ?_) (fun q => absurd rfl q)
        have ok1 := ok.1
        have ok3 := ok.2.2
        have hMR := MR_WR h4 hC
        refine ws_b (k_toGrowth n hn α _ i m ok1.1 ok1.2) (fun β hβ => ws_l (ws_l (ws_l ?_)))
        obtain ⟨hWC, hwf⟩ := hβ
        have hWβ := WR_wf h4 hC hwf
        rw [hwf.1, h1]
        have hwl := wyH_7 (i := i.toInt.toNat) (N := m.toInt.toNat) (by omega) (by omega)
        have hPβ : RWL β (hp_R α 614 x) pl := RWL_wf hP hwf
        refine ws_b (k_marksAlong n hn w (hp_R α 614 x) _ β (f 1) (by omega) hWβ.2.1.1 (lpA w a.toInt.toNat) (EL f a.toInt.toNat) (WR_LM hWβ hC (by omega)) _ hWC (by rw [List.length_reverse]; omega) (fun q hq => ?_) pl hPβ) (fun γ hγ => ws_l ?_)
        · have := wyH_in i.toInt.toNat m.toInt.toNat (by omega) q hq
          rw [EL_len]; omega
        · obtain ⟨hR, hq⟩ := hγ
          have hml : ∀ v ∈ grL f a i m, 0 ≤ v.toInt ∧ v.toInt ≤ 65521 := mkl_r hC (hMR a.toInt.toNat (by omega)) _
          have hm7 : (grL f a i m).length ≤ 7 := by unfold grL; rw [mkl_len, List.length_reverse]; omega
          obtain ⟨δ, hδ⟩ : ∃ δ, δ = hp_sI γ 611 x 0 := ⟨_, rfl⟩
          rw [← hδ]
          have hT0 : TDC δ x [] := ⟨by rw [hδ, hI_sI, if_pos ⟨rfl, rfl⟩]; rfl, by decide, fun k hk => absurd hk (Nat.not_lt_zero _)⟩
          have f0 : tdf x γ δ := by
            rw [hδ]
            exact ⟨rfl, rfl, rfl, rfl, fun φ b q => by rw [hI_sI, if_neg (fun z => q z.1)], fun _ _ _ _ => rfl⟩
          have S0 : TLS δ x w (lpA w a.toInt.toNat) (hp_R α 614 x) (f 1) (EL f a.toInt.toNat) (grL f a i m) := TLS_t ⟨by rw [hq.1, hwf.1]; exact h1, by rw [hq.1, hwf.1], by rw [hq.2.2.2.2.1 550 w (fun z => absurd z.2 (by decide))]; exact hWβ.2.1.1, LM_qf (WR_LM hWβ hC (by omega)) hq, hR⟩ f0
          have l12 := cs_l 12 (by decide)
          have l5 := cs_l 5 (by decide)
          have l3 := cs_l 3 (by decide)
          have l2 := cs_l 2 (by decide)
          have di := dgs_len i
          have dm := dgs_len m
          refine ws_b (k_text n hn 12 (by decide) hT0 (by rw [List.length_nil]; omega)) (fun b1 g1 => ?_)
          have S1 := TLS_t S0 g1.2
          refine ws_b (k_number n hn i ok1.1 (by omega) g1.1 (by simp only [List.length_append, List.length_nil]; omega)) (fun b2 g2 => ?_)
          have S2 := TLS_t S1 g2.2
          refine ws_b (k_text n hn 3 (by decide) g2.1 (by simp only [List.length_append, List.length_nil]; omega)) (fun b3 g3 => ws_l ?_)
          have S3 := TLS_t S2 g3.2
          rw [S3.1]
          refine ws_hc (k_headOf n hn w b3 (f 1) (by omega) S3.2.2.1 (lpA w a.toInt.toNat) (EL f a.toInt.toNat) S3.2.2.2.1 i.toInt.toNat (by rw [EL_len]; omega) i (by omega)) (fun v1 b4 hv1 => ?_)
          obtain ⟨hv1', j4⟩ := hv1
          replace hv1' : v1 = TMK (f 1) (EL f a.toInt.toNat) 0 i.toInt.toNat := hv1'
          have r1 := TMK_r hC (hMR a.toInt.toNat (by omega)) 0 i.toInt.toNat
          rw [← hv1'] at r1
          have S4 := TLS_j S3 j4
          have d1 := dgs_len v1
          refine ws_b (k_number n hn v1 r1.1 (by omega) (TDC_jf g3.1 j4) (by simp only [List.length_append, List.length_nil]; omega)) (fun b5 g5 => ?_)
          have S5 := TLS_t S4 g5.2
          refine ws_b (k_text n hn 5 (by decide) g5.1 (by simp only [List.length_append, List.length_nil]; omega)) (fun b6 g6 => ?_)
          have S6 := TLS_t S5 g6.2
          refine ws_b (k_number n hn m (by omega) (by omega) g6.1 (by simp only [List.length_append, List.length_nil]; omega)) (fun b6' g6' => ?_)
          have S6' := TLS_t S6 g6'.2
          refine ws_b (k_text n hn 2 (by decide) g6'.1 (by simp only [List.length_append, List.length_nil]; omega)) (fun b7 g7 => ws_l ?_)
          have S7 := TLS_t S6' g7.2
          rw [S7.1]
          refine ws_hc (k_headOf n hn w b7 (f 1) (by omega) S7.2.2.1 (lpA w a.toInt.toNat) (EL f a.toInt.toNat) S7.2.2.2.1 m.toInt.toNat (by rw [EL_len]; omega) m (by omega)) (fun v2 b8 hv2 => ?_)
          obtain ⟨hv2', j8⟩ := hv2
          replace hv2' : v2 = TMK (f 1) (EL f a.toInt.toNat) 0 m.toInt.toNat := hv2'
          have r2 := TMK_r hC (hMR a.toInt.toNat (by omega)) 0 m.toInt.toNat
          rw [← hv2'] at r2
          have S8 := TLS_j S7 j8
          have d2 := dgs_len v2
          refine ws_b (k_number n hn v2 r2.1 (by omega) (TDC_jf g7.1 j8) (by simp only [List.length_append, List.length_nil]; omega)) (fun b9 g9 => ?_)
          have S9 := TLS_t S8 g9.2
          refine ws_b (k_proofT n hn S9 hml hm7 g9.1 (by simp only [List.length_append, List.length_nil]; omega)) (fun b10 g10 => ws_l ?_)
          have eT : ([] : List Int32) ++ cs 12 ++ dgs i ++ cs 3 ++ dgs v1 ++ cs 5 ++ dgs m ++ cs 2 ++ dgs v2 ++ [32, 98, 121] ++ mksL (grL f a i m) ++ [59] = tgL f a i m := by
            unfold tgL sayL
            rw [← hv1', ← hv2', cs_12, cs_3, cs_5, cs_2]
            simp only [List.append_assoc, List.nil_append]
          rw [eT] at g10
          refine ws_hc (k_answer n b10 x _) (fun z ε hz => ws_s ⟨fun _ => ⟨?_, ?_⟩, fun no => absurd ok no⟩)
          · rw [show z = hp_I b10 611 x from hz.1]; exact g10.1
          · rw [show ε = hp_sI b10 600 x 0 from hz.2]
            exact ⟨by rw [hI_sI, if_neg (fun q => absurd q.1 (by decide))]; exact g10.1, g10.2.1, fun k hk => g10.2.2 k hk⟩
      · exact ws_i (fun q => absurd q hv) (fun _ => bad v no)
  · rw [if_neg hr] at ho
    subst ho
    refine ws_hN ?_
    refine ws_b (S := fun v => ¬ v = 0) (ws_hN (ws_lt (fun e => ws_s (by decide)) (fun _ => ws_le (fun e => ws_s (by decide)) (fun e => ws_s (by decide))))) (fun v hv => ?_)
    exact ws_i (fun q => absurd q hv) (fun _ => bad v (fun q => hr q.2.1))
theorem MR_X {α : hp_T} {x : Nat} {f : Nat → Int32} (h : RWX α x f) (hC : rC f) : MR f := by
  obtain ⟨w, u, -, -, -, h4, -⟩ := h
  exact MR_WR h4 hC
/-! ===== beside LX: what was told (OUT) ===== -/
def CX (α : hp_T) (x : Nat) (σ : ms_T) : Prop := ∃ T, TDS σ T ∧ TDC α x T
theorem CX_0 (α : hp_T) (x : Nat) (σ : ms_T) (hσ : ms_i0 σ) (_ : XSH (F_X11_init α (x + 1) x) x) : CX (F_X11_init α (x + 1) x) x σ := by
  obtain ⟨s1, -⟩ := hσ
  refine ⟨[], ⟨by rw [s1 697, if_neg (by decide)]; rfl, fun k hk => absurd hk (by simp)⟩, ⟨?_, by decide, fun k hk => absurd hk (by simp)⟩⟩
  rw [fd_X11_611 α (x + 1) x (by omega)]; rfl
def wcx (w : cw_W) : Bool := !(w.1.contains 611) && !(w.2.1.contains 610) && !(w.2.2.1.contains 25)
theorem CX_f {α β : hp_T} {x : Nat} {σ : ms_T} (h : CX α x σ) (e1 : hp_I β 611 x = hp_I α 611 x) (e2 : hp_R β 610 x = hp_R α 610 x) (e3 : ∀ j, hp_E β 25 (hp_R α 610 x) j = hp_E α 25 (hp_R α 610 x) j) : CX β x σ := by
  obtain ⟨T, h1, h2, h3, h4⟩ := h
  exact ⟨T, h1, by rw [e1]; exact h2, h3, fun k hk => by rw [e2, e3]; exact h4 k hk⟩
theorem CX_cw {w : cw_W} {α β : hp_T} {x : Nat} {σ : ms_T} (h : CX α x σ) (c : cw w α β) (hw : wcx w = true) : CX β x σ := by
  obtain ⟨c0, c1, c2, c3, c4, c5, c6, c7, c8⟩ := c
  simp only [wcx, Bool.and_eq_true, Bool.not_eq_true', List.contains_eq_mem, decide_eq_false_iff_not] at hw
  exact CX_f h (by rw [c5 611 hw.1.1]) (by rw [c6 610 hw.1.2]) (fun j => by rw [c7 25 hw.2])
theorem CX_cg {w : cw_W} {α β : hp_T} {x : Nat} {σ : ms_T} (g : GC α) (hk : hp_K α x = 12) (_ : XSH α x) (h : CX α x σ) (c : cg w α β) (hw : wcx w = true) : CX β x σ := by
  have k25 : hp_K α (hp_R α 610 x) = 25 := gkr g hk (by decide) (by decide)
  obtain ⟨c0, c1, c2, c3, c4, -⟩ := c
  simp only [wcx, Bool.and_eq_true, Bool.not_eq_true', List.contains_eq_mem, decide_eq_false_iff_not] at hw
  exact CX_f h (c2 611 x (nz hk (by decide)) hw.1.1) (c3 610 x (nz hk (by decide)) hw.1.2) (fun j => c4 25 _ j (nz k25 (by decide)) hw.2)
theorem CX_C {α β : hp_T} {x : Nat} {σ : ms_T} (g : GC α) (hk : hp_K α x = 12) (_ : XSH α x) (h : CX α x σ) (c : ∀ q, hp_K α q ≠ 0 → saC α β q) : CX β x σ := by
  have k25 : hp_K α (hp_R α 610 x) = 25 := gkr g hk (by decide) (by decide)
  have c1 := c x (nz hk (by decide))
  have c2 := c (hp_R α 610 x) (nz k25 (by decide))
  exact CX_f h (c1.2.1 611 (by decide)) (c1.2.2.1 610) (fun j => c2.2.2.2.2.1 25 j (by decide))
theorem CX_m {α β : hp_T} {x : Nat} {σ : ms_T} (h : CX α x σ) (c : mo α β) : CX β x σ := by
  obtain ⟨c1, c2, c3, c4, c5, c6, c7⟩ := c
  exact CX_f h (by rw [c6 611 (by decide)]) (by rw [c2]) (fun j => by rw [c7 25 (by decide)])
theorem CX_s {α : hp_T} {x : Nat} {σ τ : ms_T} (h : CX α x σ) (k : kf σ τ) : CX α x τ := by
  obtain ⟨T, h1, h2⟩ := h
  exact ⟨T, ⟨by rw [k.1 697 rfl]; exact h1.1, fun j hj => by rw [k.2 59 rfl]; exact h1.2 j hj⟩, h2⟩
theorem CX_k {α β : hp_T} {x : Nat} {σ τ : ms_T} (h : CX α x σ) (c : mo α β) (k : kf σ τ) : CX β x τ := CX_s (CX_m h c) k
/-- a call that tells, or tells nothing -/
theorem CX_t {α β : hp_T} {x : Nat} {σ τ : ms_T} {O : Prop} {L : List Int32} {v u : Int32} {A B : Prop} (h : CX α x σ) (hc : (O → A ∧ TDC β x L) ∧ (¬ O → v = -1 ∧ ∀ T, TDC α x T → TDC β x T)) (hm : (O → B ∧ TDS τ L) ∧ (¬ O → u = -1 ∧ ∀ T, TDS σ T → TDS τ T)) : CX β x τ := by
  by_cases o : O
  · exact ⟨L, (hm.1 o).2, (hc.1 o).2⟩
  · obtain ⟨T, h1, h2⟩ := h
    exact ⟨T, (hm.2 o).2 T h1, (hc.2 o).2 T h2⟩
/-! out -/
def ouA (T : List Int32) (i : Int32) : Int32 := if 0 ≤ i.toInt ∧ i.toInt < (T.length : Int) then T.getD i.toInt.toNat 0 else -1
theorem gD_some {T : List Int32} {k : Nat} {v : Int32} (h : some v = T[k]?) : T.getD k 0 = v := by
  rw [List.getD_eq_getElem?_getD, ← h]; rfl
theorem v_out (n : Nat) (σ : ms_T) {T : List Int32} (hT : TDS σ T) (i : Int32) : pr (f_X12_out n σ i) (fun res => res.1 = ouA T i) := by
  have bad : ∀ v : Int32, ¬ v = 0 → ¬ (0 ≤ i.toInt ∧ i.toInt < (T.length : Int)) → pr (f_X12_out_J22 n σ i v) (fun res => res.1 = ouA T i) := fun v hv no => by
    unfold f_X12_out_J22 ouA
    rw [if_neg no]
    exact v_is1 n σ v hv (pr_s rfl)
  have h1 := hT.1
  unfold f_X12_out
  refine pr_le (fun c => pr_lt (fun c1 => ?_) (fun c1 => bad 5 (by decide) (fun q => by omega))) (fun c => bad 1 (by decide) (fun q => by rw [lt0] at c; omega))
  rw [lt0] at c
  unfold f_X12_out_J22 ouA
  rw [if_pos ⟨c, by omega⟩]
  refine v_is0 n σ (pr_g (fun _ _ => pr_s ?_))
  have e : i.toNatClampNeg = i.toInt.toNat := cl_n (by omega)
  rw [e]
  exact (gD_some (hT.2 i.toInt.toNat (by omega))).symm
theorem k_out (n : Nat) (α : hp_T) (x : Nat) {T : List Int32} (hT : TDC α x T) (i : Int32) : ws (f_X11_out n α x i) (fun res => res.1 = ouA T i) := by
  have t256 : (256 : Int32).toInt = 256 := by decide
  obtain ⟨h1, h2, h3⟩ := hT
  have bad : ∀ v : Int32, ¬ (0 ≤ i.toInt ∧ i.toInt < (T.length : Int)) → ws (hq_c (f_X11_refuse n α x v) fun r β => some (r, β)) (fun res => res.1 = ouA T i) := fun v no => by
    unfold ouA
    rw [if_neg no]
    exact ws_hc (k_refuse n α x v) (fun z γ hz => ws_s hz.1)
  unfold f_X11_out f_X11_out_J40
  refine ws_le (fun c => ws_l (ws_le (fun c1 => bad 5 (fun q => by omega)) (fun c1 => ws_l (ws_le (fun c2 => by rw [t256] at c2; omega) (fun c2 => ?_))))) (fun c => bad 1 (fun q => by rw [lt0] at c; omega))
  rw [lt0] at c
  rw [t256] at c2
  refine ws_l (ws_g c (by omega) (ws_hc (k_answer n α x _) (fun z γ hz => ws_s ?_)))
  have e : i.toNatClampNeg = i.toInt.toNat := cl_n (by omega)
  unfold ouA
  rw [if_pos ⟨c, by omega⟩, gD_some (h3 i.toInt.toNat (by omega)), ← e]
  exact hz.1
