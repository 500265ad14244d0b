set_option maxRecDepth 100000
/-! ===== a mark folded along a way ===== -/
def fwd (m : Int32) (xs : Nat → Int32) : List (Nat × Nat × Bool) → Nat → Int32 → Int32
  | [], _, s => s
  | q :: r, k, s => fwd m xs r (k + 1) (if q.2.2 then bt m (xs k) s else bt m s (xs k))
theorem fwd_app (m : Int32) (xs : Nat → Int32) : ∀ (l r : List (Nat × Nat × Bool)) (k : Nat) (s : Int32), fwd m xs (l ++ r) k s = fwd m xs r (k + l.length) (fwd m xs l k s) := by
  intro l
  induction l with
  | nil => intro r k s; rfl
  | cons q l ih =>
    intro r k s
    rw [List.cons_append, fwd, fwd, ih, List.length_cons, show k + 1 + l.length = k + (l.length + 1) by omega]
theorem fwd_c (m : Int32) {xs ys : Nat → Int32} : ∀ (l : List (Nat × Nat × Bool)) (k : Nat) (s : Int32), (∀ j, k ≤ j → j < k + l.length → xs j = ys j) → fwd m xs l k s = fwd m ys l k s := by
  intro l
  induction l with
  | nil => intro k s _; rfl
  | cons q l ih =>
    intro k s h
    rw [List.length_cons] at h
    rw [fwd, fwd, h k (Nat.le_refl _) (by omega)]
    exact ih (k + 1) _ (fun j h1 h2 => h j (by omega) (by omega))
theorem v_foldsIn (n : Nat) (mark : Int32) : ∀ (d e : Nat) (σ : ms_T) (f i m a0 : Nat) (iI mI : Int32), (ms_I σ 658).toInt = (a0 : Int) → a0 + e ≤ 100 → iI.toInt = (i : Int) → mI.toInt = (m : Int) → i < m → m ≤ 2 ^ e → pr (f_X12_foldsIn n d σ mark iI mI) (fun res => res.1 = fwd (ms_E σ 40 1) (ms_E σ 44) (wyT e i f m).reverse a0 mark ∧ (ms_I res.2 658).toInt = (a0 : Int) + (wyT e i f m).length ∧ fr [658] [] σ res.2) := by
  intro d
  induction d with
  | zero => intro e σ f i m a0 iI mI _ _ _ _ _ _; rw [f_X12_foldsIn.eq_1]; exact pr_0
  | succ d ih =>
    intro e σ f i m a0 iI mI h0 hae hi hm him hme
    rw [f_X12_foldsIn.eq_2]
    refine pr_e (fun h1 => ?_) (fun h1 => ?_)
    · have : m = 1 := by rw [h1, lt1] at hm; omega
      subst this
      have e1 : wyT e i f 1 = [] := by cases e <;> simp [wyT]
      rw [e1]
      exact pr_s ⟨rfl, by rw [h0]; simp, fr_rf⟩
    · rw [lt1, hm] at h1
      have hm2 : 2 ≤ m := by omega
      have hmb := ib_hi mI
      cases e with
      | zero => simp at hme; omega
      | succ e =>
      have hp1 := p0_lt hm2
      have hp2 := p0_le (m := m)
      have hp3 := p0_pos m
      have hp4 := p0_dn hm2 hme
      have e1 : wyT (e + 1) i f m = if i < p0 m then (f + p0 m, m - p0 m, false) :: wyT e i f (p0 m) else (f, p0 m, true) :: wyT e (i - p0 m) (f + p0 m) (m - p0 m) := by rw [wyT, if_neg (by omega)]
      rw [e1]
      refine pr_b (v_part0 n mI (by omega)) (fun r hr => ?_)
      rw [hm, Int.toNat_natCast] at hr
      refine pr_le (fun h2 => ?_) (fun h2 => ?_)
      · rw [if_neg (show ¬ i < p0 m by omega)]
        refine pr_c (ih e σ (f + p0 m) (i - p0 m) (m - p0 m) a0 _ _ h0 (by omega) (by rw [ii_sub (by omega) (by omega)]; omega) (by rw [ii_sub (by omega) (by omega)]; omega) (by omega) (by omega)) (fun v τ hτ => ?_)
        obtain ⟨t1, t2, t3⟩ := hτ
        replace t2 : (ms_I τ 658).toInt = _ := t2
        have hwl := wyT_len e (i - p0 m) (f + p0 m) (m - p0 m)
        have e44 : ms_E τ 44 = ms_E σ 44 := funext (t3.2 44 (by decide))
        have e40 : ms_E τ 40 1 = ms_E σ 40 1 := t3.2 40 (by decide) 1
        refine pr_ln (fun υ hυ => pr_g (fun _ _ => ?_))
        have u1 : (ms_I υ 658).toInt = (a0 : Int) + (wyT e (i - p0 m) (f + p0 m) (m - p0 m)).length + 1 := by rw [hυ, mI_sI, if_pos rfl, iw_add, lt1]; omega
        have hc : (ms_I υ 658 - 1).toNatClampNeg = a0 + (wyT e (i - p0 m) (f + p0 m) (m - p0 m)).length := cl_n (by rw [iw_sub, lt1, u1]; omega)
        have uE : ms_E υ = ms_E τ := by rw [hυ]; rfl
        rw [hc, uE, e44]
        refine pr_b (v_both n υ _ _) (fun w hw => pr_s ⟨?_, ?_, ?_⟩)
        · replace t1 : v = _ := t1
          rw [List.reverse_cons, fwd_app, List.length_reverse, ← t1, fwd, fwd]
          rw [uE, e40] at hw
          show w = _
          rw [hw]
          rfl
        · show (ms_I υ 658).toInt = _
          rw [u1, List.length_cons]; omega
        · show fr [658] [] σ υ
          rw [hυ]
          exact fr_tr t3 (fr_sI (by decide))
      · rw [if_pos (show i < p0 m by omega)]
        refine pr_c (ih e σ f i (p0 m) a0 _ _ h0 (by omega) hi hr (by omega) hp4) (fun v τ hτ => ?_)
        obtain ⟨t1, t2, t3⟩ := hτ
        replace t2 : (ms_I τ 658).toInt = _ := t2
        have hwl := wyT_len e i f (p0 m)
        have e44 : ms_E τ 44 = ms_E σ 44 := funext (t3.2 44 (by decide))
        have e40 : ms_E τ 40 1 = ms_E σ 40 1 := t3.2 40 (by decide) 1
        refine pr_ln (fun υ hυ => pr_g (fun _ _ => ?_))
        have u1 : (ms_I υ 658).toInt = (a0 : Int) + (wyT e i f (p0 m)).length + 1 := by rw [hυ, mI_sI, if_pos rfl, iw_add, lt1]; omega
        have hc : (ms_I υ 658 - 1).toNatClampNeg = a0 + (wyT e i f (p0 m)).length := cl_n (by rw [iw_sub, lt1, u1]; omega)
        have uE : ms_E υ = ms_E τ := by rw [hυ]; rfl
        rw [hc, uE, e44]
        refine pr_b (v_both n υ _ _) (fun w hw => pr_s ⟨?_, ?_, ?_⟩)
        · replace t1 : v = _ := t1
          rw [List.reverse_cons, fwd_app, List.length_reverse, ← t1, fwd, fwd]
          rw [uE, e40] at hw
          show w = _
          rw [hw]
          rfl
        · show (ms_I υ 658).toInt = _
          rw [u1, List.length_cons]; omega
        · show fr [658] [] σ υ
          rw [hυ]
          exact fr_tr t3 (fr_sI (by decide))
theorem v_folded (n : Nat) (σ : ms_T) (mark : Int32) (i m : Nat) (iI mI : Int32) (hi : iI.toInt = (i : Int)) (hm : mI.toInt = (m : Int)) (him : i < m) : pr (f_X12_folded n σ mark iI mI) (fun res => res.1 = fwd (ms_E σ 40 1) (ms_E σ 44) (wyT 31 i 0 m).reverse 0 mark ∧ fr [658] [] σ res.2) := by
  have hmb := ib_hi mI
  have h31 : (2 : Nat) ^ 31 = 2147483648 := by decide
  unfold f_X12_folded
  refine pr_ln (fun τ hτ => ?_)
  have h0 : (ms_I τ 658).toInt = ((0 : Nat) : Int) := by rw [hτ, mI_sI, if_pos rfl]; rfl
  refine pr_c (v_foldsIn n mark 40 31 τ 0 i m 0 iI mI h0 (by omega) hi hm him (by omega)) (fun r υ hr => pr_s ⟨?_, ?_⟩)
  · have := hr.1
    rw [hτ] at this
    exact this
  · have := hr.2.2
    rw [hτ] at this
    exact fr_tr (fr_sI (by decide)) this
theorem v_waysIn_fr (n : Nat) : ∀ (d : Nat) (σ : ms_T) (f i m : Int32), pr (f_X12_waysIn n d σ f i m) (fun τ => fr [657] [42, 43] σ τ) := by
  intro d
  induction d with
  | zero => intro σ f i m; rw [f_X12_waysIn.eq_1]; exact pr_0
  | succ d ih =>
    intro σ f i m
    rw [f_X12_waysIn.eq_2]
    refine pr_i (fun _ => pr_s fr_rf) (fun _ => pr_b (T := fun _ => True) (fun _ _ => trivial) (fun r _ => pr_i (fun _ => ?_) (fun _ => ?_)))
    · exact pr_b (ih σ _ _ _) (fun τ hτ => pr_b (pr_w_asks n τ _ _) (fun υ hυ => pr_s (fr_tr hτ hυ)))
    · exact pr_b (ih σ _ _ _) (fun τ hτ => pr_b (pr_w_asks n τ _ _) (fun υ hυ => pr_s (fr_tr hτ hυ)))
theorem v_incl_fr (n : Nat) (σ : ms_T) (i m : Int32) : pr (f_X12_inclusion n σ i m) (fun τ => fr [657] [42, 43] σ τ) := by
  unfold f_X12_inclusion
  exact pr_l (pr_b (v_waysIn_fr n 40 _ _ _ _) (fun τ hτ => pr_s (fr_tr (fr_sI (by decide)) hτ)))
/-- WHY an inclusion is not taken: c marks, of them xs -/
def WIN (m : Int32) (xs : Nat → Int32) (c : Nat) (mark : Int32) (i N : Nat) (head : Int32) : Int32 :=
  if c < (wyT 31 i 0 N).length then 1 else if (wyT 31 i 0 N).length < c then 2 else if fwd m xs (wyT 31 i 0 N).reverse 0 mark = head then 0 else 3
theorem v_whyIn (n : Nat) (σ : ms_T) (c : Nat) (cI : Int32) (hc : cI.toInt = (c : Int)) (mark head : Int32) (i N : Nat) (iI NI : Int32) (hi : iI.toInt = (i : Int)) (hN : NI.toInt = (N : Int)) (hiN : i < N) : pr (f_X12_whyIn n σ cI mark iI NI head) (fun res => res.1 = WIN (ms_E σ 40 1) (ms_E σ 44) c mark i N head ∧ kq σ res.2) := by
  unfold f_X12_whyIn f_X12_whyIn_J36 f_X12_whyIn_J41
  refine pr_b (fun τ hτ => (⟨v_inclusion n σ iI NI (by omega) (by omega) τ hτ, z_X12_inclusion kq_rf τ hτ, v_incl_fr n σ iI NI τ hτ⟩ : WS τ _ ∧ kq σ τ ∧ fr [657] [42, 43] σ τ)) (fun τ hτ => pr_l ?_)
  obtain ⟨hW, hk, hf⟩ := hτ
  have h657 := hW.1
  rw [List.length_reverse, show iI.toInt.toNat = i by omega, show NI.toInt.toNat = N by omega] at h657
  have e40 : ms_E τ 40 1 = ms_E σ 40 1 := hf.2 40 (by decide) 1
  have e44 : ms_E τ 44 = ms_E σ 44 := funext (hf.2 44 (by decide))
  have hwhy : ∀ (τ2 : ms_T) (b : Int32), kq σ τ2 → (c = (wyT 31 i 0 N).length → b = if fwd (ms_E σ 40 1) (ms_E σ 44) (wyT 31 i 0 N).reverse 0 mark = head then 1 else 0) → pr (ms_b (f_X12_why n τ2 cI (ms_I τ 657) b) fun r => some (r, τ2)) (fun res => res.1 = WIN (ms_E σ 40 1) (ms_E σ 44) c mark i N head ∧ kq σ res.2) := fun τ2 b hk2 hb => by
    refine pr_b (T := fun r => r = WIN (ms_E σ 40 1) (ms_E σ 44) c mark i N head) ?_ (fun r hr => pr_s ⟨hr, hk2⟩)
    unfold f_X12_why WIN
    refine pr_le (fun z1 => ?_) (fun z1 => pr_s (by rw [if_pos (by omega)]))
    refine pr_le (fun z2 => ?_) (fun z2 => pr_s (by rw [if_neg (by omega), if_pos (by omega)]))
    have ec : c = (wyT 31 i 0 N).length := by omega
    rw [if_neg (show ¬ c < (wyT 31 i 0 N).length by omega), if_neg (show ¬ (wyT 31 i 0 N).length < c by omega)]
    have hb2 := hb ec
    by_cases hq : fwd (ms_E σ 40 1) (ms_E σ 44) (wyT 31 i 0 N).reverse 0 mark = head
    · rw [if_pos hq] at hb2 ⊢
      rw [hb2]
      exact pr_i (fun q => absurd q (by decide)) (fun _ => pr_s rfl)
    · rw [if_neg hq] at hb2 ⊢
      rw [hb2]
      exact pr_i (fun _ => pr_s rfl) (fun q => absurd rfl q)
  refine pr_e (fun z => ?_) (fun z => hwhy τ 1 hk (fun q => by omega))
  refine pr_c (v_folded n τ mark i N iI NI hi hN hiN) (fun v υ hυ => ?_)
  obtain ⟨h1, h2⟩ := hυ
  replace h1 : v = fwd (ms_E τ 40 1) (ms_E τ 44) (wyT 31 i 0 N).reverse 0 mark := h1
  rw [e40, e44] at h1
  have hkυ : kq σ υ := ⟨fun φ hφ => by rw [h2.1 φ (by rw [beq_iff_eq] at hφ; rw [hφ]; decide)]; exact hk.1 φ hφ, fun κ hκ j => by rw [h2.2 κ List.not_mem_nil j]; exact hk.2 κ hκ j⟩
  refine pr_i (fun q => hwhy υ 1 hkυ (fun _ => ?_)) (fun q => hwhy υ 0 hkυ (fun _ => ?_))
  · rw [if_pos (h1.symm.trans q)]
  · rw [if_neg (fun y => q (h1.trans y))]
/-! of the class -/
theorem k_folded_L (n : Nat) (α : hp_T) (a row : Nat) (W : List (Nat × Nat × Bool)) (hW : WC α a W) (hW64 : W.length ≤ 64) (xl : List Int32) (hR : RWL α row xl) (m : Int32) (hm : 0 < m.toInt) (c : Nat) (cI : Int32) (hc : cI.toInt = (c : Int)) (hcW : c ≤ W.length) (hcx : c ≤ xl.length) : ∀ (d k : Nat) (s kI : Int32), kI.toInt = (k : Int) → k ≤ c → 65 - k ≤ d → ws (f_X8_folded_L6 n α a d m row cI s kI) (fun r => r = fwd m (fun j => xl.getD j 0) ((W.take c).drop k) k s) := by
  intro d
  induction d with
  | zero => intro k s kI _ _ hd; omega
  | succ d ih =>
    intro k s kI hk hkc hd
    have t64 := t_64
    rw [f_X8_folded_L6.eq_2]
    refine ws_le (fun e => ws_s ?_) (fun e => ws_l (ws_le (fun e2 => by have := hW.1; omega) (fun e2 => ?_)))
    · rw [List.drop_eq_nil_of_le (by rw [List.length_take]; omega)]; rfl
    · have hkc2 : k < c := by omega
      have hkt : k < (W.take c).length := by rw [List.length_take]; omega
      have e1 : (kI + 1).toInt = ((k + 1 : Nat) : Int) := by rw [iw_add, lt1]; omega
      refine ws_b (k_rat n hR k (by omega) kI hk) (fun x hx => ws_b (k_joined n hW hW64 k (by omega) kI hk m hm s x) (fun r hr => ws_l ?_))
      rw [List.drop_eq_getElem_cons hkt, fwd, List.getElem_take, ← hx, ← hr]
      exact ih (k + 1) r _ e1 (by omega) (by omega)
theorem k_folded (n : Nat) (hn : 70000 ≤ n) (α : hp_T) (a row : Nat) (W : List (Nat × Nat × Bool)) (hW : WC α a W) (hW64 : W.length ≤ 64) (xl : List Int32) (hR : RWL α row xl) (m : Int32) (hm : 0 < m.toInt) (c : Nat) (cI : Int32) (hc : cI.toInt = (c : Int)) (hcW : c ≤ W.length) (hcx : c ≤ xl.length) (s : Int32) : ws (f_X8_folded n α a m row s cI) (fun r => r = fwd m (fun j => xl.getD j 0) (W.take c) 0 s) := by
  unfold f_X8_folded
  have := k_folded_L n α a row W hW hW64 xl hR m hm c cI hc hcW hcx n 0 s 0 rfl (Nat.zero_le _) (by omega)
  rw [List.drop_zero] at this
  exact this
theorem k_whyIn (n : Nat) (hn : 70000 ≤ n) (α : hp_T) (a row : Nat) (i N : Nat) (hW : WC α a (wyT 31 i 0 N).reverse) (xl : List Int32) (hR : RWL α row xl) (m : Int32) (hm : 0 < m.toInt) (mark head : Int32) : ws (f_X8_whyInclusion n α a m row mark head) (fun r => r = WIN m (fun j => xl.getD j 0) xl.length mark i N head) := by
  have h1 := hR.2.1
  have h2 := hW.1
  rw [List.length_reverse] at h2
  have hl := wyT_len 31 i 0 N
  unfold f_X8_whyInclusion WIN
  refine ws_l (ws_l (ws_e (fun z => ws_l ?_) (fun z => ws_l (ws_l (ws_le (fun z2 => ws_s ?_) (fun z2 => ws_s ?_))))))
  · have ec : xl.length = (wyT 31 i 0 N).length := by rw [z, h2] at h1; omega
    rw [if_neg (by omega), if_neg (by omega)]
    refine ws_b (k_folded n hn α a row _ hW (by rw [List.length_reverse]; omega) xl hR m hm (wyT 31 i 0 N).length _ h2 (by rw [List.length_reverse]; exact Nat.le_refl _) (by omega) mark) (fun r hr => ?_)
    rw [List.take_of_length_le (by rw [List.length_reverse]; exact Nat.le_refl _)] at hr
    refine ws_i (fun q => ws_s ?_) (fun q => ws_s ?_)
    · rw [if_pos (hr.symm.trans q)]
    · rw [if_neg (fun y => q (hr.trans y))]
  · rw [if_neg (by omega), if_pos (by omega)]
  · rw [if_pos (by omega)]
/-! ===== whyIn leaves the letters read last ===== -/
theorem j_waysIn (n : Nat) {j : Int64} : ∀ (d : Nat) (σ : ms_T) (h : ms_J σ = j) (a b c : Int32), pr (f_X12_waysIn n d σ a b c) (fun τ => ms_J τ = j) := by
  intro d
  induction d with
  | zero => intros; exact pr_0
  | succ d ih =>
    intro σ h a b c
    unfold f_X12_waysIn
    repeat' (first
        | exact pr_s (by (first | assumption | (simp only [mJ_sE, mJ_sI]; assumption)))
        | exact pr_0
        | with_reducible refine pr_l ?_
        | with_reducible refine pr_g (fun _ _ => ?_)
        | with_reducible refine pr_n (fun _ => ?_)
        | with_reducible refine pr_i (fun _ => ?_) (fun _ => ?_)
        | with_reducible refine pr_b (T := fun (τ : ms_T) => ms_J τ = j) (j_asks n (by (first | assumption | (simp only [mJ_sE, mJ_sI]; assumption))) _ _) (fun _ _ => ?_)
        | with_reducible refine pr_b (T := fun (τ : ms_T) => ms_J τ = j) (ih _ (by (first | assumption | (simp only [mJ_sE, mJ_sI]; assumption))) _ _ _) (fun _ _ => ?_)
        | with_reducible refine pr_b (T := fun (_ : Int32) => True) pr_t (fun _ _ => ?_))
theorem j_inclusion (n : Nat) {j : Int64} {σ : ms_T} (h : ms_J σ = j) (a b : Int32) : pr (f_X12_inclusion n σ a b) (fun τ => ms_J τ = j) := by
  unfold f_X12_inclusion
  repeat' (first
      | exact pr_s (by (first | assumption | (simp only [mJ_sE, mJ_sI]; assumption)))
      | exact pr_0
      | with_reducible refine pr_l ?_
      | with_reducible refine pr_g (fun _ _ => ?_)
      | with_reducible refine pr_n (fun _ => ?_)
      | with_reducible refine pr_i (fun _ => ?_) (fun _ => ?_)
      | with_reducible refine pr_b (T := fun (τ : ms_T) => ms_J τ = j) (j_waysIn n 40 _ (by (first | assumption | (simp only [mJ_sE, mJ_sI]; assumption))) _ _ _) (fun _ _ => ?_)
      | with_reducible refine pr_b (T := fun (_ : Int32) => True) pr_t (fun _ _ => ?_))
theorem j_foldsIn (n : Nat) {j : Int64} : ∀ (d : Nat) (σ : ms_T) (h : ms_J σ = j) (a b c : Int32), pr (f_X12_foldsIn n d σ a b c) (fun τ => ms_J τ.2 = j) := by
  intro d
  induction d with
  | zero => intros; exact pr_0
  | succ d ih =>
    intro σ h a b c
    unfold f_X12_foldsIn
    repeat' (first
        | exact pr_s (by (first | assumption | (simp only [mJ_sE, mJ_sI]; assumption)))
        | exact pr_0
        | with_reducible refine pr_l ?_
        | with_reducible refine pr_g (fun _ _ => ?_)
        | with_reducible refine pr_n (fun _ => ?_)
        | with_reducible refine pr_i (fun _ => ?_) (fun _ => ?_)
        | with_reducible refine pr_c (T := fun (τ : Int32 × ms_T) => ms_J τ.2 = j) (ih _ (by (first | assumption | (simp only [mJ_sE, mJ_sI]; assumption))) _ _ _) (fun _ _ _ => ?_)
        | with_reducible refine pr_b (T := fun (_ : Int32) => True) pr_t (fun _ _ => ?_))
theorem j_folded (n : Nat) {j : Int64} {σ : ms_T} (h : ms_J σ = j) (a b c : Int32) : pr (f_X12_folded n σ a b c) (fun τ => ms_J τ.2 = j) := by
  unfold f_X12_folded
  repeat' (first
      | exact pr_s (by (first | assumption | (simp only [mJ_sE, mJ_sI]; assumption)))
      | exact pr_0
      | with_reducible refine pr_l ?_
      | with_reducible refine pr_g (fun _ _ => ?_)
      | with_reducible refine pr_n (fun _ => ?_)
      | with_reducible refine pr_i (fun _ => ?_) (fun _ => ?_)
      | with_reducible refine pr_c (T := fun (τ : Int32 × ms_T) => ms_J τ.2 = j) (j_foldsIn n 40 _ (by (first | assumption | (simp only [mJ_sE, mJ_sI]; assumption))) _ _ _) (fun _ _ _ => ?_)
      | with_reducible refine pr_b (T := fun (_ : Int32) => True) pr_t (fun _ _ => ?_))
theorem j_whyIn (n : Nat) {j : Int64} {σ : ms_T} (h : ms_J σ = j) (a b c d e : Int32) : pr (f_X12_whyIn n σ a b c d e) (fun τ => ms_J τ.2 = j) := by
  unfold f_X12_whyIn f_X12_whyIn_J36 f_X12_whyIn_J41
  repeat' (first
      | exact pr_s (by (first | assumption | (simp only [mJ_sE, mJ_sI]; assumption)))
      | exact pr_0
      | with_reducible refine pr_l ?_
      | with_reducible refine pr_g (fun _ _ => ?_)
      | with_reducible refine pr_n (fun _ => ?_)
      | with_reducible refine pr_i (fun _ => ?_) (fun _ => ?_)
      | with_reducible refine pr_b (T := fun (τ : ms_T) => ms_J τ = j) (j_inclusion n (by (first | assumption | (simp only [mJ_sE, mJ_sI]; assumption))) _ _) (fun _ _ => ?_)
      | with_reducible refine pr_c (T := fun (τ : Int32 × ms_T) => ms_J τ.2 = j) (j_folded n (by (first | assumption | (simp only [mJ_sE, mJ_sI]; assumption))) _ _ _) (fun _ _ _ => ?_)
      | with_reducible refine pr_b (T := fun (_ : Int32) => True) pr_t (fun _ _ => ?_))
/-! ===== PROOFS are read, side by side: MARKS, rows of MARKS ===== -/
theorem BBp {σ τ : ms_T} (h : BB σ τ) (g : 0 < (ms_I σ 670).toInt) : 0 < (ms_I τ 670).toInt := by rw [h.1]; exact g
theorem v_takesMark_B (n : Nat) (σ : ms_T) (h : 0 < (ms_I σ 670).toInt) : pr (f_X12_takesMark n σ) (fun res => BB σ res.2) := by
  unfold f_X12_takesMark
  exact pr_g (fun _ _ => pr_c (v_takesNumber_B n σ _ _ h) (fun _ _ hτ => pr_s hτ))
theorem v_marksL_B (n d : Nat) (σ : ms_T) (v : Int32) (h : 0 < (ms_I σ 670).toInt) : pr (f_X12_takesMarks_L8 n d σ v) (fun res => BB σ res.2) := by
  cases d with
  | zero => rw [f_X12_takesMarks_L8.eq_1]; exact pr_0
  | succ d =>
    rw [f_X12_takesMarks_L8.eq_2]
    refine pr_i (fun e => by rw [e, lt0] at h; omega) (fun _ => ?_)
    unfold f_X12_takesMarks_J82
    exact pr_b (v_takesEnd_B n σ h) (fun τ hτ => pr_s hτ)
theorem v_takesMarks_B (n : Nat) (σ : ms_T) (h : 0 < (ms_I σ 670).toInt) : pr (f_X12_takesMarks n σ) (fun res => BB σ res.2) := by
  unfold f_X12_takesMarks
  exact pr_b (v_takes_B n σ 11 h) (fun τ hτ => pr_m (v_marksL_B n n τ 0 (BBp hτ h)) (fun res hr => BB_tr hτ hr))
theorem TOK_e {α β : hp_T} {rd N q : Nat} {σ : ms_T} {t : Nat → Int32} (h : TOK α rd σ t N q) (eR : hp_R β = hp_R α) (eK : hp_K β = hp_K α) (e24 : ∀ b j, hp_E β 24 b j = hp_E α 24 b j) (eI : ∀ φ, 350 ≤ φ → φ ≤ 356 → hp_I β φ (hp_R α 200 rd) = hp_I α φ (hp_R α 200 rd)) : TOK β rd σ t N q := by
  obtain ⟨h1, ⟨b1, b2, b3, b4⟩, ⟨c1, c2, c3, c4, c5⟩, h4, h5, h6⟩ := h
  refine ⟨h1, ⟨b1, ?_, ?_, fun j hj => ?_⟩, ⟨?_, ?_, ?_, ?_, fun hs => ?_⟩, h4, h5, h6⟩
  · rw [eR, eI 351 (by decide) (by decide)]; exact b2
  · rw [eR, eK]; exact b3
  · rw [eR, e24]; exact b4 j hj
  · rw [eR, eI 354 (by decide) (by decide)]; exact c1
  · rw [eR, eI 353 (by decide) (by decide)]; exact c2
  · rw [eR, eI 352 (by decide) (by decide)]; exact c3
  · rw [eR, eI 355 (by decide) (by decide)]; exact c4
  · rw [eR, eI 356 (by decide) (by decide)]; exact c5 hs
theorem PRE_e {α β : hp_T} {rd N p : Nat} {σ : ms_T} {t : Nat → Int32} (h : PRE α rd σ t N p) (eR : hp_R β = hp_R α) (eK : hp_K β = hp_K α) (e24 : ∀ b j, hp_E β 24 b j = hp_E α 24 b j) (eI : ∀ φ, 350 ≤ φ → φ ≤ 356 → hp_I β φ (hp_R α 200 rd) = hp_I α φ (hp_R α 200 rd)) : PRE β rd σ t N p := by
  obtain ⟨h1, ⟨b1, b2, b3, b4⟩, h3, h4, h5, h6⟩ := h
  refine ⟨h1, ⟨b1, ?_, ?_, fun j hj => ?_⟩, ?_, h4, h5, h6⟩
  · rw [eR, eI 351 (by decide) (by decide)]; exact b2
  · rw [eR, eK]; exact b3
  · rw [eR, e24]; exact b4 j hj
  · rw [eR, eI 352 (by decide) (by decide)]; exact h3
/-- a WORD and a MARK behind it -/
theorem r_mark (n : Nat) (hn : 70000 ≤ n) {α : hp_T} {rd : Nat} {σ τ υ : ms_T} {v : Int32} {t : Nat → Int32} {N p : Nat} (h : PRE α rd σ t N p) (hM : hp_I α 203 rd = ms_E σ 40 1) (hC : rC (ms_E σ 40)) (w : Nat) (hw : w < 12) (wI : Int32) (hwI : wI.toInt = (w : Int)) (e1 : f_X12_takes n σ wI = some τ) (e2 : f_X12_takesMark n τ = some (v, υ)) :
    ws (f_X3_readMark n α rd (wtx w)) (fun a => OUT α rd σ t N p a.1 a.2 υ (hp_I a.2 209 rd = v ∧ 0 ≤ v.toInt ∧ v.toInt < (ms_E σ 40 1).toInt ∧ ∀ φ, φ < 350 → φ ≠ 209 → hp_I a.2 φ rd = hp_I α φ rd)) := by
  have hm := hC.2.1
  unfold f_X3_readMark
  refine ws_hc (r_word n hn h w hw wI hwI) (fun a β hab => ?_)
  obtain ⟨hf, hg, hc⟩ := hab τ e1
  have e2B := e2
  unfold f_X12_takesMark at e2
  replace e2 := ms_gE e2
  obtain ⟨-, e2⟩ := e2
  replace e2 := ms_cE e2
  obtain ⟨v', υ', e3, e4⟩ := e2
  cases e4
  rcases hc with ⟨ra, ⟨p2, hlt, hP2⟩, hk⟩ | ⟨ra, hB⟩
  · replace ra : a = 1 := ra
    subst ra
    rw [if_neg (by decide)]
    refine ws_l ?_
    have e203 : hp_I β 203 rd = ms_E σ 40 1 := by rw [hk 203 (by decide)]; exact hM
    have h40 : ms_E τ 40 = ms_E σ 40 := funext (hg.2 40 (by decide))
    have ec : ms_E τ 40 ((1 : Int32)).toNatClampNeg = ms_E σ 40 1 := by rw [h40]; rfl
    rw [ec] at e3
    rw [e203]
    have e200 : hp_R β 200 rd = hp_R α 200 rd := by rw [hf.1]
    have hb : (ms_E σ 40 1 - 1).toInt = (ms_E σ 40 1).toInt - 1 := by rw [iw_sub, lt1]; omega
    refine ws_hc (r_number n hn hP2 0 (ms_E σ 40 1 - 1) 0 (ms_E σ 40 1 - 1) (fun _ _ _ => Iff.rfl)) (fun a2 γ h2 => ?_)
    obtain ⟨hf2, hg2, hc2⟩ := h2 _ e3
    rw [e200] at hf2
    rcases hc2 with ⟨ra2, ⟨p3, hlt3, hP3⟩, ev, v0, v1, v2, v3, hk2⟩ | ⟨ra2, hB⟩
    · replace ra2 : a2 = 1 := ra2
      subst ra2
      rw [if_neg (by decide)]
      refine ws_s ⟨rdf_tr hf hf2, rg_tr hg hg2, Or.inl ⟨rfl, ⟨p3, by omega, hP3⟩, ev, v0, ?_, fun φ h1 h2 => (hk2 φ h1 h2).trans (hk φ h1)⟩⟩
      replace v3 : v.toInt ≤ (ms_E σ 40 1 - 1).toInt := v3
      omega
    · replace ra2 : a2 = 0 := ra2
      subst ra2
      rw [if_pos rfl]
      exact ws_s ⟨rdf_tr hf hf2, rg_tr hg hg2, Or.inr ⟨rfl, hB⟩⟩
  · replace ra : a = 0 := ra
    subst ra
    rw [if_pos rfl]
    have hb := v_takesMark_B n τ hB.1 _ e2B
    exact ws_s ⟨hf, rg_tr hg hb.2.2, Or.inr ⟨rfl, BAD_B hB hb⟩⟩
/-- a WORD, when nothing is compared but where both stand -/
theorem r_end110 (n : Nat) {α : hp_T} {rd : Nat} {σ : ms_T} {t : Nat → Int32} {N q : Nat} (hT : TOK α rd σ t N q) (hR : hp_R α 200 rd = rd + 1) : ws (f_X3_readRow_J110 n rd α) (fun a => pr (f_X12_takesEnd n σ) (fun τ => rdf rd (rd + 1) α a.2 ∧ rg σ τ ∧ ((a.1 = 1 ∧ (∃ p', q < p' ∧ PRE a.2 rd τ t N p') ∧ a.2 = α) ∨ (a.1 = 0 ∧ BAD a.2 rd τ)))) := by
  unfold f_X3_readRow_J110 f_X3_readRow_J128
  obtain ⟨q1, q2, q3, q4, q5, q6⟩ := id hT
  unfold f_X12_takesEnd f_X12_takesEnd_J14
  refine ws_l (ws_l (ws_i (fun e => ?_) (fun e => ?_)))
  · have hs := q3.2.1.symm.trans e
    rw [if_pos (q5.2.1.trans hs)]
    exact ws_s (r_must n hT 1 (Or.inr rfl) (fun _ => q_lt hs (by decide)) (R := ms_T) _ (fun _ τ t1 t2 => ⟨rdf_rf, t2, Or.inl ⟨rfl, ⟨_, by have := (tkN_le t (q_lt hs (by decide))).1; omega, t1⟩, rfl⟩⟩) (fun h => absurd h (by decide)))
  · rw [if_neg (fun h => e (q3.2.1.trans (q5.2.1.symm.trans h)))]
    refine ws_hc (k_stray n q3) (fun r γ hr => ws_i (fun _ => ws_s ?_) (fun e => absurd hr.1 e))
    obtain ⟨g1, g2, g3, g4⟩ := hr
    refine r_must n hT 0 (Or.inl rfl) (fun h => absurd h (by decide)) (R := ms_T) _ (fun h => absurd h (by decide)) (fun _ τ t1 t2 t3 t4 => ⟨by rw [hR] at g4; exact g4, t4, Or.inr ⟨rfl, t1, by rw [g2, t2], ?_⟩⟩)
    exact Int32.toInt_inj.mp (by rw [g3, t3])
/-- the reader's rows -/
def RSH (α : hp_T) (rd : Nat) : Prop := RS α rd ∧ hp_R α 201 rd = rd + 3 ∧ hp_R α 300 (rd + 3) = rd + 4 ∧ hp_R α 202 rd = rd + 5 ∧ hp_R α 450 (rd + 5) = rd + 6 ∧ hp_R α 451 (rd + 5) = rd + 7 ∧ hp_R α 452 (rd + 5) = rd + 8
theorem RSH_R {rd : Nat} {α β : hp_T} (h : RSH α rd) (e : hp_R β = hp_R α) : RSH β rd := by unfold RSH RS; rw [e]; exact h
theorem rfr_ef {rd : Nat} {α β : hp_T} (hS : RSH α rd) (h : ef (rd + 3) α β) : rfr rd α β := by
  obtain ⟨h1, h2, h3, h4, h5, h6⟩ := h
  refine ⟨h1, h2, h3, h4, fun φ b hb => h5 φ b (fun z => by omega), fun κ b j hb => h6 κ b j (fun z => ?_)⟩
  have := z.2
  rw [hS.2.2.1] at this
  omega
theorem rfr_wf {rd : Nat} {α β : hp_T} (hS : RSH α rd) (h : wf (rd + 5) α β) : rfr rd α β := by
  obtain ⟨h1, h2, h3, h4, h5, h6⟩ := h
  refine ⟨h1, h2, h3, h4, fun φ b hb => h5 φ b (fun z => by omega), fun κ b j hb => h6 κ b j (fun z => ?_)⟩
  rw [hS.2.2.2.2.1, hS.2.2.2.2.2.1, hS.2.2.2.2.2.2] at z
  omega
def rgm (σ τ : ms_T) : Prop := fr [670, 671, 672, 673, 674, 675] [44] σ τ
theorem rgm_rg {σ τ : ms_T} (h : rg σ τ) : rgm σ τ := fr_sb h (by decide) (by decide)
/-- the MARKS that both have read -/
def MKR (α : hp_T) (rd : Nat) (σ : ms_T) (c : Int32) (yl : List Int32) : Prop := RWL α (rd + 3) yl ∧ c.toInt = (yl.length : Int) ∧ ∀ j, j < yl.length → some (ms_E σ 44 j) = yl[j]?
def ROUT (α : hp_T) (rd : Nat) (σ : ms_T) (t : Nat → Int32) (N q : Nat) (a : Int32 × hp_T) (res : Int32 × ms_T) : Prop := rfr rd α a.2 ∧ rgm σ res.2 ∧ ((a.1 = 1 ∧ (∃ p, q < p ∧ PRE a.2 rd res.2 t N p) ∧ (∃ yl, MKR a.2 rd res.2 res.1 yl) ∧ ∀ φ, φ < 350 → hp_I a.2 φ rd = hp_I α φ rd) ∨ (a.1 = 0 ∧ BAD a.2 rd res.2))
theorem r_row_L (n : Nat) (hn : 70000 ≤ n) (rd : Nat) (t : Nat → Int32) (N : Nat) (res : Int32 × ms_T) : ∀ (d : Nat) (α : hp_T) (σ : ms_T) (xl : List Int32) (q : Nat) (kI vI : Int32) (d2 : Nat), RSH α rd → TOK α rd σ t N q → MKR α rd σ vI xl → hp_I α 203 rd = ms_E σ 40 1 → rC (ms_E σ 40) → kI = vI → 66 - xl.length ≤ d → f_X12_takesMarks_L8 n d2 σ vI = some res → ws (f_X3_readRow_L28 n rd d α kI) (fun a => ROUT α rd σ t N q a res) := by
  intro d
  induction d with
  | zero => intro α σ xl q kI vI d2 _ _ hK _ _ _ hd; have := hK.1.1; omega
  | succ d ih =>
    intro α σ xl q kI vI d2 hS hT hK hM hC hkv hd e
    subst hkv
    obtain ⟨hRW, hv, h44⟩ := id hK
    have t64 := t_64
    have hx := hRW.1
    have hm := hC.2.1
    obtain ⟨q1, q2, q3, q4, q5, q6⟩ := id hT
    have eR : hp_R α 200 rd = rd + 1 := hS.1.1
    cases d2 with
    | zero => rw [f_X12_takesMarks_L8.eq_1] at e; cases e
    | succ d2 =>
    rw [f_X12_takesMarks_L8.eq_2] at e
    rw [if_pos q6] at e
    rw [f_X3_readRow_L28.eq_2]
    refine ws_lt (fun c => by rw [t64] at c; omega) (fun _ => ws_l (ws_l ?_))
    have h353 : hp_I α 353 (hp_R α 200 rd) = tkS t N q := q3.2.1
    by_cases hs : tkS t N q = 2
    · refine ws_i (fun _ => ws_l (ws_l (ws_l ?_))) (fun z => absurd (h353.trans hs) z)
      rw [if_pos (q5.2.1.trans hs)] at e
      obtain ⟨hqN, h5, hv0, hv1⟩ := tk_num hs
      have hval := q3.2.2.2.2 hs
      have hval2 := q5.2.2.2.1 hs
      rw [hval2] at e
      rw [hval, hM]
      obtain ⟨V, hV⟩ : ∃ V, V = vl t q (tkN t N q - q) := ⟨_, rfl⟩
      rw [← hV] at e hval hval2 hv0 hv1 ⊢
      replace e := ms_bE e
      obtain ⟨b, eb, e⟩ := e
      obtain ⟨b', eb', hbo⟩ := s_isMark (n := n) hC V
      have hbb : b' = b := by rw [eb'] at eb; exact Option.some.inj eb
      subst hbb
      replace e := ms_bE e
      obtain ⟨σ8, e8, e⟩ := e
      -- the end where a fault stands
      have hend : ∀ (w : Int32) (σ9 : ms_T), 0 < (ms_I σ9 670).toInt → f_X12_takesMarks_J48 n (f_X12_takesMarks_L8 n d2) σ9 kI w = some res → res.2 = σ9 := by
        intro w σ9 h9 e9
        unfold f_X12_takesMarks_J48 at e9
        replace e9 := ms_bE e9
        obtain ⟨σ0, e0, e9⟩ := e9
        have := v_must2 n σ9 w 6 h9 σ0 e0
        subst this
        rw [if_neg (fun z => by have := il_le z; rw [lt0] at this; omega)] at e9
        cases e9
        rfl
      refine ws_lt (fun hlt => ?_) (fun hge => ?_)
      · have hb1 : b' = 1 := by
          rcases hbo with ⟨g, -⟩ | ⟨-, g⟩
          · exact g
          · exact absurd ⟨hv0, hlt⟩ g
        subst hb1
        have h8 := v_must1 n σ 1 3 (by decide) σ8 e8
        subst h8
        refine ws_l (ws_l ?_)
        have e201 : hp_R α 201 rd = rd + 3 := hS.2.1
        rw [e201]
        refine ws_hc (r_room n hT eR (hp_I α 301 (rd + 3)) 64) (fun a β hab => ?_)
        obtain ⟨hab1, hab2⟩ := hab
        by_cases h64 : xl.length < 64
        · obtain ⟨ra, rb⟩ := hab1 (by rw [hRW.2.1, t64]; omega)
          replace ra : a = 1 := ra
          replace rb : β = α := rb
          subst ra
          subst rb
          refine ws_i (fun z => absurd z (by decide)) (fun _ => ws_l (ws_l (ws_l ?_)))
          rw [e201, hval]
          rw [if_neg (fun z => by have := il_le z; rw [t64] at this; omega)] at e
          unfold f_X12_takesMarks_J48 at e
          replace e := ms_bE e
          obtain ⟨σ9, e9, e⟩ := e
          have h9 := v_must1 n σ8 1 6 (by decide) σ9 e9
          subst h9
          rw [if_pos (by rw [q6]; decide)] at e
          replace e := ms_gE e
          obtain ⟨-, e⟩ := e
          rw [cl_n hv, hval2] at e
          replace e := ms_lE rfl (ms_lE rfl e)
          replace e := ms_bE e
          obtain ⟨σ15, e15, e⟩ := e
          refine ws_b (k_rput n hRW h64 V) (fun γ hγ => ws_l ?_)
          obtain ⟨hRγ, hef⟩ := hγ
          have hSγ := RSH_R hS hef.1
          have eI : ∀ φ, 350 ≤ φ → φ ≤ 356 → hp_I γ φ (hp_R β 200 rd) = hp_I β φ (hp_R β 200 rd) := fun φ h1 h2 => hef.2.2.2.2.1 φ _ (fun z => by omega)
          have e24 : ∀ b j, hp_E γ 24 b j = hp_E β 24 b j := fun b j => hef.2.2.2.2.2 24 b j (fun z => absurd z.1 (by decide))
          have hTγ : TOK γ rd (ms_sE σ9 44 xl.length V) t N q := TOK_m (wI := []) (wE := [44]) (TOK_e hT hef.1 hef.2.1 e24 eI) (fr_sE (by decide)) (by decide) (by decide) rfl
          obtain ⟨hP, hg⟩ := r_reads n hTγ hqN σ15 e15
          have e200 : hp_R γ 200 rd = rd + 1 := hSγ.1.1
          refine ws_b (r_adv n hn hP) (fun δ hδ => ws_l ?_)
          obtain ⟨hTδ, hfδ, hkδ⟩ := hδ
          rw [e200] at hfδ
          have hfr : rfr rd β δ := rfr_tr (rfr_ef hS hef) (rfr_rdf hfδ)
          have hRδ : RWL δ (rd + 3) (xl ++ [V]) := ⟨hRγ.1, by rw [hkδ 301 (by decide)]; exact hRγ.2.1, fun k hk => by rw [hfδ.1, hfδ.2.2.2.2.1]; exact hRγ.2.2 k hk⟩
          have h40 : ms_E σ15 40 = ms_E σ9 40 := by
            funext j
            rw [hg.2 40 (by decide) j, mE_sE, if_neg (fun z => absurd z.1 (by decide))]
          have hk1 : (kI + 1).toInt = (xl.length : Int) + 1 := by rw [iw_add, lt1]; omega
          have hlen : (xl ++ [V]).length = xl.length + 1 := by rw [List.length_append, List.length_singleton]
          have hK2 : MKR δ rd σ15 (kI + 1) (xl ++ [V]) := by
            refine ⟨hRδ, by rw [hk1, hlen]; omega, fun j hj => ?_⟩
            rw [hlen] at hj
            rw [hg.2 44 (by decide) j, mE_sE]
            by_cases ej : j = xl.length
            · rw [if_pos ⟨rfl, ej⟩, ej, List.getElem?_append_right (Nat.le_refl _), Nat.sub_self]; rfl
            · rw [if_neg (fun z => ej z.2), List.getElem?_append_left (by omega)]
              exact h44 j (by omega)
          have e203 : hp_I δ 203 rd = ms_E σ15 40 1 := by
            rw [hkδ 203 (by decide), h40, hef.2.2.2.2.1 203 rd (fun z => absurd z.2 (by decide))]; exact hM
          have hq2 : q < tkP t N (tkN t N q) := by
            have h1 := (tkN_le t hqN).1
            have h2 : tkN t N q ≤ tkP t N (tkN t N q) := (ru_le isB t _ _).1
            omega
          refine ws_m (ih δ σ15 (xl ++ [V]) _ (kI + 1) (kI + 1) d2 (RSH_R hSγ hfδ.1) hTδ hK2 e203 (by rw [h40]; exact hC) rfl (by rw [hlen]; omega) e) (fun a ha => ?_)
          obtain ⟨g1, g2, g3⟩ := ha
          refine ⟨rfr_tr hfr g1, fr_tr (fr_sE (by decide)) (fr_tr (rgm_rg hg) g2), ?_⟩
          rcases g3 with ⟨r1, ⟨p, hp, hP2⟩, r3, r4⟩ | r
          · refine Or.inl ⟨r1, ⟨p, by omega, hP2⟩, r3, fun φ hφ => ?_⟩
            rw [r4 φ hφ, hkδ φ hφ, hef.2.2.2.2.1 φ rd (fun z => by omega)]
          · exact Or.inr r
        · obtain ⟨ra, rb, rc⟩ := hab2 (by rw [hRW.2.1, t64]; omega)
          replace ra : a = 0 := ra
          subst ra
          refine ws_i (fun _ => ws_s ?_) (fun z => absurd rfl z)
          rw [if_pos (by rw [Int32.le_iff_toInt_le, t64]; omega)] at e
          unfold f_X12_takesMarks_J48 at e
          replace e := ms_bE e
          obtain ⟨σ9, e9, e⟩ := e
          obtain ⟨u1, u2, u3⟩ := v_mustk n q6 6 (by decide) σ9 e9
          rw [if_neg (fun z => by rw [u1] at z; exact absurd z (by decide))] at e
          cases e
          exact ⟨rfr_rdf rb, rgm_rg u3, Or.inr ⟨rfl, rc σ9 u1 u2⟩⟩
      · have hb0 : b' = 0 := by
          rcases hbo with ⟨-, g⟩ | ⟨g, -⟩
          · exact absurd g.2 (by omega)
          · exact g
        subst hb0
        obtain ⟨u1, u2, u3⟩ := v_mustk n q6 3 (by decide) σ8 e8
        have hpos : 0 < (ms_I σ8 670).toInt := by rw [u1]; decide
        have hr2 : res.2 = σ8 := by
          by_cases h64 : (64 : Int32) ≤ kI
          · rw [if_pos h64] at e; exact hend 0 σ8 hpos e
          · rw [if_neg h64] at e; exact hend 1 σ8 hpos e
        refine ws_hc (k_fail n α rd 3) (fun r γ hr => ?_)
        obtain ⟨g1, g2, g3, g4⟩ := hr
        rw [eR] at g4
        refine ws_z (Or.inl g1) (ws_s ⟨rfr_rdf g4, by rw [hr2]; exact rgm_rg u3, Or.inr ⟨g1, ?_⟩⟩)
        rw [hr2]
        refine ⟨hpos, by rw [u1]; exact g2, ?_⟩
        show hp_I γ 205 rd = _
        rw [g3, u2]
        exact Int32.toInt_inj.mp (by rw [q3.1, q5.1])
    · refine ws_i (fun z => absurd (h353.symm.trans z) hs) (fun _ => ?_)
      rw [if_neg (fun z => hs (q5.2.1.symm.trans z))] at e
      unfold f_X12_takesMarks_J82 at e
      replace e := ms_bE e
      obtain ⟨σ4, e4, e⟩ := e
      cases e
      refine ws_m (r_end110 n hT eR) (fun a ha => ?_)
      obtain ⟨g1, g2, g3⟩ := ha σ4 e4
      refine ⟨rfr_rdf g1, rgm_rg g2, ?_⟩
      rcases g3 with ⟨r1, r2, r3⟩ | r
      · refine Or.inl ⟨r1, r2, ⟨xl, ?_⟩, fun φ _ => by rw [r3]⟩
        rw [r3]
        exact ⟨hRW, hv, fun j hj => by rw [g2.2 44 (by decide) j]; exact h44 j hj⟩
      · exact Or.inr r
theorem r_row (n : Nat) (hn : 70000 ≤ n) {α : hp_T} {rd : Nat} {σ : ms_T} {t : Nat → Int32} {N p : Nat} (hS : RSH α rd) (h : PRE α rd σ t N p) (hM : hp_I α 203 rd = ms_E σ 40 1) (hC : rC (ms_E σ 40)) (hr : 0 ≤ (hp_I α 301 (rd + 3)).toInt ∧ (hp_I α 301 (rd + 3)).toInt ≤ 64) (res : Int32 × ms_T) (e : f_X12_takesMarks n σ = some res) :
    ws (f_X3_readRow n α rd) (fun a => ROUT α rd σ t N p a res) := by
  unfold f_X12_takesMarks at e
  replace e := ms_bE e
  obtain ⟨τ, e1, e⟩ := e
  have eR : hp_R α 200 rd = rd + 1 := hS.1.1
  unfold f_X3_readRow
  refine ws_hc (r_word n hn h 11 (by decide) 11 (by decide)) (fun a β hab => ?_)
  obtain ⟨hf, hg, hc⟩ := hab τ e1
  rw [eR] at hf
  rcases hc with ⟨ra, ⟨p2, hlt, hP2⟩, hk⟩ | ⟨ra, hB⟩
  · replace ra : a = 1 := ra
    subst ra
    rw [if_neg (by decide)]
    have hSβ := RSH_R hS hf.1
    refine ws_l ?_
    rw [hSβ.2.1]
    obtain ⟨l, hl⟩ := RWL_any (α := β) (a := rd + 3) (by rw [hf.2.2.2.2.2 301 (rd + 3) (fun z => by omega) (fun z => by omega)]; exact hr.1) (by rw [hf.2.2.2.2.2 301 (rd + 3) (fun z => by omega) (fun z => by omega)]; exact hr.2)
    refine ws_b (k_rshort n hl 0 (Nat.zero_le _) 0 (by decide)) (fun γ hγ => ws_l ?_)
    obtain ⟨hRγ, hef⟩ := hγ
    rw [List.take_zero] at hRγ
    have hSγ := RSH_R hSβ hef.1
    have e200β : hp_R β 200 rd = rd + 1 := hSβ.1.1
    have e200 : hp_R γ 200 rd = rd + 1 := hSγ.1.1
    have hPγ : PRE γ rd τ t N p2 := PRE_e hP2 hef.1 hef.2.1 (fun b j => hef.2.2.2.2.2 24 b j (fun z => absurd z.1 (by decide))) (fun φ h1 h2 => hef.2.2.2.2.1 φ _ (fun z => by omega))
    refine ws_b (r_adv n hn hPγ) (fun δ hδ => ?_)
    obtain ⟨hTδ, hfδ, hkδ⟩ := hδ
    rw [e200] at hfδ
    have h40 : ms_E τ 40 = ms_E σ 40 := funext (hg.2 40 (by decide))
    have hfr : rfr rd α δ := rfr_tr (rfr_rdf hf) (rfr_tr (rfr_ef hSβ hef) (rfr_rdf hfδ))
    have hRδ : RWL δ (rd + 3) [] := ⟨by decide, by rw [hkδ 301 (by decide)]; exact hRγ.2.1, fun k hk => absurd hk (by simp)⟩
    have hkk : ∀ φ, φ < 350 → hp_I δ φ rd = hp_I α φ rd := fun φ hφ => by
      rw [hkδ φ hφ, hef.2.2.2.2.1 φ rd (fun z => by omega), hk φ hφ]
    have hq2 : p2 ≤ tkP t N p2 := (ru_le isB t _ _).1
    refine ws_m (r_row_L n hn rd t N res n δ τ [] _ 0 0 n (RSH_R hSγ hfδ.1) hTδ ⟨hRδ, rfl, fun j hj => absurd hj (by simp)⟩ (by rw [hkk 203 (by decide), h40]; exact hM) (by rw [h40]; exact hC) rfl (by simp; omega) e) (fun b hb => ?_)
    obtain ⟨g1, g2, g3⟩ := hb
    refine ⟨rfr_tr hfr g1, fr_tr (rgm_rg hg) g2, ?_⟩
    rcases g3 with ⟨r1, ⟨p3, hp3, hP3⟩, r3, r4⟩ | r
    · exact Or.inl ⟨r1, ⟨p3, by omega, hP3⟩, r3, fun φ hφ => (r4 φ hφ).trans (hkk φ hφ)⟩
    · exact Or.inr r
  · replace ra : a = 0 := ra
    subst ra
    rw [if_pos rfl]
    have hb := v_marksL_B n n τ 0 hB.1 res e
    exact ws_s ⟨rfr_rdf hf, rgm_rg (rg_tr hg hb.2.2), Or.inr ⟨rfl, BAD_B hB hb⟩⟩
/-! ===== STATEMENTS, side by side: behind a fault nothing is read ===== -/
theorem bI_8 (n : Nat) (σh8 : ms_T) (rh2 rh4 rh6 rh8 : Int32) (h : 0 < (ms_I σh8 670).toInt) : pr (ms_c (f_X12_takesMarks n σh8) fun rh9 σh9 => if (ms_I σh9 670) ≤ 0 then ms_c (f_X12_whyIn n σh9 rh9 rh6 rh2 rh4 rh8) fun rh11 σh11 => some (rh11, σh11) else some ((0 : Int32), σh9)) (fun z => z.1 = 0 ∧ BB σh8 z.2) :=
  pr_c (v_takesMarks_B n σh8 h) (fun a τ hτ => pr_le (fun z => by have := BBp (τ := τ) hτ h; rw [lt0] at z; omega) (fun _ => pr_s ⟨rfl, hτ⟩))
theorem bI_7 (n : Nat) (σh7 : ms_T) (rh2 rh4 rh6 : Int32) (h : 0 < (ms_I σh7 670).toInt) : pr (ms_c (f_X12_takesMark n σh7) fun rh8 σh8 => ms_c (f_X12_takesMarks n σh8) fun rh9 σh9 => if (ms_I σh9 670) ≤ 0 then ms_c (f_X12_whyIn n σh9 rh9 rh6 rh2 rh4 rh8) fun rh11 σh11 => some (rh11, σh11) else some ((0 : Int32), σh9)) (fun z => z.1 = 0 ∧ BB σh7 z.2) :=
  pr_c (v_takesMark_B n σh7 h) (fun a τ hτ => pr_m (bI_8 n τ rh2 rh4 rh6 a (BBp hτ h)) (fun z hz => ⟨hz.1, BB_tr hτ hz.2⟩))
theorem bI_6 (n : Nat) (σh6 : ms_T) (rh2 rh4 rh6 : Int32) (h : 0 < (ms_I σh6 670).toInt) : pr (ms_b (f_X12_takes n σh6 (10 : Int32)) fun σh7 => ms_c (f_X12_takesMark n σh7) fun rh8 σh8 => ms_c (f_X12_takesMarks n σh8) fun rh9 σh9 => if (ms_I σh9 670) ≤ 0 then ms_c (f_X12_whyIn n σh9 rh9 rh6 rh2 rh4 rh8) fun rh11 σh11 => some (rh11, σh11) else some ((0 : Int32), σh9)) (fun z => z.1 = 0 ∧ BB σh6 z.2) :=
  pr_b (v_takes_B n σh6 _ h) (fun τ hτ => pr_m (bI_7 n τ rh2 rh4 rh6 (BBp hτ h)) (fun z hz => ⟨hz.1, BB_tr hτ hz.2⟩))
theorem bI_5 (n : Nat) (σh5 : ms_T) (rh2 rh4 : Int32) (h : 0 < (ms_I σh5 670).toInt) : pr (ms_c (f_X12_takesMark n σh5) fun rh6 σh6 => ms_b (f_X12_takes n σh6 (10 : Int32)) fun σh7 => ms_c (f_X12_takesMark n σh7) fun rh8 σh8 => ms_c (f_X12_takesMarks n σh8) fun rh9 σh9 => if (ms_I σh9 670) ≤ 0 then ms_c (f_X12_whyIn n σh9 rh9 rh6 rh2 rh4 rh8) fun rh11 σh11 => some (rh11, σh11) else some ((0 : Int32), σh9)) (fun z => z.1 = 0 ∧ BB σh5 z.2) :=
  pr_c (v_takesMark_B n σh5 h) (fun a τ hτ => pr_m (bI_6 n τ rh2 rh4 a (BBp hτ h)) (fun z hz => ⟨hz.1, BB_tr hτ hz.2⟩))
theorem bI_4 (n : Nat) (σh4 : ms_T) (rh2 rh4 : Int32) (h : 0 < (ms_I σh4 670).toInt) : pr (ms_b (f_X12_takes n σh4 (9 : Int32)) fun σh5 => ms_c (f_X12_takesMark n σh5) fun rh6 σh6 => ms_b (f_X12_takes n σh6 (10 : Int32)) fun σh7 => ms_c (f_X12_takesMark n σh7) fun rh8 σh8 => ms_c (f_X12_takesMarks n σh8) fun rh9 σh9 => if (ms_I σh9 670) ≤ 0 then ms_c (f_X12_whyIn n σh9 rh9 rh6 rh2 rh4 rh8) fun rh11 σh11 => some (rh11, σh11) else some ((0 : Int32), σh9)) (fun z => z.1 = 0 ∧ BB σh4 z.2) :=
  pr_b (v_takes_B n σh4 _ h) (fun τ hτ => pr_m (bI_5 n τ rh2 rh4 (BBp hτ h)) (fun z hz => ⟨hz.1, BB_tr hτ hz.2⟩))
theorem bI_3 (n : Nat) (σh3 : ms_T) (rh2 : Int32) (h : 0 < (ms_I σh3 670).toInt) : pr (ms_c (f_X12_takesNumber n σh3 (rh2 + (1 : Int32)) (99999 : Int32)) fun rh4 σh4 => ms_b (f_X12_takes n σh4 (9 : Int32)) fun σh5 => ms_c (f_X12_takesMark n σh5) fun rh6 σh6 => ms_b (f_X12_takes n σh6 (10 : Int32)) fun σh7 => ms_c (f_X12_takesMark n σh7) fun rh8 σh8 => ms_c (f_X12_takesMarks n σh8) fun rh9 σh9 => if (ms_I σh9 670) ≤ 0 then ms_c (f_X12_whyIn n σh9 rh9 rh6 rh2 rh4 rh8) fun rh11 σh11 => some (rh11, σh11) else some ((0 : Int32), σh9)) (fun z => z.1 = 0 ∧ BB σh3 z.2) :=
  pr_c (v_takesNumber_B n σh3 _ _ h) (fun a τ hτ => pr_m (bI_4 n τ rh2 a (BBp hτ h)) (fun z hz => ⟨hz.1, BB_tr hτ hz.2⟩))
theorem bI_2 (n : Nat) (σh2 : ms_T) (rh2 : Int32) (h : 0 < (ms_I σh2 670).toInt) : pr (ms_b (f_X12_takes n σh2 (8 : Int32)) fun σh3 => ms_c (f_X12_takesNumber n σh3 (rh2 + (1 : Int32)) (99999 : Int32)) fun rh4 σh4 => ms_b (f_X12_takes n σh4 (9 : Int32)) fun σh5 => ms_c (f_X12_takesMark n σh5) fun rh6 σh6 => ms_b (f_X12_takes n σh6 (10 : Int32)) fun σh7 => ms_c (f_X12_takesMark n σh7) fun rh8 σh8 => ms_c (f_X12_takesMarks n σh8) fun rh9 σh9 => if (ms_I σh9 670) ≤ 0 then ms_c (f_X12_whyIn n σh9 rh9 rh6 rh2 rh4 rh8) fun rh11 σh11 => some (rh11, σh11) else some ((0 : Int32), σh9)) (fun z => z.1 = 0 ∧ BB σh2 z.2) :=
  pr_b (v_takes_B n σh2 _ h) (fun τ hτ => pr_m (bI_3 n τ rh2 (BBp hτ h)) (fun z hz => ⟨hz.1, BB_tr hτ hz.2⟩))
theorem bG_8 (n : Nat) (σh8 : ms_T) (rh2 rh4 rh6 rh8 : Int32) (h : 0 < (ms_I σh8 670).toInt) : pr (ms_c (f_X12_takesMarks n σh8) fun rh9 σh9 => if (ms_I σh9 670) ≤ 0 then ms_c (f_X12_whyGrown n σh9 rh9 rh2 rh4 rh6 rh8) fun rh11 σh11 => some (rh11, σh11) else some ((0 : Int32), σh9)) (fun z => z.1 = 0 ∧ BB σh8 z.2) :=
  pr_c (v_takesMarks_B n σh8 h) (fun a τ hτ => pr_le (fun z => by have := BBp (τ := τ) hτ h; rw [lt0] at z; omega) (fun _ => pr_s ⟨rfl, hτ⟩))
theorem bG_7 (n : Nat) (σh7 : ms_T) (rh2 rh4 rh6 : Int32) (h : 0 < (ms_I σh7 670).toInt) : pr (ms_c (f_X12_takesMark n σh7) fun rh8 σh8 => ms_c (f_X12_takesMarks n σh8) fun rh9 σh9 => if (ms_I σh9 670) ≤ 0 then ms_c (f_X12_whyGrown n σh9 rh9 rh2 rh4 rh6 rh8) fun rh11 σh11 => some (rh11, σh11) else some ((0 : Int32), σh9)) (fun z => z.1 = 0 ∧ BB σh7 z.2) :=
  pr_c (v_takesMark_B n σh7 h) (fun a τ hτ => pr_m (bG_8 n τ rh2 rh4 rh6 a (BBp hτ h)) (fun z hz => ⟨hz.1, BB_tr hτ hz.2⟩))
theorem bG_6 (n : Nat) (σh6 : ms_T) (rh2 rh4 rh6 : Int32) (h : 0 < (ms_I σh6 670).toInt) : pr (ms_b (f_X12_takes n σh6 (10 : Int32)) fun σh7 => ms_c (f_X12_takesMark n σh7) fun rh8 σh8 => ms_c (f_X12_takesMarks n σh8) fun rh9 σh9 => if (ms_I σh9 670) ≤ 0 then ms_c (f_X12_whyGrown n σh9 rh9 rh2 rh4 rh6 rh8) fun rh11 σh11 => some (rh11, σh11) else some ((0 : Int32), σh9)) (fun z => z.1 = 0 ∧ BB σh6 z.2) :=
  pr_b (v_takes_B n σh6 _ h) (fun τ hτ => pr_m (bG_7 n τ rh2 rh4 rh6 (BBp hτ h)) (fun z hz => ⟨hz.1, BB_tr hτ hz.2⟩))
theorem bG_5 (n : Nat) (σh5 : ms_T) (rh2 rh4 : Int32) (h : 0 < (ms_I σh5 670).toInt) : pr (ms_c (f_X12_takesNumber n σh5 rh2 (99999 : Int32)) fun rh6 σh6 => ms_b (f_X12_takes n σh6 (10 : Int32)) fun σh7 => ms_c (f_X12_takesMark n σh7) fun rh8 σh8 => ms_c (f_X12_takesMarks n σh8) fun rh9 σh9 => if (ms_I σh9 670) ≤ 0 then ms_c (f_X12_whyGrown n σh9 rh9 rh2 rh4 rh6 rh8) fun rh11 σh11 => some (rh11, σh11) else some ((0 : Int32), σh9)) (fun z => z.1 = 0 ∧ BB σh5 z.2) :=
  pr_c (v_takesNumber_B n σh5 _ _ h) (fun a τ hτ => pr_m (bG_6 n τ rh2 rh4 a (BBp hτ h)) (fun z hz => ⟨hz.1, BB_tr hτ hz.2⟩))
theorem bG_4 (n : Nat) (σh4 : ms_T) (rh2 rh4 : Int32) (h : 0 < (ms_I σh4 670).toInt) : pr (ms_b (f_X12_takes n σh4 (2 : Int32)) fun σh5 => ms_c (f_X12_takesNumber n σh5 rh2 (99999 : Int32)) fun rh6 σh6 => ms_b (f_X12_takes n σh6 (10 : Int32)) fun σh7 => ms_c (f_X12_takesMark n σh7) fun rh8 σh8 => ms_c (f_X12_takesMarks n σh8) fun rh9 σh9 => if (ms_I σh9 670) ≤ 0 then ms_c (f_X12_whyGrown n σh9 rh9 rh2 rh4 rh6 rh8) fun rh11 σh11 => some (rh11, σh11) else some ((0 : Int32), σh9)) (fun z => z.1 = 0 ∧ BB σh4 z.2) :=
  pr_b (v_takes_B n σh4 _ h) (fun τ hτ => pr_m (bG_5 n τ rh2 rh4 (BBp hτ h)) (fun z hz => ⟨hz.1, BB_tr hτ hz.2⟩))
theorem bG_3 (n : Nat) (σh3 : ms_T) (rh2 : Int32) (h : 0 < (ms_I σh3 670).toInt) : pr (ms_c (f_X12_takesMark n σh3) fun rh4 σh4 => ms_b (f_X12_takes n σh4 (2 : Int32)) fun σh5 => ms_c (f_X12_takesNumber n σh5 rh2 (99999 : Int32)) fun rh6 σh6 => ms_b (f_X12_takes n σh6 (10 : Int32)) fun σh7 => ms_c (f_X12_takesMark n σh7) fun rh8 σh8 => ms_c (f_X12_takesMarks n σh8) fun rh9 σh9 => if (ms_I σh9 670) ≤ 0 then ms_c (f_X12_whyGrown n σh9 rh9 rh2 rh4 rh6 rh8) fun rh11 σh11 => some (rh11, σh11) else some ((0 : Int32), σh9)) (fun z => z.1 = 0 ∧ BB σh3 z.2) :=
  pr_c (v_takesMark_B n σh3 h) (fun a τ hτ => pr_m (bG_4 n τ rh2 a (BBp hτ h)) (fun z hz => ⟨hz.1, BB_tr hτ hz.2⟩))
theorem bG_2 (n : Nat) (σh2 : ms_T) (rh2 : Int32) (h : 0 < (ms_I σh2 670).toInt) : pr (ms_b (f_X12_takes n σh2 (9 : Int32)) fun σh3 => ms_c (f_X12_takesMark n σh3) fun rh4 σh4 => ms_b (f_X12_takes n σh4 (2 : Int32)) fun σh5 => ms_c (f_X12_takesNumber n σh5 rh2 (99999 : Int32)) fun rh6 σh6 => ms_b (f_X12_takes n σh6 (10 : Int32)) fun σh7 => ms_c (f_X12_takesMark n σh7) fun rh8 σh8 => ms_c (f_X12_takesMarks n σh8) fun rh9 σh9 => if (ms_I σh9 670) ≤ 0 then ms_c (f_X12_whyGrown n σh9 rh9 rh2 rh4 rh6 rh8) fun rh11 σh11 => some (rh11, σh11) else some ((0 : Int32), σh9)) (fun z => z.1 = 0 ∧ BB σh2 z.2) :=
  pr_b (v_takes_B n σh2 _ h) (fun τ hτ => pr_m (bG_3 n τ rh2 (BBp hτ h)) (fun z hz => ⟨hz.1, BB_tr hτ hz.2⟩))
def FWH : List Nat := [657, 658, 659, 660, 670, 671, 672, 673, 674, 675]
def FEH : List Nat := [42, 43, 44]
theorem frg {σ τ : ms_T} (h : rg σ τ) : fr FWH FEH σ τ := fr_sb h (by decide) (by decide)
theorem frgm {σ τ : ms_T} (h : rgm σ τ) : fr FWH FEH σ τ := fr_sb h (by decide) (by decide)
/-- what a STATEMENT leaves: all but the reader and a row of WHYs -/
def hfr (rd w : Nat) (α β : hp_T) : Prop := hp_R β = hp_R α ∧ hp_K β = hp_K α ∧ hp_Q β = hp_Q α ∧ hp_N β = hp_N α ∧ (∀ φ b, ¬ (φ = 301 ∧ b = w) → (b < rd ∨ rd + 11 ≤ b) → hp_I β φ b = hp_I α φ b) ∧ ∀ κ b j, ¬ (κ = 20 ∧ b = w + 1) → (b < rd ∨ rd + 11 ≤ b) → hp_E β κ b j = hp_E α κ b j
theorem hfr_rf {rd w : Nat} {α : hp_T} : hfr rd w α α := ⟨rfl, rfl, rfl, rfl, fun _ _ _ _ => rfl, fun _ _ _ _ _ => rfl⟩
theorem hfr_tr {rd w : Nat} {α β γ : hp_T} (h : hfr rd w α β) (g : hfr rd w β γ) : hfr rd w α γ := by
  obtain ⟨h1, h2, h3, h4, h5, h6⟩ := h
  obtain ⟨g1, g2, g3, g4, g5, g6⟩ := g
  exact ⟨g1.trans h1, g2.trans h2, g3.trans h3, g4.trans h4, fun φ b q r => (g5 φ b q r).trans (h5 φ b q r), fun κ b j q r => (g6 κ b j q r).trans (h6 κ b j q r)⟩
theorem hfr_r {rd w : Nat} {α β : hp_T} (h : rfr rd α β) : hfr rd w α β := ⟨h.1, h.2.1, h.2.2.1, h.2.2.2.1, fun φ b _ r => h.2.2.2.2.1 φ b r, fun κ b j _ r => h.2.2.2.2.2 κ b j r⟩
theorem hfr_ef {rd w : Nat} {α β : hp_T} (h : ef w α β) (h3 : hp_R α 300 w = w + 1) : hfr rd w α β := by
  obtain ⟨h1, h2, h3', h4, h5, h6⟩ := h
  exact ⟨h1, h2, h3', h4, fun φ b q _ => h5 φ b (fun z => q ⟨z.2, z.1⟩), fun κ b j q _ => h6 κ b j (fun z => q ⟨z.1, by rw [z.2, h3]⟩)⟩
theorem RWL_rfr {α β : hp_T} {rd w : Nat} {l : List Int32} (h : RWL α w l) (f : rfr rd α β) (h3 : hp_R α 300 w = w + 1) (hw : w + 2 ≤ rd) : RWL β w l :=
  ⟨h.1, by rw [f.2.2.2.2.1 301 w (by omega)]; exact h.2.1, fun k hk => by rw [f.1, f.2.2.2.2.2 20 _ k (by omega)]; exact h.2.2 k hk⟩
theorem WIN_h (m : Int32) {xs ys : Nat → Int32} (c : Nat) (mark : Int32) (i N : Nat) (head : Int32) (h : ∀ j, j < c → xs j = ys j) : WIN m xs c mark i N head = WIN m ys c mark i N head := by
  unfold WIN
  by_cases h1 : c < (wyT 31 i 0 N).length
  · rw [if_pos h1, if_pos h1]
  · rw [if_neg h1, if_neg h1]
    by_cases h2 : (wyT 31 i 0 N).length < c
    · rw [if_pos h2, if_pos h2]
    · rw [if_neg h2, if_neg h2, fwd_c m _ _ _ (fun j _ hj => h j (by rw [List.length_reverse] at hj; omega))]
theorem v_whyIn_fr (n : Nat) (σ : ms_T) (cI mark head : Int32) (i N : Nat) (iI NI : Int32) (hi : iI.toInt = (i : Int)) (hN : NI.toInt = (N : Int)) (hiN : i < N) : pr (f_X12_whyIn n σ cI mark iI NI head) (fun res => fr [657, 658] [42, 43] σ res.2) := by
  unfold f_X12_whyIn f_X12_whyIn_J36 f_X12_whyIn_J41
  have hy : ∀ (τ : ms_T) (a b c : Int32), fr [657, 658] [42, 43] σ τ → pr (ms_b (f_X12_why n τ a b c) fun r => some (r, τ)) (fun res => fr [657, 658] [42, 43] σ res.2) := fun τ a b c h => pr_b pr_any (fun _ _ => pr_s h)
  refine pr_b (v_incl_fr n σ iI NI) (fun τ hτ => pr_l ?_)
  have h1 : fr [657, 658] [42, 43] σ τ := fr_sb hτ (by decide) (by decide)
  refine pr_i (fun _ => pr_c (v_folded n τ mark i N iI NI hi hN hiN) (fun v υ hυ => ?_)) (fun _ => hy τ _ _ _ h1)
  have h2 : fr [657, 658] [42, 43] σ υ := fr_tr h1 (fr_sb hυ.2 (by decide) (by decide))
  exact pr_i (fun _ => hy υ _ _ _ h2) (fun _ => hy υ _ _ _ h2)
def STO (rd w : Nat) (wl : List Int32) (α : hp_T) (σ : ms_T) (t : Nat → Int32) (N q : Nat) (a : Int32 × hp_T) (res : Int32 × ms_T) : Prop := hfr rd w α a.2 ∧ fr FWH FEH σ res.2 ∧ ((a.1 = 1 ∧ (∃ p, q < p ∧ PRE a.2 rd res.2 t N p) ∧ RWL a.2 w (wl ++ [res.1]) ∧ (∀ φ, φ < 350 → φ ≠ 209 → hp_I a.2 φ rd = hp_I α φ rd) ∧ 0 ≤ (hp_I a.2 301 (rd + 3)).toInt ∧ (hp_I a.2 301 (rd + 3)).toInt ≤ 64) ∨ (a.1 = 0 ∧ res.1 = 0 ∧ BAD a.2 rd res.2))
theorem tMx : (2147483647 : Int32).toInt = 2147483647 := by decide
theorem t99k : (99999 : Int32).toInt = 99999 := by decide
theorem mkD {σ : ms_T} {yl : List Int32} (h : ∀ j, j < yl.length → some (ms_E σ 44 j) = yl[j]?) : ∀ j, j < yl.length → ms_E σ 44 j = yl.getD j 0 := fun j hj => by
  rw [List.getD_eq_getElem?_getD, ← h j hj]; rfl
theorem r_statIn (n : Nat) (hn : 70000 ≤ n) {α : hp_T} {rd w : Nat} {wl : List Int32} {σ : ms_T} {t : Nat → Int32} {N q : Nat} (hS : RSH α rd) (hT : TOK α rd σ t N q) (hqN : q < N) (hM : hp_I α 203 rd = ms_E σ 40 1) (hC : rC (ms_E σ 40)) (hr : 0 ≤ (hp_I α 301 (rd + 3)).toInt ∧ (hp_I α 301 (rd + 3)).toInt ≤ 64) (hw : w + 2 ≤ rd) (hw3 : hp_R α 300 w = w + 1) (hW : RWL α w wl) (hwl : wl.length < 64) (res : Int32 × ms_T) (e : f_X12_statementIn n σ = some res) :
    ws (f_X3_readInclusion n α rd w) (fun a => STO rd w wl α σ t N q a res) := by
  have hm := hC.2.1
  have eR : hp_R α 200 rd = rd + 1 := hS.1.1
  unfold f_X12_statementIn at e
  replace e := ms_bE e
  obtain ⟨σ1, e1, e⟩ := e
  obtain ⟨hP1, hg1⟩ := r_reads n hT hqN σ1 e1
  have c1 : ms_E σ1 40 = ms_E σ 40 := funext (hg1.2 40 (by decide))
  replace e := ms_cE e
  obtain ⟨i, σ2, e2, e⟩ := e
  have hq1 := (tkN_le t hqN).1
  unfold f_X3_readInclusion
  have hbad : ∀ (β : hp_T) (τ : ms_T), rfr rd α β → fr FWH FEH σ τ → BAD β rd τ → (res.1 = 0 ∧ BB τ res.2) → ws (some ((0 : Int32), β)) (fun a => STO rd w wl α σ t N q a res) := fun β τ hf hg hB hb => ws_s ⟨hfr_r hf, fr_tr hg (frg hb.2.2.2), Or.inr ⟨rfl, hb.1, BAD_B hB hb.2⟩⟩
  refine ws_hc (r_number n hn hP1 0 2147483647 0 99999 (fun v h0 h1 => by rw [lt0, tMx, t99k]; omega)) (fun a β hab => ?_)
  obtain ⟨hf2, hg2, hc2⟩ := hab _ e2
  rw [eR] at hf2
  have F2 : rfr rd α β := rfr_rdf hf2
  have g2 : rg σ σ2 := rg_tr hg1 hg2
  have c2 : ms_E σ2 40 = ms_E σ 40 := funext (g2.2 40 (by decide))
  rcases hc2 with ⟨ra, ⟨p2, hl2, hP2⟩, ev2, a0, a1, -, -, hk2⟩ | ⟨ra, hB⟩
  rotate_left
  · replace ra : a = 0 := ra
    subst ra
    rw [if_pos rfl]
    exact hbad β σ2 F2 (frg g2) hB (bI_2 n σ2 i hB.1 res e)
  replace ra : a = 1 := ra
  subst ra
  rw [if_neg (by decide)]
  refine ws_l ?_
  replace ev2 : hp_I β 209 rd = i := ev2
  replace a0 : 0 ≤ i.toInt := a0
  replace a1 : i.toInt ≤ 99999 := a1
  rw [ev2]
  replace e := ms_bE e
  obtain ⟨σ3, e3, e⟩ := e
  have eR2 : hp_R β 200 rd = rd + 1 := by rw [F2.1]; exact eR
  refine ws_hc (r_word n hn hP2 8 (by decide) 8 (by decide)) (fun a γ h3 => ?_)
  obtain ⟨hf3, hg3, hc3⟩ := h3 _ e3
  rw [eR2] at hf3
  have F3 : rfr rd α γ := rfr_tr F2 (rfr_rdf hf3)
  have g3 : rg σ σ3 := rg_tr g2 hg3
  rcases hc3 with ⟨ra, ⟨p3, hl3, hP3⟩, hk3⟩ | ⟨ra, hB⟩
  rotate_left
  · replace ra : a = 0 := ra
    subst ra
    rw [if_pos rfl]
    exact hbad γ σ3 F3 (frg g3) hB (bI_3 n σ3 i hB.1 res e)
  replace ra : a = 1 := ra
  subst ra
  rw [if_neg (by decide)]
  replace e := ms_cE e
  obtain ⟨NI, σ4, e4, e⟩ := e
  have eR3 : hp_R γ 200 rd = rd + 1 := by rw [F3.1]; exact eR
  refine ws_hc (r_number n hn hP3 (i + 1) 2147483647 (i + 1) 99999 (fun v h0 h1 => by rw [tMx, t99k]; omega)) (fun a δ h4 => ?_)
  obtain ⟨hf4, hg4, hc4⟩ := h4 _ e4
  rw [eR3] at hf4
  have F4 : rfr rd α δ := rfr_tr F3 (rfr_rdf hf4)
  have g4 : rg σ σ4 := rg_tr g3 hg4
  have c4 : ms_E σ4 40 = ms_E σ 40 := funext (g4.2 40 (by decide))
  rcases hc4 with ⟨ra, ⟨p4, hl4, hP4⟩, ev4, b0, b1, b2, -, hk4⟩ | ⟨ra, hB⟩
  rotate_left
  · replace ra : a = 0 := ra
    subst ra
    rw [if_pos rfl]
    exact hbad δ σ4 F4 (frg g4) hB (bI_4 n σ4 i NI hB.1 res e)
  replace ra : a = 1 := ra
  subst ra
  rw [if_neg (by decide)]
  refine ws_l ?_
  replace ev4 : hp_I δ 209 rd = NI := ev4
  replace b0 : 0 ≤ NI.toInt := b0
  replace b1 : NI.toInt ≤ 99999 := b1
  replace b2 : (i + 1).toInt ≤ NI.toInt := b2
  have hi1 : (i + 1).toInt = i.toInt + 1 := by rw [iw_add, lt1]; omega
  rw [ev4]
  replace e := ms_bE e
  obtain ⟨σ5, e5, e⟩ := e
  replace e := ms_cE e
  obtain ⟨mk, σ6, e6, e⟩ := e
  have k203 : hp_I δ 203 rd = ms_E σ4 40 1 := by
    rw [hk4 203 (by decide) (by decide), hk3 203 (by decide), hk2 203 (by decide) (by decide), c4]; exact hM
  refine ws_hc (r_mark n hn hP4 k203 (by rw [c4]; exact hC) 9 (by decide) 9 (by decide) e5 e6) (fun a ε h6 => ?_)
  obtain ⟨hf6, hg6, hc6⟩ := h6
  have eR4 : hp_R δ 200 rd = rd + 1 := by rw [F4.1]; exact eR
  rw [eR4] at hf6
  have F6 : rfr rd α ε := rfr_tr F4 (rfr_rdf hf6)
  have g6 : rg σ σ6 := rg_tr g4 hg6
  have c6 : ms_E σ6 40 = ms_E σ 40 := funext (g6.2 40 (by decide))
  rcases hc6 with ⟨ra, ⟨p6, hl6, hP6⟩, ev6, d0, d1, hk6⟩ | ⟨ra, hB⟩
  rotate_left
  · replace ra : a = 0 := ra
    subst ra
    rw [if_pos rfl]
    exact hbad ε σ6 F6 (frg g6) hB (bI_6 n σ6 i NI mk hB.1 res e)
  replace ra : a = 1 := ra
  subst ra
  rw [if_neg (by decide)]
  refine ws_l ?_
  replace ev6 : hp_I ε 209 rd = mk := ev6
  rw [ev6]
  replace e := ms_bE e
  obtain ⟨σ7, e7, e⟩ := e
  replace e := ms_cE e
  obtain ⟨hd, σ8, e8, e⟩ := e
  have k203b : hp_I ε 203 rd = ms_E σ6 40 1 := by
    rw [hk6 203 (by decide) (by decide), k203, c4, c6]
  refine ws_hc (r_mark n hn hP6 k203b (by rw [c6]; exact hC) 10 (by decide) 10 (by decide) e7 e8) (fun a ζ h8 => ?_)
  obtain ⟨hf8, hg8, hc8⟩ := h8
  have eR6 : hp_R ε 200 rd = rd + 1 := by rw [F6.1]; exact eR
  rw [eR6] at hf8
  have F8 : rfr rd α ζ := rfr_tr F6 (rfr_rdf hf8)
  have g8 : rg σ σ8 := rg_tr g6 hg8
  have c8 : ms_E σ8 40 = ms_E σ 40 := funext (g8.2 40 (by decide))
  rcases hc8 with ⟨ra, ⟨p8, hl8, hP8⟩, ev8, f0, f1, hk8⟩ | ⟨ra, hB⟩
  rotate_left
  · replace ra : a = 0 := ra
    subst ra
    rw [if_pos rfl]
    exact hbad ζ σ8 F8 (frg g8) hB (bI_8 n σ8 i NI mk hd hB.1 res e)
  replace ra : a = 1 := ra
  subst ra
  rw [if_neg (by decide)]
  replace ev8 : hp_I ζ 209 rd = hd := ev8
  replace e := ms_cE e
  obtain ⟨cI, σ9, e9, e⟩ := e
  have k203c : hp_I ζ 203 rd = ms_E σ8 40 1 := by
    rw [hk8 203 (by decide) (by decide), k203b, c6, c8]
  have k301 : hp_I ζ 301 (rd + 3) = hp_I α 301 (rd + 3) := by
    rw [hf8.2.2.2.2.2 301 (rd + 3) (fun z => by omega) (fun z => by omega), hf6.2.2.2.2.2 301 (rd + 3) (fun z => by omega) (fun z => by omega), hf4.2.2.2.2.2 301 (rd + 3) (fun z => by omega) (fun z => by omega), hf3.2.2.2.2.2 301 (rd + 3) (fun z => by omega) (fun z => by omega), hf2.2.2.2.2.2 301 (rd + 3) (fun z => by omega) (fun z => by omega)]
  have hSζ := RSH_R hS F8.1
  refine ws_hc (r_row n hn hSζ hP8 k203c (by rw [c8]; exact hC) (by rw [k301]; exact hr) (cI, σ9) e9) (fun a η h9 => ?_)
  obtain ⟨hf9, hg9, hc9⟩ := h9
  replace hf9 : rfr rd ζ η := hf9
  replace hg9 : rgm σ8 σ9 := hg9
  have F9 : rfr rd α η := rfr_tr F8 hf9
  have g9 : fr FWH FEH σ σ9 := fr_tr (frg g8) (frgm hg9)
  have c9 : ms_E σ9 40 = ms_E σ 40 := funext (g9.2 40 (by decide))
  rcases hc9 with ⟨ra, ⟨p9, hl9, hP9⟩, ⟨yl, hRy, hcy, h44⟩, hk9⟩ | ⟨ra, hB⟩
  rotate_left
  · replace ra : a = 0 := ra
    subst ra
    rw [if_pos rfl]
    replace hB : BAD η rd σ9 := hB
    have hp := hB.1
    rw [if_neg (fun z => by have := il_le z; rw [lt0] at this; omega)] at e
    cases e
    exact ws_s ⟨hfr_r F9, g9, Or.inr ⟨rfl, rfl, hB⟩⟩
  replace ra : a = 1 := ra
  subst ra
  rw [if_neg (by decide)]
  replace hP9 : PRE η rd σ9 t N p9 := hP9
  replace hcy : cI.toInt = (yl.length : Int) := hcy
  replace hRy : RWL η (rd + 3) yl := hRy
  replace hk9 : ∀ φ, φ < 350 → hp_I η φ rd = hp_I ζ φ rd := hk9
  rw [if_pos (by rw [hP9.2.2.2.2.2]; decide)] at e
  replace e := ms_cE e
  obtain ⟨rv, σx, ew, e⟩ := e
  cases e
  have hSη := RSH_R hSζ hf9.1
  refine ws_l ?_
  rw [hSη.2.2.2.1]
  refine ws_b (k_toThing n hn η (rd + 5) i NI a0 (by omega)) (fun θ hθ => ws_l (ws_l (ws_l (ws_l ?_))))
  obtain ⟨hWC, hwf⟩ := hθ
  have hSθ := RSH_R hSη hwf.1
  have i203 : hp_I θ 203 rd = ms_E σ 40 1 := by
    rw [hwf.2.2.2.2.1 203 rd (fun z => by omega), hk9 203 (by decide), k203c, c8]
  have i209 : hp_I θ 209 rd = hd := by
    rw [hwf.2.2.2.2.1 209 rd (fun z => by omega), hk9 209 (by decide)]; exact ev8
  rw [hSθ.2.2.2.1, hSθ.2.1, i203, i209]
  obtain ⟨hv, -⟩ := v_whyIn n σ9 yl.length cI hcy mk hd i.toInt.toNat NI.toInt.toNat i NI (by omega) (by omega) (by omega) _ ew
  have hvf := v_whyIn_fr n σ9 cI mk hd i.toInt.toNat NI.toInt.toNat i NI (by omega) (by omega) (by omega) _ ew
  have hvj := j_whyIn n (j := ms_J σ9) rfl cI mk i NI hd _ ew
  replace hv : rv = WIN (ms_E σ9 40 1) (ms_E σ9 44) yl.length mk i.toInt.toNat NI.toInt.toNat hd := hv
  replace hvf : fr [657, 658] [42, 43] σ9 σx := hvf
  replace hvj : ms_J σx = ms_J σ9 := hvj
  refine ws_b (k_whyIn n hn θ (rd + 5) (rd + 3) i.toInt.toNat NI.toInt.toNat hWC yl (RWL_wf hRy hwf) (ms_E σ 40 1) (by omega) mk hd) (fun r hr2 => ?_)
  have F10 : rfr rd α θ := rfr_tr F9 (rfr_wf hSη hwf)
  have hWθ : RWL θ w wl := RWL_rfr hW F10 hw3 hw
  refine ws_b (k_rput n hWθ hwl r) (fun κ hκ => ws_s ?_)
  obtain ⟨hRκ, hef⟩ := hκ
  have hrv : r = rv := by
    rw [hr2, hv, c9]
    exact WIN_h _ _ _ _ _ _ (fun j hj => (mkD h44 j hj).symm)
  have e300 : hp_R θ 300 w = w + 1 := by rw [F10.1]; exact hw3
  have hPx : PRE η rd σx t N p9 := PRE_fr hP9 hvf (by decide) (by decide) hvj
  have eRη : hp_R η 200 rd = rd + 1 := hSη.1.1
  have eRθ : hp_R θ 200 rd = rd + 1 := hSθ.1.1
  have hPθ : PRE θ rd σx t N p9 := PRE_e hPx hwf.1 hwf.2.1 (fun b j => hwf.2.2.2.2.2 24 b j (fun z => by omega)) (fun φ h1 h2 => by rw [eRη]; exact hwf.2.2.2.2.1 φ _ (fun z => by omega))
  have hPκ : PRE κ rd σx t N p9 := PRE_e hPθ hef.1 hef.2.1 (fun b j => hef.2.2.2.2.2 24 b j (fun z => absurd z.1 (by decide))) (fun φ h1 h2 => by rw [eRθ]; exact hef.2.2.2.2.1 φ _ (fun z => by omega))
  refine ⟨hfr_tr (hfr_r F10) (hfr_ef hef e300), fr_tr g9 (fr_sb hvf (by decide) (by decide)), Or.inl ⟨rfl, ⟨p9, by omega, hPκ⟩, by rw [← hrv]; exact hRκ, fun φ h1 h2 => ?_, ?_⟩⟩
  rotate_left
  · have := RWL_m hRy
    show 0 ≤ (hp_I κ 301 (rd + 3)).toInt ∧ (hp_I κ 301 (rd + 3)).toInt ≤ 64
    rw [hef.2.2.2.2.1 301 (rd + 3) (fun z => by omega), hwf.2.2.2.2.1 301 (rd + 3) (fun z => by omega)]; exact this
  show hp_I κ φ rd = _
  rw [hef.2.2.2.2.1 φ rd (fun z => by omega), hwf.2.2.2.2.1 φ rd (fun z => by omega), hk9 φ h1, hk8 φ h1 h2, hk6 φ h1 h2, hk4 φ h1 h2, hk3 φ h1, hk2 φ h1 h2]
theorem r_takesW (n : Nat) {α : hp_T} {rd : Nat} {σ : ms_T} {t : Nat → Int32} {N q : Nat} (hT : TOK α rd σ t N q) (w : Nat) (hw : w < 12) (wI : Int32) (hwI : wI.toInt = (w : Int)) (hs : spl t N q (wtx w)) : pr (f_X12_takes n σ wI) (fun τ => PRE α rd τ t N (tkN t N q) ∧ rg σ τ) := by
  obtain ⟨q1, q2, q3, q4, q5, q6⟩ := id hT
  have hN := q2.1
  unfold f_X12_takes
  refine pr_b (v_isWord n q5 (by omega) hN w hw wI hwI) (fun r2 hr2 => ?_)
  rcases hr2 with ⟨rfl, -⟩ | ⟨-, hno⟩
  · exact r_must n hT 1 (Or.inr rfl) (fun _ => q_lt hs.1 (by decide)) (R := ms_T) _ (fun _ τ t1 t2 => ⟨t1, t2⟩) (fun h => absurd h (by decide))
  · exact absurd ⟨q6, hs⟩ hno
theorem r_statGrow (n : Nat) (hn : 70000 ≤ n) {α : hp_T} {rd w : Nat} {wl : List Int32} {σ : ms_T} {t : Nat → Int32} {N q : Nat} (hS : RSH α rd) (hT : TOK α rd σ t N q) (hqN : q < N) (hsp : spl t N q (wtx 7)) (hM : hp_I α 203 rd = ms_E σ 40 1) (hC : rC (ms_E σ 40)) (hr : 0 ≤ (hp_I α 301 (rd + 3)).toInt ∧ (hp_I α 301 (rd + 3)).toInt ≤ 64) (hw : w + 2 ≤ rd) (hw3 : hp_R α 300 w = w + 1) (hW : RWL α w wl) (hwl : wl.length < 64) (res : Int32 × ms_T) (e : f_X12_statementGrow n σ = some res) :
    ws (f_X3_readGrowth n α rd w) (fun a => STO rd w wl α σ t N q a res) := by
  have hm := hC.2.1
  have eR : hp_R α 200 rd = rd + 1 := hS.1.1
  unfold f_X12_statementGrow at e
  replace e := ms_bE e
  obtain ⟨σ1, e1, e⟩ := e
  obtain ⟨hP1, hg1⟩ := r_takesW n hT 7 (by decide) 7 (by decide) hsp σ1 e1
  have c1 : ms_E σ1 40 = ms_E σ 40 := funext (hg1.2 40 (by decide))
  replace e := ms_cE e
  obtain ⟨i, σ2, e2, e⟩ := e
  have hq1 := (tkN_le t hqN).1
  unfold f_X3_readGrowth
  have hbad : ∀ (β : hp_T) (τ : ms_T), rfr rd α β → fr FWH FEH σ τ → BAD β rd τ → (res.1 = 0 ∧ BB τ res.2) → ws (some ((0 : Int32), β)) (fun a => STO rd w wl α σ t N q a res) := fun β τ hf hg hB hb => ws_s ⟨hfr_r hf, fr_tr hg (frg hb.2.2.2), Or.inr ⟨rfl, hb.1, BAD_B hB hb.2⟩⟩
  refine ws_hc (r_number n hn hP1 0 2147483647 0 99999 (fun v h0 h1 => by rw [lt0, tMx, t99k]; omega)) (fun a β hab => ?_)
  obtain ⟨hf2, hg2, hc2⟩ := hab _ e2
  rw [eR] at hf2
  have F2 : rfr rd α β := rfr_rdf hf2
  have g2 : rg σ σ2 := rg_tr hg1 hg2
  have c2 : ms_E σ2 40 = ms_E σ 40 := funext (g2.2 40 (by decide))
  rcases hc2 with ⟨ra, ⟨p2, hl2, hP2⟩, ev2, a0, a1, -, -, hk2⟩ | ⟨ra, hB⟩
  rotate_left
  · replace ra : a = 0 := ra
    subst ra
    rw [if_pos rfl]
    exact hbad β σ2 F2 (frg g2) hB (bG_2 n σ2 i hB.1 res e)
  replace ra : a = 1 := ra
  subst ra
  rw [if_neg (by decide)]
  refine ws_l ?_
  replace ev2 : hp_I β 209 rd = i := ev2
  replace a0 : 0 ≤ i.toInt := a0
  replace a1 : i.toInt ≤ 99999 := a1
  rw [ev2]
  replace e := ms_bE e
  obtain ⟨σ3, e3, e⟩ := e
  replace e := ms_cE e
  obtain ⟨od, σ4, e4, e⟩ := e
  have eR2 : hp_R β 200 rd = rd + 1 := by rw [F2.1]; exact eR
  have k203 : hp_I β 203 rd = ms_E σ2 40 1 := by rw [hk2 203 (by decide) (by decide), c2]; exact hM
  refine ws_hc (r_mark n hn hP2 k203 (by rw [c2]; exact hC) 9 (by decide) 9 (by decide) e3 e4) (fun a γ h4 => ?_)
  obtain ⟨hf4, hg4, hc4⟩ := h4
  rw [eR2] at hf4
  have F4 : rfr rd α γ := rfr_tr F2 (rfr_rdf hf4)
  have g4 : rg σ σ4 := rg_tr g2 hg4
  have c4 : ms_E σ4 40 = ms_E σ 40 := funext (g4.2 40 (by decide))
  rcases hc4 with ⟨ra, ⟨p4, hl4, hP4⟩, ev4, b0, b1, hk4⟩ | ⟨ra, hB⟩
  rotate_left
  · replace ra : a = 0 := ra
    subst ra
    rw [if_pos rfl]
    exact hbad γ σ4 F4 (frg g4) hB (bG_4 n σ4 i od hB.1 res e)
  replace ra : a = 1 := ra
  subst ra
  rw [if_neg (by decide)]
  refine ws_l ?_
  replace ev4 : hp_I γ 209 rd = od := ev4
  rw [ev4]
  replace e := ms_bE e
  obtain ⟨σ5, e5, e⟩ := e
  have eR4 : hp_R γ 200 rd = rd + 1 := by rw [F4.1]; exact eR
  refine ws_hc (r_word n hn hP4 2 (by decide) 2 (by decide)) (fun a δ h5 => ?_)
  obtain ⟨hf5, hg5, hc5⟩ := h5 _ e5
  rw [eR4] at hf5
  have F5 : rfr rd α δ := rfr_tr F4 (rfr_rdf hf5)
  have g5 : rg σ σ5 := rg_tr g4 hg5
  rcases hc5 with ⟨ra, ⟨p5, hl5, hP5⟩, hk5⟩ | ⟨ra, hB⟩
  rotate_left
  · replace ra : a = 0 := ra
    subst ra
    rw [if_pos rfl]
    exact hbad δ σ5 F5 (frg g5) hB (bG_5 n σ5 i od hB.1 res e)
  replace ra : a = 1 := ra
  subst ra
  rw [if_neg (by decide)]
  replace e := ms_cE e
  obtain ⟨NI, σ6, e6, e⟩ := e
  have eR5 : hp_R δ 200 rd = rd + 1 := by rw [F5.1]; exact eR
  refine ws_hc (r_number n hn hP5 i 2147483647 i 99999 (fun v h0 h1 => by rw [tMx, t99k]; omega)) (fun a ε h6 => ?_)
  obtain ⟨hf6, hg6, hc6⟩ := h6 _ e6
  rw [eR5] at hf6
  have F6 : rfr rd α ε := rfr_tr F5 (rfr_rdf hf6)
  have g6 : rg σ σ6 := rg_tr g5 hg6
  have c6 : ms_E σ6 40 = ms_E σ 40 := funext (g6.2 40 (by decide))
  rcases hc6 with ⟨ra, ⟨p6, hl6, hP6⟩, ev6, d0, d1, d2, -, hk6⟩ | ⟨ra, hB⟩
  rotate_left
  · replace ra : a = 0 := ra
    subst ra
    rw [if_pos rfl]
    exact hbad ε σ6 F6 (frg g6) hB (bG_6 n σ6 i od NI hB.1 res e)
  replace ra : a = 1 := ra
  subst ra
  rw [if_neg (by decide)]
  refine ws_l ?_
  replace ev6 : hp_I ε 209 rd = NI := ev6
  replace d0 : 0 ≤ NI.toInt := d0
  replace d1 : NI.toInt ≤ 99999 := d1
  replace d2 : i.toInt ≤ NI.toInt := d2
  rw [ev6]
  replace e := ms_bE e
  obtain ⟨σ7, e7, e⟩ := e
  replace e := ms_cE e
  obtain ⟨nw, σ8, e8, e⟩ := e
  have k203b : hp_I ε 203 rd = ms_E σ6 40 1 := by
    rw [hk6 203 (by decide) (by decide), hk5 203 (by decide), hk4 203 (by decide) (by decide), k203, c2, c6]
  refine ws_hc (r_mark n hn hP6 k203b (by rw [c6]; exact hC) 10 (by decide) 10 (by decide) e7 e8) (fun a ζ h8 => ?_)
  obtain ⟨hf8, hg8, hc8⟩ := h8
  have eR6 : hp_R ε 200 rd = rd + 1 := by rw [F6.1]; exact eR
  rw [eR6] at hf8
  have F8 : rfr rd α ζ := rfr_tr F6 (rfr_rdf hf8)
  have g8 : rg σ σ8 := rg_tr g6 hg8
  have c8 : ms_E σ8 40 = ms_E σ 40 := funext (g8.2 40 (by decide))
  rcases hc8 with ⟨ra, ⟨p8, hl8, hP8⟩, ev8, f0, f1, hk8⟩ | ⟨ra, hB⟩
  rotate_left
  · replace ra : a = 0 := ra
    subst ra
    rw [if_pos rfl]
    exact hbad ζ σ8 F8 (frg g8) hB (bG_8 n σ8 i od NI nw hB.1 res e)
  replace ra : a = 1 := ra
  subst ra
  rw [if_neg (by decide)]
  replace ev8 : hp_I ζ 209 rd = nw := ev8
  replace e := ms_cE e
  obtain ⟨cI, σ9, e9, e⟩ := e
  have k203c : hp_I ζ 203 rd = ms_E σ8 40 1 := by
    rw [hk8 203 (by decide) (by decide), k203b, c6, c8]
  have k301 : hp_I ζ 301 (rd + 3) = hp_I α 301 (rd + 3) := by
    rw [hf8.2.2.2.2.2 301 (rd + 3) (fun z => by omega) (fun z => by omega), hf6.2.2.2.2.2 301 (rd + 3) (fun z => by omega) (fun z => by omega), hf5.2.2.2.2.2 301 (rd + 3) (fun z => by omega) (fun z => by omega), hf4.2.2.2.2.2 301 (rd + 3) (fun z => by omega) (fun z => by omega), hf2.2.2.2.2.2 301 (rd + 3) (fun z => by omega) (fun z => by omega)]
  have hSζ := RSH_R hS F8.1
  refine ws_hc (r_row n hn hSζ hP8 k203c (by rw [c8]; exact hC) (by rw [k301]; exact hr) (cI, σ9) e9) (fun a η h9 => ?_)
  obtain ⟨hf9, hg9, hc9⟩ := h9
  replace hf9 : rfr rd ζ η := hf9
  replace hg9 : rgm σ8 σ9 := hg9
  have F9 : rfr rd α η := rfr_tr F8 hf9
  have g9 : fr FWH FEH σ σ9 := fr_tr (frg g8) (frgm hg9)
  have c9 : ms_E σ9 40 = ms_E σ 40 := funext (g9.2 40 (by decide))
  rcases hc9 with ⟨ra, ⟨p9, hl9, hP9⟩, ⟨yl, hRy, hcy, h44⟩, hk9⟩ | ⟨ra, hB⟩
  rotate_left
  · replace ra : a = 0 := ra
    subst ra
    rw [if_pos rfl]
    replace hB : BAD η rd σ9 := hB
    have hp := hB.1
    rw [if_neg (fun z => by have := il_le z; rw [lt0] at this; omega)] at e
    cases e
    exact ws_s ⟨hfr_r F9, g9, Or.inr ⟨rfl, rfl, hB⟩⟩
  replace ra : a = 1 := ra
  subst ra
  rw [if_neg (by decide)]
  replace hP9 : PRE η rd σ9 t N p9 := hP9
  replace hcy : cI.toInt = (yl.length : Int) := hcy
  replace hRy : RWL η (rd + 3) yl := hRy
  replace hk9 : ∀ φ, φ < 350 → hp_I η φ rd = hp_I ζ φ rd := hk9
  rw [if_pos (by rw [hP9.2.2.2.2.2]; decide)] at e
  replace e := ms_cE e
  obtain ⟨rv, σx, ew, e⟩ := e
  cases e
  have hSη := RSH_R hSζ hf9.1
  have i203 : hp_I η 203 rd = ms_E σ 40 1 := by
    rw [hk9 203 (by decide), k203c, c8]
  have i209 : hp_I η 209 rd = nw := by
    rw [hk9 209 (by decide)]; exact ev8
  refine ws_l (ws_l (ws_l (ws_l ?_)))
  rw [hSη.2.2.2.1, hSη.2.1, i203, i209]
  obtain ⟨hv, hvf⟩ := v_whyGrown n σ9 yl.length cI hcy i.toInt.toNat NI.toInt.toNat i NI od nw (by omega) (by omega) (by omega) _ ew
  have hvj := j_whyGrown n (j := ms_J σ9) rfl cI i od NI nw _ ew
  replace hv : rv = WHY (ms_E σ9 40 1) (ms_E σ9 44) yl.length i.toInt.toNat od NI.toInt.toNat nw := hv
  replace hvf : fr [657, 658, 659, 660] [42, 43] σ9 σx := hvf
  replace hvj : ms_J σx = ms_J σ9 := hvj
  refine ws_hc (k_whyGrowth n hn η (rd + 5) (rd + 3) yl hRy (ms_E σ 40 1) (by omega) i.toInt.toNat NI.toInt.toNat i NI od nw (by omega) (by omega) (by omega)) (fun r θ hr2 => ?_)
  obtain ⟨hr2, hwf⟩ := hr2
  replace hwf : wf (rd + 5) η θ := hwf
  have hSθ := RSH_R hSη hwf.1
  have F10 : rfr rd α θ := rfr_tr F9 (rfr_wf hSη hwf)
  have hWθ : RWL θ w wl := RWL_rfr hW F10 hw3 hw
  refine ws_b (k_rput n hWθ hwl r) (fun κ hκ => ws_s ?_)
  obtain ⟨hRκ, hef⟩ := hκ
  have hrv : r = rv := by
    rw [show r = _ from hr2, hv, c9]
    exact WHY_c _ _ _ _ _ _ (fun j hj => (mkD h44 j hj).symm)
  have e300 : hp_R θ 300 w = w + 1 := by rw [F10.1]; exact hw3
  have hPx : PRE η rd σx t N p9 := PRE_fr hP9 hvf (by decide) (by decide) hvj
  have eRη : hp_R η 200 rd = rd + 1 := hSη.1.1
  have eRθ : hp_R θ 200 rd = rd + 1 := hSθ.1.1
  have hPθ : PRE θ rd σx t N p9 := PRE_e hPx hwf.1 hwf.2.1 (fun b j => hwf.2.2.2.2.2 24 b j (fun z => by omega)) (fun φ h1 h2 => by rw [eRη]; exact hwf.2.2.2.2.1 φ _ (fun z => by omega))
  have hPκ : PRE κ rd σx t N p9 := PRE_e hPθ hef.1 hef.2.1 (fun b j => hef.2.2.2.2.2 24 b j (fun z => absurd z.1 (by decide))) (fun φ h1 h2 => by rw [eRθ]; exact hef.2.2.2.2.1 φ _ (fun z => by omega))
  refine ⟨hfr_tr (hfr_r F10) (hfr_ef hef e300), fr_tr g9 (fr_sb hvf (by decide) (by decide)), Or.inl ⟨rfl, ⟨p9, by omega, hPκ⟩, by rw [← hrv]; exact hRκ, fun φ h1 h2 => ?_, ?_⟩⟩
  rotate_left
  · have := RWL_m hRy
    show 0 ≤ (hp_I κ 301 (rd + 3)).toInt ∧ (hp_I κ 301 (rd + 3)).toInt ≤ 64
    rw [hef.2.2.2.2.1 301 (rd + 3) (fun z => by omega), hwf.2.2.2.2.1 301 (rd + 3) (fun z => by omega)]; exact this
  show hp_I κ φ rd = _
  rw [hef.2.2.2.2.1 φ rd (fun z => by omega), hwf.2.2.2.2.1 φ rd (fun z => by omega), hk9 φ h1, hk8 φ h1 h2, hk6 φ h1 h2, hk5 φ h1, hk4 φ h1 h2, hk2 φ h1 h2]
/-! ===== PROOFS, one STATEMENT after another ===== -/
def cn0 : List Int32 → Nat
  | [] => 0
  | a :: l => (if a = 0 then 1 else 0) + cn0 l
theorem cn0_app (l : List Int32) (a : Int32) : cn0 (l ++ [a]) = cn0 l + (if a = 0 then 1 else 0) := by
  induction l with
  | nil => simp [cn0]
  | cons b l ih => rw [List.cons_append, cn0, cn0, ih]; omega
theorem cn0_le (l : List Int32) : cn0 l ≤ l.length := by
  induction l with
  | nil => simp [cn0]
  | cons b l ih => rw [cn0, List.length_cons]; split <;> omega
def WH5 (σ : ms_T) (wl : List Int32) : Prop := ∀ j, j < wl.length → some (ms_E σ 50 j) = wl[j]?
def HPO (n rd w : Nat) (res : Int32 × ms_T) (α : hp_T) (σ : ms_T) (a : Int32 × hp_T) : Prop := hfr rd w α a.2 ∧ ∃ (τ : ms_T) (mI gI : Int32), fr FWH (50 :: FEH) σ τ ∧ f_X12_hear_J153 n τ mI gI = some res ∧ ((a.1 = 0 ∧ BAD a.2 rd τ) ∨ (a.1 = 1 ∧ ms_I τ 670 = 0 ∧ (∃ yl, RWL a.2 w yl ∧ yl.length ≤ 20 ∧ mI.toInt = (yl.length : Int) ∧ gI.toInt = (cn0 yl : Int) ∧ WH5 τ yl) ∧ KF rd α a.2))
theorem HPO_tr {n rd w : Nat} {res : Int32 × ms_T} {α β : hp_T} {σ τ : ms_T} {a : Int32 × hp_T} (hf : hfr rd w α β) (hg : fr FWH (50 :: FEH) σ τ) (hk : KF rd α β) (h : HPO n rd w res β τ a) : HPO n rd w res α σ a := by
  obtain ⟨h1, υ, m, g, h2, h3, h4⟩ := h
  refine ⟨hfr_tr hf h1, υ, m, g, fr_tr hg h2, h3, ?_⟩
  rcases h4 with h4 | ⟨r1, r2, r3, r4⟩
  · exact Or.inl h4
  · exact Or.inr ⟨r1, r2, r3, KF_tr hk r4⟩
theorem fr5 {σ τ : ms_T} (h : fr FWH FEH σ τ) : fr FWH (50 :: FEH) σ τ := fr_sb h (fun _ q => q) (fun _ q => List.mem_cons_of_mem _ q)
/-- behind a fault: the reference's way out -/
theorem v_hear_B (n d2 : Nat) (σ : ms_T) (vI gI : Int32) (res : Int32 × ms_T) (h : 0 < (ms_I σ 670).toInt) (e : f_X12_hear_L35 n d2 σ vI gI = some res) : f_X12_hear_J153 n σ vI gI = some res := by
  cases d2 with
  | zero => rw [f_X12_hear_L35.eq_1] at e; cases e
  | succ d2 =>
    rw [f_X12_hear_L35.eq_2, if_neg (fun z => by rw [z, lt0] at h; omega)] at e
    exact e
theorem v_hear_129 (n d2 : Nat) (σ : ms_T) (vI gI v : Int32) (res : Int32 × ms_T) (e : f_X12_hear_J129 n (f_X12_hear_L35 n d2) σ vI gI v vI = some res) : ∃ g2 : Int32, g2 = gI + (if v = 0 then 1 else 0) ∧ f_X12_hear_L35 n d2 (ms_sE σ 50 vI.toNatClampNeg v) (vI + 1) g2 = some res := by
  unfold f_X12_hear_J129 at e
  replace e := ms_gE e
  obtain ⟨-, e⟩ := e
  replace e := ms_lE rfl e
  replace e := ms_gE e
  obtain ⟨-, e⟩ := e
  have h50 : ms_E (ms_sE σ 50 vI.toNatClampNeg v) 50 vI.toNatClampNeg = v := by rw [mE_sE, if_pos ⟨rfl, rfl⟩]
  rw [h50] at e
  unfold f_X12_hear_J145 at e
  by_cases h : v = 0
  · rw [if_pos h] at e
    exact ⟨_, rfl, by rw [if_pos h]; exact ms_lE rfl (ms_lE rfl e)⟩
  · rw [if_neg h] at e
    exact ⟨_, rfl, by rw [if_neg h]; exact ms_lE rfl (ms_lE rfl e)⟩
theorem r_proofs_L (n : Nat) (hn : 70000 ≤ n) (rd w : Nat) (t : Nat → Int32) (N : Nat) (res : Int32 × ms_T) (hw : w + 2 ≤ rd) : ∀ (d : Nat) (α : hp_T) (σ : ms_T) (wl : List Int32) (q k : Nat) (kI vI gI : Int32) (d2 : Nat), RSH α rd → TOK α rd σ t N q → hp_I α 203 rd = ms_E σ 40 1 → rC (ms_E σ 40) → (0 ≤ (hp_I α 301 (rd + 3)).toInt ∧ (hp_I α 301 (rd + 3)).toInt ≤ 64) → hp_R α 300 w = w + 1 → RWL α w wl → wl.length ≤ 20 → vI.toInt = (wl.length : Int) → gI.toInt = (cn0 wl : Int) → WH5 σ wl → kI.toInt = (k : Int) → k ≤ q → N + 1 - q ≤ d → f_X12_hear_L35 n d2 σ vI gI = some res → ws (f_X3_readProofs_L12 n rd d α w kI) (HPO n rd w res α σ) := by
  intro d
  induction d with
  | zero => intro α σ wl q k kI vI gI d2 _ hT _ _ _ _ _ _ _ _ _ _ _ hd; have := hT.1; omega
  | succ d ih =>
    intro α σ wl q k kI vI gI d2 hS hT hM hC hr h3 hW hwl hv hg h5 hk hkq hd e
    have t900 := t_900
    have t20 := t_20
    have hN := hT.2.1.1
    have hqN := hT.1
    have eR : hp_R α 200 rd = rd + 1 := hS.1.1
    obtain ⟨q1, q2, q3, q4, q5, q6⟩ := id hT
    cases d2 with
    | zero => rw [f_X12_hear_L35.eq_1] at e; cases e
    | succ d2 =>
    rw [f_X12_hear_L35.eq_2, if_pos q6] at e
    rw [f_X3_readProofs_L12.eq_2]
    have hend : q = N → ms_I σ 674 = 0 := fun hq => by
      rw [q5.2.1]; exact tkS_e (by omega)
    have hmid : q < N → ¬ tkS t N q = 0 := fun hq => tkS_0 hq
    have hdone : q = N → HPO n rd w res α σ (1, α) := fun hq => by
      rw [if_pos (hend hq)] at e
      exact ⟨hfr_rf, σ, vI, gI, fr_rf, e, Or.inr ⟨rfl, q6, ⟨wl, hW, hwl, hv, hg, h5⟩, rfl, rfl⟩⟩
    refine ws_le (fun e9 => ws_s (hdone (by omega))) (fun e9 => ?_)
    unfold f_X3_isAtEnd
    have h353 : hp_I α 353 (hp_R α 200 rd) = tkS t N q := q3.2.1
    by_cases hq : q = N
    · refine ws_b (S := fun v => v = 1) (ws_l (ws_l (ws_i (fun _ => ws_s rfl) (fun hne => absurd (by rw [h353]; rw [← q5.2.1]; exact hend hq) hne)))) (fun v hv => ?_)
      subst hv
      exact ws_i (fun h => absurd h (by decide)) (fun _ => ws_s (hdone hq))
    have hqN2 : q < N := by omega
    refine ws_b (S := fun v => v = 0) (ws_l (ws_l (ws_i (fun h0 => absurd (by rw [h353] at h0; exact h0) (hmid hqN2)) (fun _ => ws_s rfl)))) (fun v hv0 => ?_)
    subst hv0
    refine ws_i (fun _ => ws_l ?_) (fun h => absurd rfl h)
    rw [if_neg (fun h => hmid hqN2 (q5.2.1.symm.trans h))] at e
    replace e := ms_bE e
    obtain ⟨x6, ex6, e⟩ := e
    obtain ⟨w61, w60⟩ := v_isW n hT 6 (by decide) 6 (by decide) ex6
    -- a STATEMENT of either kind
    have hJ : ∀ (b4 : Int32), ((b4 = 1 ∧ spl t N q (wtx 6)) ∨ (b4 = 0 ∧ ¬ spl t N q (wtx 6) ∧ spl t N q (wtx 7))) → f_X12_hear_J73 n (f_X12_hear_L35 n d2) σ vI gI 1 = some res → ws (f_X3_readProofs_J59 n rd (f_X3_readProofs_L12 n rd d) α w kI b4) (HPO n rd w res α σ) := by
      clear e
      intro b4 hb4 e
      unfold f_X12_hear_J73 at e
      replace e := ms_bE e
      obtain ⟨σ1, e1, e⟩ := e
      have := v_must1 n σ 1 2 (by decide) σ1 e1
      subst this
      unfold f_X3_readProofs_J59
      refine ws_l (ws_hc (r_room n hT eR (hp_I α 301 w) 20) (fun a β hab => ?_))
      obtain ⟨hab1, hab2⟩ := hab
      by_cases h20 : wl.length < 20
      · obtain ⟨ra, rb⟩ := hab1 (by rw [hW.2.1, t20]; omega)
        replace ra : a = 1 := ra
        replace rb : β = α := rb
        subst ra
        subst rb
        rw [if_neg (by decide)]
        rw [if_neg (fun z => by have := il_le z; rw [t20] at this; omega)] at e
        unfold f_X12_hear_J89 at e
        replace e := ms_bE e
        obtain ⟨σ2, e2, e⟩ := e
        have := v_must1 n σ1 1 6 (by decide) σ2 e2
        subst this
        rw [if_pos (by rw [q6]; decide)] at e
        replace e := ms_bE e
        obtain ⟨x7, ex7, e⟩ := e
        obtain ⟨w71, w70⟩ := v_isW n hT 6 (by decide) 6 (by decide) ex7
        -- behind the STATEMENT
        have hS9 : ∀ (z : Int32 × hp_T) (r : Int32 × ms_T), STO rd w wl β σ2 t N q z r → f_X12_hear_J129 n (f_X12_hear_L35 n d2) r.2 vI gI r.1 vI = some res → ws (if z.1 = 0 then some ((0 : Int32), z.2) else f_X3_readProofs_J98 n rd (f_X3_readProofs_L12 n rd d) z.2 w kI) (HPO n rd w res β σ2) := by
          intro z r hz er
          obtain ⟨hf, hg2, hc⟩ := hz
          obtain ⟨g2, hg2e, er2⟩ := v_hear_129 n d2 r.2 vI gI r.1 res er
          have ev : vI.toNatClampNeg = wl.length := cl_n hv
          rw [ev] at er2
          have g50 : fr FWH (50 :: FEH) r.2 (ms_sE r.2 50 wl.length r.1) := fr_sE List.mem_cons_self
          rcases hc with ⟨z1, ⟨p, hp, hP⟩, hRW, hkk, hr2⟩ | ⟨z0, hr0, hB⟩
          · rw [if_neg (by rw [z1]; decide)]
            unfold f_X3_readProofs_J98
            have hSz := RSH_R hS hf.1
            have eRz : hp_R z.2 200 rd = rd + 1 := hSz.1.1
            have hP2 : PRE z.2 rd (ms_sE r.2 50 wl.length r.1) t N p := PRE_fr (wI := []) (wE := [50]) hP (fr_sE (by decide)) (by decide) (by decide) rfl
            refine ws_l (ws_b (r_adv n hn hP2) (fun δ hδ => ws_l ?_))
            obtain ⟨hTδ, hfδ, hkδ⟩ := hδ
            rw [eRz] at hfδ
            have e1 : (kI + 1).toInt = ((k + 1 : Nat) : Int) := by rw [iw_add, lt1]; omega
            have ev1 : (vI + 1).toInt = ((wl ++ [r.1]).length : Int) := by rw [iw_add, lt1, List.length_append, List.length_singleton]; omega
            have eg1 : g2.toInt = (cn0 (wl ++ [r.1]) : Int) := by
              have := cn0_le wl
              rw [hg2e, cn0_app]
              split
              · rw [iw_add, lt1]; omega
              · rw [iw_add, lt0]; omega
            have c40 : ms_E (ms_sE r.2 50 wl.length r.1) 40 = ms_E σ2 40 := by
              funext j
              rw [mE_sE, if_neg (fun q => absurd q.1 (by decide)), hg2.2 40 (by decide) j]
            have hp2 : p ≤ tkP t N p := (ru_le isB t _ _).1
            have hRδ : RWL δ w (wl ++ [r.1]) := ⟨hRW.1, by rw [hkδ 301 (by decide)]; exact hRW.2.1, fun j hj => by rw [hfδ.1, hfδ.2.2.2.2.1]; exact hRW.2.2 j hj⟩
            refine ws_m (ih δ (ms_sE r.2 50 wl.length r.1) (wl ++ [r.1]) (tkP t N p) (k + 1) (kI + 1) (vI + 1) g2 d2 (RSH_R hSz hfδ.1) hTδ ?_ (by rw [c40]; exact hC) ?_ ?_ hRδ ?_ ev1 eg1 ?_ e1 (by omega) (by omega) er2) (fun a ha => HPO_tr (hfr_tr hf (hfr_r (rfr_rdf hfδ))) (fr_tr (fr5 hg2) g50) ?_ ha)
            · rw [hkδ 203 (by decide), hkk 203 (by decide) (by decide), c40]; exact hM
            · rw [hkδ 301 (by decide)]; exact hr2
            · rw [hfδ.1, hf.1]; exact h3
            · rw [List.length_append, List.length_singleton]; omega
            · intro j hj
              rw [List.length_append, List.length_singleton] at hj
              rw [mE_sE]
              by_cases ej : j = wl.length
              · rw [if_pos ⟨rfl, ej⟩, ej, List.getElem?_append_right (Nat.le_refl _), Nat.sub_self]; rfl
              · rw [if_neg (fun q => ej q.2), List.getElem?_append_left (by omega), hg2.2 50 (by decide) j]
                exact h5 j (by omega)
            · exact ⟨by rw [hkδ 204 (by decide), hkk 204 (by decide) (by decide)], by rw [hkδ 205 (by decide), hkk 205 (by decide) (by decide)]⟩
          · rw [if_pos z0]
            refine ws_s ⟨hf, ms_sE r.2 50 wl.length r.1, vI + 1, g2, fr_tr (fr5 hg2) g50, ?_, Or.inl ⟨rfl, BAD_m hB rfl rfl⟩⟩
            exact v_hear_B n d2 _ _ _ res hB.1 er2
        rcases hb4 with ⟨rfl, hin⟩ | ⟨rfl, hnin, hgr⟩
        · rw [if_neg (by decide)]
          rw [w71 hin, if_neg (by decide)] at e
          replace e := ms_cE e
          obtain ⟨v, υ, ev, e⟩ := e
          exact ws_hc (r_statIn n hn hS hT hqN2 hM hC hr hw h3 hW (by omega) (v, υ) ev) (fun a γ hz => hS9 (a, γ) (v, υ) hz e)
        · rw [if_pos rfl]
          rw [w70 hnin, if_pos rfl] at e
          replace e := ms_cE e
          obtain ⟨v, υ, ev, e⟩ := e
          exact ws_hc (r_statGrow n hn hS hT hqN2 hgr hM hC hr hw h3 hW (by omega) (v, υ) ev) (fun a γ hz => hS9 (a, γ) (v, υ) hz e)
      · obtain ⟨ra, rb, rc⟩ := hab2 (by rw [hW.2.1, t20]; omega)
        replace ra : a = 0 := ra
        subst ra
        rw [if_pos rfl]
        rw [if_pos (by rw [Int32.le_iff_toInt_le, t20]; omega)] at e
        unfold f_X12_hear_J89 at e
        replace e := ms_bE e
        obtain ⟨σ2, e2, e⟩ := e
        obtain ⟨u1, u2, u3⟩ := v_mustk n q6 6 (by decide) σ2 e2
        rw [if_neg (fun z => by rw [u1] at z; exact absurd z (by decide))] at e
        exact ws_s ⟨hfr_r (rfr_rdf rb), σ2, vI, gI, fr5 (frg u3), e, Or.inl ⟨rfl, rc σ2 u1 u2⟩⟩
    refine ws_b (k_spells n hn (by decide) q2 q3 q1) (fun b4 hb4 => ?_)
    rcases hb4 with ⟨rfl, hin⟩ | ⟨rfl, hnin⟩
    · rw [if_neg (by decide)]
      rw [w61 hin, if_neg (by decide)] at e
      unfold f_X12_hear_J68 at e
      exact hJ 1 (Or.inl ⟨rfl, hin⟩) e
    · rw [if_pos rfl]
      rw [w60 hnin, if_pos rfl] at e
      replace e := ms_bE e
      obtain ⟨x7, ex7, e⟩ := e
      obtain ⟨w71, w70⟩ := v_isW n hT 7 (by decide) 7 (by decide) ex7
      refine ws_l (ws_b (k_spells n hn (by decide) q2 q3 q1) (fun b5 hb5 => ?_))
      rcases hb5 with ⟨rfl, hgr⟩ | ⟨rfl, hngr⟩
      · rw [if_neg (by decide)]
        rw [w71 hgr, if_neg (by decide)] at e
        unfold f_X12_hear_J68 at e
        exact hJ 0 (Or.inr ⟨rfl, hnin, hgr⟩) e
      · rw [if_pos rfl]
        rw [w70 hngr, if_pos rfl] at e
        refine ws_hc (k_stray n q3) (fun r γ hr9 => ?_)
        obtain ⟨g1, g2, g3, g4⟩ := hr9
        rw [eR] at g4
        replace g1 : r = 0 := g1
        subst g1
        refine ws_z (Or.inl rfl) ?_
        unfold f_X12_hear_J73 at e
        replace e := ms_bE e
        obtain ⟨σ1, e1, e⟩ := e
        obtain ⟨u1, u2, u3⟩ := v_must0 n q6 2 σ1 e1
        have u1' : ms_I σ1 670 = (if tkS t N q = 4 then 1 else 2) := by
          rw [u1]
          by_cases h4 : tkS t N q = 4
          · rw [if_pos h4, if_pos ⟨rfl, q5.2.1.trans h4⟩]
          · rw [if_neg h4, if_neg (fun h => h4 (q5.2.1.symm.trans h.2))]
        have hpos : 0 < (ms_I σ1 670).toInt := by rw [u1']; split <;> decide
        have hx : ∀ b : Int32, f_X12_hear_J89 n (f_X12_hear_L35 n d2) σ1 vI gI b = some res → f_X12_hear_J153 n σ1 vI gI = some res := by
          intro b eb
          unfold f_X12_hear_J89 at eb
          replace eb := ms_bE eb
          obtain ⟨σ2, e2, eb⟩ := eb
          have := v_must2 n σ1 b 6 hpos σ2 e2
          subst this
          rw [if_neg (fun z => by have := il_le z; rw [lt0] at this; omega)] at eb
          exact eb
        have e9 : f_X12_hear_J153 n σ1 vI gI = some res := by
          by_cases h64 : (20 : Int32) ≤ vI
          · rw [if_pos h64] at e; exact hx 0 e
          · rw [if_neg h64] at e; exact hx 1 e
        refine ws_s ⟨hfr_r (rfr_rdf g4), σ1, vI, gI, fr5 (frg (rg_m u3)), e9, Or.inl ⟨rfl, hpos, by rw [u1']; exact g2, ?_⟩⟩
        show hp_I γ 205 rd = _
        rw [u2]
        exact Int32.toInt_inj.mp (by rw [q5.1]; exact g3)
/-! ===== hear, side by side ===== -/
theorem k_countOf_L (n : Nat) {α : hp_T} {a : Nat} {l : List Int32} (h : RWL α a l) : ∀ (d k : Nat) (cI kI : Int32), kI.toInt = (k : Int) → k ≤ l.length → cI.toInt = (cn0 (l.take k) : Int) → l.length + 1 - k ≤ d → ws (f_X5_countOf_L4 n α a d 0 cI kI) (fun r => r.toInt = (cn0 l : Int)) := by
  intro d
  induction d with
  | zero => intro k cI kI _ hk _ hd; omega
  | succ d ih =>
    intro k cI kI hkI hk hc hd
    have h64 := h.1
    rw [f_X5_countOf_L4.eq_2]
    refine ws_l (ws_le (fun c => ws_s ?_) (fun c => ?_))
    · rw [h.2.1] at c
      rw [hc, List.take_of_length_le (by omega)]
    · rw [h.2.1] at c
      have hkl : k < l.length := by omega
      have htk : l.take (k + 1) = l.take k ++ [l[k]] := by rw [List.take_succ_eq_append_getElem hkl]
      have hcl := cn0_le (l.take k)
      rw [List.length_take] at hcl
      have e1 : (kI + 1).toInt = ((k + 1 : Nat) : Int) := by rw [iw_add, lt1]; omega
      refine ws_b (k_rat n h k hkl kI hkI) (fun r hr => ?_)
      have hrk : r = l[k] := by rw [hr, List.getD_eq_getElem?_getD, List.getElem?_eq_getElem hkl]; rfl
      unfold f_X5_countOf_J24
      refine ws_i (fun z => ws_l (ws_l (ih (k + 1) _ _ e1 (by omega) ?_ (by omega)))) (fun z => ws_l (ih (k + 1) _ _ e1 (by omega) ?_ (by omega)))
      · rw [htk, cn0_app, if_pos (by rw [← hrk]; exact z), iw_add, lt1]; omega
      · rw [htk, cn0_app, if_neg (by rw [← hrk]; exact z)]; omega
theorem k_countOf (n : Nat) (hn : 70000 ≤ n) {α : hp_T} {a : Nat} {l : List Int32} (h : RWL α a l) : ws (f_X5_countOf n α a 0) (fun r => r.toInt = (cn0 l : Int)) := by
  unfold f_X5_countOf
  have h64 := h.1
  exact k_countOf_L n h n 0 0 0 (by decide) (Nat.zero_le _) (by rw [List.take_zero]; rfl) (by omega)
theorem v_hear_169 (n M : Nat) (mI gI : Int32) (hm : mI.toInt = (M : Int)) (σ0 : ms_T) : ∀ (d k : Nat) (σ : ms_T) (kI : Int32), kI.toInt = (k : Int) → k ≤ M → fr [682] [49] σ0 σ → (∀ j, j < k → ms_E σ 49 j = ms_E σ0 50 j) → pr (f_X12_hear_L169 n d σ mI gI kI) (fun res => res.1 = gI ∧ ms_I res.2 682 = mI ∧ (∀ j, j < M → ms_E res.2 49 j = ms_E σ0 50 j) ∧ fr [682] [49] σ0 res.2) := by
  intro d
  induction d with
  | zero => intro k σ kI _ _ _ _; rw [f_X12_hear_L169.eq_1]; exact pr_0
  | succ d ih =>
    intro k σ kI hk hkM hf h
    have hmb := ib_hi mI
    rw [f_X12_hear_L169.eq_2]
    refine pr_le (fun c => pr_ln (fun τ hτ => pr_s ⟨rfl, ?_, fun j hj => ?_, ?_⟩)) (fun c => pr_g (fun _ _ => pr_g (fun _ _ => pr_l (pr_l ?_))))
    · rw [hτ, mI_sI, if_pos rfl]
    · show ms_E τ 49 j = _
      rw [hτ, mE_sI]
      exact h j (by omega)
    · show fr [682] [49] σ0 τ
      rw [hτ]
      exact fr_tr hf (fr_sI (by decide))
    · have e1 : (kI + 1).toInt = ((k + 1 : Nat) : Int) := by rw [iw_add, lt1]; omega
      rw [cl_n hk]
      refine ih (k + 1) _ _ e1 (by omega) (fr_tr hf (fr_sE (by decide))) (fun j hj => ?_)
      rw [mE_sE]
      by_cases ej : j = k
      · rw [if_pos ⟨rfl, ej⟩, ej]; exact hf.2 50 (by decide) k
      · rw [if_neg (fun q => ej q.2)]; exact h j (by omega)
def XHR (α : hp_T) (x : Nat) : Prop := RSH α (x + 944) ∧ ((hp_R α 608 x = x + 926 ∧ hp_R α 609 x = x + 928) ∨ (hp_R α 608 x = x + 928 ∧ hp_R α 609 x = x + 926)) ∧ hp_R α 300 (x + 926) = x + 927 ∧ hp_R α 300 (x + 928) = x + 929
def hdl (σ : ms_T) : List Int32 := (List.range (ms_I σ 682).toInt.toNat).map (fun j => ms_E σ 49 j)
theorem hdl_e {σ τ : ms_T} (h1 : ms_I τ 682 = ms_I σ 682) (h2 : ∀ j, ms_E τ 49 j = ms_E σ 49 j) : hdl τ = hdl σ := by
  unfold hdl
  rw [h1]
  exact List.map_congr_left (fun j _ => h2 j)
/-- what was heard, on both sides -/
def HDX (α : hp_T) (x : Nat) (σ : ms_T) : Prop := RWL α (hp_R α 608 x) (hdl σ)
def hef (x : Nat) (α β : hp_T) : Prop := (∀ φ b, ¬ (b = x ∧ (φ = 608 ∨ φ = 609)) → ¬ (b = x + 945 ∧ φ = 350) → hp_R β φ b = hp_R α φ b) ∧ hp_K β = hp_K α ∧ hp_Q β = hp_Q α ∧ hp_N β = hp_N α ∧ (∀ φ b, ¬ (b = x ∧ (φ = 600 ∨ φ = 605)) → ¬ (φ = 301 ∧ (b = x + 926 ∨ b = x + 928)) → (b < x + 944 ∨ x + 955 ≤ b) → hp_I β φ b = hp_I α φ b) ∧ ∀ κ b j, ¬ (κ = 20 ∧ (b = x + 927 ∨ b = x + 929)) → (b < x + 944 ∨ x + 955 ≤ b) → hp_E β κ b j = hp_E α κ b j
def hew0 : List Nat := [652, 653, 657, 658, 659, 660, 667, 668, 669, 670, 671, 672, 673, 674, 675, 676]
def hew : List Nat := [652, 653, 657, 658, 659, 660, 667, 668, 669, 670, 671, 672, 673, 674, 675, 676, 682]
def HRO (x : Nat) (α : hp_T) (σ : ms_T) (res r : Int32 × ms_T) (a : Int32 × hp_T) : Prop := a.1 = res.1 ∧ TPX a.2 x res.2 ∧ XHR a.2 x ∧ (HDX α x σ → HDX a.2 x res.2) ∧ (FLX α x σ → FLX a.2 x res.2) ∧ hef x α a.2 ∧ fr hew [42, 43, 44, 49, 50] σ res.2
theorem r_hear (n : Nat) (hn : 70000 ≤ n) (α : hp_T) (x : Nat) (σ : ms_T) (hR : RI σ) (hG : GC α) (hX : XSH α x) (hH : XHR α x) (hRW : RWX α x (ms_E σ 40)) (tp : TPX α x σ) (a : Int32) (res : Int32 × ms_T) (e : f_X12_hear n σ a = some res) :
    ws (f_X11_hear n α x a) (HRO x α σ res res) := by
  obtain ⟨s1, s2, s3, s4, s5, s6⟩ := id hX
  obtain ⟨tp1, tp2⟩ := id tp
  obtain ⟨hS, h89, h926, h928⟩ := id hH
  have hC := hR.2
  have h667 := hR.1.2.1
  unfold f_X12_hear at e
  replace e := ms_bE e
  obtain ⟨x1, ex1, e⟩ := e
  have hin := v_isIn n a 0 (ms_I σ 667) x1 ex1
  rw [lt0] at hin
  have hrefuse : ¬ (0 ≤ a.toInt ∧ a.toInt ≤ (ms_I σ 667).toInt) → ws (f_X11_hear_J12 n x α) (HRO x α σ res res) := by
    intro hno
    have hx1 : x1 = 0 := by
      rcases hin with ⟨-, g⟩ | ⟨g, -⟩
      · exact absurd g hno
      · exact g
    rw [if_pos hx1] at e
    unfold f_X12_hear_J18 at e
    have he := v_is1 n σ 1 (by decide) (k := fun τ => some ((-1 : Int32), τ)) (l := fun τ => ms_b (f_X12_begins n τ a) fun σh5 => f_X12_hear_L35 n n σh5 0 0) (P := fun r => r = (-1, ms_sI (ms_sI σ 653 0) 652 1)) (pr_s rfl) res e
    subst he
    unfold f_X11_hear_J12
    refine ws_hc (k_refuse n α x 1) (fun v β hv => ws_s ?_)
    obtain ⟨rfl, hβ⟩ := hv
    dsimp only at hβ
    subst hβ
    have hfr : fr hew [42, 43, 44, 49, 50] σ (ms_sI (ms_sI σ 653 0) 652 1) := fr_tr (fr_sI (by decide)) (fr_sI (by decide))
    refine ⟨rfl, ⟨by rw [hI_sI, if_neg (fun z => absurd z.1 (by decide))]; exact tp1, tp2⟩, hH, fun h => ?_, fun h => ?_, ⟨fun _ _ _ _ => rfl, rfl, rfl, rfl, fun φ b h1 _ _ => by rw [hI_sI, if_neg (fun z => h1 ⟨z.2, Or.inl z.1⟩)], fun _ _ _ _ _ => rfl⟩, hfr⟩
    · unfold HDX at h ⊢
      show RWL (hp_sI α 600 x 1) (hp_R α 608 x) (hdl (ms_sI (ms_sI σ 653 0) 652 1))
      rw [hdl_e (σ := σ) (τ := ms_sI (ms_sI σ 653 0) 652 1) rfl (fun _ => rfl)]
      exact RWL_st h
    · exact ⟨by rw [hI_sI, if_neg (fun z => absurd z.1 (by decide))]; exact h.1, by rw [hI_sI, if_neg (fun z => absurd z.1 (by decide))]; exact h.2⟩
  unfold f_X11_hear
  refine ws_lt (fun hneg => hrefuse (by rw [lt0] at hneg; omega)) (fun hpos => ws_l ?_)
  rw [lt0] at hpos
  rw [tp1]
  refine ws_le (fun hle => ?_) (fun hgt => hrefuse (by omega))
  have hx1 : x1 = 1 := by
    rcases hin with ⟨g, -⟩ | ⟨-, g⟩
    · exact g
    · exact absurd ⟨by omega, hle⟩ g
  rw [if_neg (by rw [hx1]; decide)] at e
  unfold f_X12_hear_J18 at e
  replace e := v_is0 n σ (k := fun τ => some ((-1 : Int32), τ)) (l := fun τ => ms_b (f_X12_begins n τ a) fun σh5 => f_X12_hear_L35 n n σh5 0 0) (P := fun r => (ms_b (f_X12_begins n (ms_sI (ms_sI σ 653 0) 652 0) a) fun σh5 => f_X12_hear_L35 n n σh5 0 0) = some r) (fun r hr => hr) res e
  obtain ⟨σ0, hσ0⟩ : ∃ τ, τ = ms_sI (ms_sI σ 653 0) 652 0 := ⟨_, rfl⟩
  rw [← hσ0] at e
  have f0 : fr [653, 652] [] σ σ0 := by rw [hσ0]; exact fr_tr (fr_sI (by decide)) (fr_sI (by decide))
  replace e := ms_bE e
  obtain ⟨σ5, eb, e⟩ := e
  obtain ⟨N, hNN⟩ : ∃ N : Nat, a.toInt = (N : Int) := ⟨a.toInt.toNat, by omega⟩
  obtain ⟨t, ht⟩ : ∃ t : Nat → Int32, t = fun j => ms_E σ 47 j := ⟨_, rfl⟩
  have t1 : ∀ j, j < N → hp_E α 24 (x + 921) j = t j := fun j hj => by rw [ht]; exact tp2 j (by omega)
  have t2 : ∀ j, j < N → ms_E σ0 47 j = t j := fun j hj => by rw [f0.2 47 (by decide) j, ht]
  obtain ⟨w, u, h1, h2, h3, hWR, -⟩ := id hRW
  refine ws_l (ws_l ?_)
  rw [s5, s3]
  refine ws_b (r_begin9 n hn (t := t) (N := N) s6.1 s4 (by omega) a hNN t1) (fun γ hγ => ?_)
  obtain ⟨⟨g1, g2, g3, gR, gR2, gK, gQ, gN, gI, gE⟩, g301⟩ := hγ
  obtain ⟨hT, hfb⟩ := g1 σ0 σ5 t2 eb
  have gRx : ∀ φ b, φ ≠ 350 → hp_R γ φ b = hp_R α φ b := fun φ b hφ => gR φ b (fun z => hφ z.1)
  have c5 : ms_E σ5 40 = ms_E σ 40 := funext (fun j => (hfb.2 40 (by decide) j).trans (f0.2 40 (by decide) j))
  have hSγ : RSH γ (x + 944) := by
    obtain ⟨⟨r1, r2, r3⟩, r4, r5, r6, r7, r8, r9⟩ := hS
    exact ⟨⟨by rw [gRx 200 _ (by decide)]; exact r1, by rw [gRx 207 _ (by decide)]; exact r2, by rw [gRx 500 _ (by decide)]; exact r3⟩, by rw [gRx 201 _ (by decide)]; exact r4, by rw [gRx 300 _ (by decide)]; exact r5, by rw [gRx 202 _ (by decide)]; exact r6, by rw [gRx 450 _ (by decide)]; exact r7, by rw [gRx 451 _ (by decide)]; exact r8, by rw [gRx 452 _ (by decide)]; exact r9⟩
  obtain ⟨V, hV⟩ : ∃ V, V = hp_R α 609 x := ⟨_, rfl⟩
  obtain ⟨U, hU⟩ : ∃ U, U = hp_R α 608 x := ⟨_, rfl⟩
  have hUV : (U = x + 926 ∧ V = x + 928) ∨ (U = x + 928 ∧ V = x + 926) := by rw [hU, hV]; exact h89
  have hV3 : hp_R γ 300 V = V + 1 := by
    rw [gRx 300 _ (by decide)]
    rcases hUV with z | z
    · rw [z.2, h928]
    · rw [z.2, h926]
  have hU3 : hp_R γ 300 U = U + 1 := by
    rw [gRx 300 _ (by decide)]
    rcases hUV with z | z
    · rw [z.1, h926]
    · rw [z.1, h928]
  refine ws_l (ws_l (ws_l (ws_l ?_)))
  have wr : x + 1 ≤ w ∧ w + 459 ≤ x + 919 := by omega
  have e550 : hp_I γ 550 w = ms_E σ 40 1 := by rw [gI 550 w (by omega)]; exact hWR.2.1.1
  rw [gRx 616 _ (by decide), s5, gRx 601 _ (by decide), h1, e550, gRx 609 _ (by decide), ← hV]
  have hread : ws (f_X3_readProofs n γ (x + 944) (ms_E σ 40 1) V) (HPO n (x + 944) V res γ σ5) := by
    unfold f_X3_readProofs
    refine ws_l ?_
    obtain ⟨γ1, hγ1⟩ : ∃ z, z = hp_sI γ 203 (x + 944) (ms_E σ 40 1) := ⟨_, rfl⟩
    rw [← hγ1]
    have r1 : rfr (x + 944) γ γ1 := by rw [hγ1]; exact rfr_sI
    have i301 : ∀ b, hp_I γ1 301 b = hp_I γ 301 b := fun b => by rw [hγ1, hI_sI, if_neg (fun z => absurd z.1 (by decide))]
    have gV : 0 ≤ (hp_I γ1 301 V).toInt ∧ (hp_I γ1 301 V).toInt ≤ 64 := by
      rw [i301, gI 301 V (by omega)]; exact hG.1 301 V rfl
    obtain ⟨l, hl⟩ := RWL_any (α := γ1) (a := V) gV.1 gV.2
    refine ws_b (k_rshort n hl 0 (Nat.zero_le _) 0 (by decide)) (fun γ2 hγ2 => ?_)
    obtain ⟨hR2, hef2⟩ := hγ2
    rw [List.take_zero] at hR2
    have hS2 : RSH γ2 (x + 944) := RSH_R hSγ (hef2.1.trans r1.1)
    have eRγ : hp_R γ 200 (x + 944) = x + 944 + 1 := hSγ.1.1
    have eRγ1 : hp_R γ1 200 (x + 944) = x + 944 + 1 := by rw [r1.1]; exact eRγ
    have hT1 : TOK γ1 (x + 944) σ5 t N (tkP t N 0) := TOK_e hT r1.1 r1.2.1 (fun b j => by rw [hγ1]; rfl) (fun φ p q => by rw [hγ1, hI_sI, if_neg (fun z => by omega)])
    have hT2 : TOK γ2 (x + 944) σ5 t N (tkP t N 0) := TOK_e hT1 hef2.1 hef2.2.1 (fun b j => hef2.2.2.2.2.2 24 b j (fun z => absurd z.1 (by decide))) (fun φ p q => hef2.2.2.2.2.1 φ _ (fun z => by omega))
    have hV1 : hp_R γ1 300 V = V + 1 := by rw [r1.1]; exact hV3
    have i203 : hp_I γ2 203 (x + 944) = ms_E σ5 40 1 := by
      rw [hef2.2.2.2.2.1 203 _ (fun z => absurd z.2 (by decide)), hγ1, hI_sI, if_pos ⟨rfl, rfl⟩, c5]
    have hrr : 0 ≤ (hp_I γ2 301 (x + 944 + 3)).toInt ∧ (hp_I γ2 301 (x + 944 + 3)).toInt ≤ 64 := by
      rw [hef2.2.2.2.2.1 301 _ (fun z => by omega), i301, g301]
      exact hG.1 301 (x + 944 + 3) rfl
    have kf : KF (x + 944) γ γ2 := ⟨by rw [hef2.2.2.2.2.1 204 _ (fun z => absurd z.2 (by decide)), hγ1, hI_sI, if_neg (fun z => absurd z.1 (by decide))], by rw [hef2.2.2.2.2.1 205 _ (fun z => absurd z.2 (by decide)), hγ1, hI_sI, if_neg (fun z => absurd z.1 (by decide))]⟩
    refine ws_m (r_proofs_L n hn (x + 944) V t N res (by omega) n γ2 σ5 [] _ 0 0 0 0 n hS2 hT2 i203 (by rw [c5]; exact hC) hrr (by rw [hef2.1]; exact hV1) hR2 (by decide) (by decide) rfl (fun j hj => absurd hj (by simp)) (by decide) (Nat.zero_le _) (by omega) e) (fun b hb => HPO_tr (hfr_tr (hfr_r r1) (hfr_ef hef2 hV1)) fr_rf kf hb)
  refine ws_hc hread (fun v δ hδ => ws_l ?_)
  obtain ⟨⟨dR, dK, dQ, dN, dI, dE⟩, τ, mI, gI', fτ, e, hc⟩ := hδ
  replace dR : hp_R δ = hp_R γ := dR
  replace dI : ∀ φ b, ¬ (φ = 301 ∧ b = V) → (b < x + 944 ∨ x + 944 + 11 ≤ b) → hp_I δ φ b = hp_I γ φ b := dI
  replace dE : ∀ κ b j, ¬ (κ = 20 ∧ b = V + 1) → (b < x + 944 ∨ x + 944 + 11 ≤ b) → hp_E δ κ b j = hp_E γ κ b j := dE
  unfold f_X12_hear_J153 at e
  replace e := ms_bE e
  obtain ⟨υ, eυ, e⟩ := e
  obtain ⟨n7, n8, n9, n2, fυ⟩ := v_ends n τ υ eυ
  have ff0 : fr hew0 [42, 43, 44, 50] σ υ := fr_tr (fr_sb f0 (by decide) (by decide)) (fr_tr (fr_sb hfb (by decide) (by decide)) (fr_tr (fr_sb fτ (by decide) (by decide)) (fr_sb fυ (by decide) (by decide))))
  have ff : fr hew [42, 43, 44, 49, 50] σ υ := fr_sb ff0 (by decide) (by decide)
  have e670 : ms_I υ 670 = ms_I τ 670 := fυ.1 670 (by decide)
  obtain ⟨ε, hε⟩ : ∃ z, z = hp_sI δ 605 x 0 := ⟨_, rfl⟩
  rw [← hε]
  have eR : hp_R ε = hp_R γ := by rw [hε]; exact dR
  have eI : ∀ φ b, hp_I ε φ b = if φ = 605 ∧ b = x then 0 else hp_I δ φ b := fun φ b => by rw [hε, hI_sI]
  have eE : hp_E ε = hp_E δ := by rw [hε]; rfl
  have eK : hp_K ε = hp_K α := by rw [hε]; exact dK.trans gK
  have eQ : hp_Q ε = hp_Q α := by rw [hε]; exact dQ.trans gQ
  have eN : hp_N ε = hp_N α := by rw [hε]; exact dN.trans gN
  -- the row heard ahead
  have hUd : ∀ l, RWL α U l → ∀ β : hp_T, hp_R β 300 U = U + 1 → hp_I β 301 U = hp_I δ 301 U → (∀ j, hp_E β 20 (U + 1) j = hp_E δ 20 (U + 1) j) → RWL β U l := fun l hl β b1 b2 b3 => by
    refine ⟨hl.1, by rw [b2, dI 301 U (by omega) (by omega), gI 301 U (by omega)]; exact hl.2.1, fun k hk => ?_⟩
    have := hl.2.2 k hk
    rw [show hp_R α 300 U = U + 1 by rw [← gRx 300 _ (by decide)]; exact hU3] at this
    rw [b1, b3, dE 20 (U + 1) k (by omega) (by omega), gE]
    exact this
  rcases hc with ⟨v0, hB⟩ | ⟨v1, h670, ⟨yl, hRy, hy20, hmI, hgI, hWy⟩, hKF⟩
  · replace v0 : v = 0 := v0
    subst v0
    replace hB : BAD δ (x + 944) τ := hB
    have hp := hB.1
    rw [if_neg (fun z => by have := il_le z; rw [e670, lt0] at this; omega)] at e
    cases e
    refine ws_i (fun _ => ?_) (fun z => absurd rfl z)
    refine ws_hc (k_refuse n ε x 9) (fun r ζ hz => ws_s ?_)
    obtain ⟨z1, z2⟩ := hz
    replace z1 : r = -1 := z1
    replace z2 : ζ = hp_sI ε 600 x 9 := z2
    have zI : ∀ φ b, φ ≠ 600 → hp_I ζ φ b = hp_I ε φ b := fun φ b hφ => by rw [z2, hI_sI, if_neg (fun z => hφ z.1)]
    have zR : hp_R ζ = hp_R γ := by rw [z2]; exact eR
    have zE : hp_E ζ = hp_E δ := by rw [z2]; exact eE
    refine ⟨z1, ⟨?_, fun j hj => ?_⟩, ⟨RSH_R hSγ zR, ?_, ?_, ?_⟩, fun h => ?_, fun _ => ⟨?_, ?_⟩, ⟨fun φ b p q => ?_, by rw [z2]; exact eK, by rw [z2]; exact eQ, by rw [z2]; exact eN, fun φ b p q r => ?_, fun κ b j p q => ?_⟩, ff⟩
    · show hp_I ζ 605 x = ms_I υ 667
      rw [zI 605 x (by decide), eI, if_pos ⟨rfl, rfl⟩, n7]
    · replace hj : (j : Int) < (ms_I υ 667).toInt := hj
      rw [n7, lt0] at hj; omega
    · show (hp_R ζ 608 x = _ ∧ _) ∨ _
      rw [zR, gRx 608 _ (by decide), gRx 609 _ (by decide)]; exact h89
    · show hp_R ζ 300 _ = _
      rw [zR, gRx 300 _ (by decide)]; exact h926
    · show hp_R ζ 300 _ = _
      rw [zR, gRx 300 _ (by decide)]; exact h928
    · unfold HDX at h ⊢
      rw [hdl_e (σ := σ) (τ := υ) (ff0.1 682 (by decide)) (fun j => ff0.2 49 (by decide) j)]
      show RWL ζ (hp_R ζ 608 x) _
      rw [zR, gRx 608 _ (by decide), ← hU]
      rw [← hU] at h
      exact hUd _ h ζ (by rw [zR]; exact hU3) (by rw [zI 301 _ (by decide), eI, if_neg (fun z => absurd z.1 (by decide))]) (fun j => by rw [zE])
    · show hp_I ζ 204 _ = ms_I υ 668
      rw [zI 204 _ (by decide), eI, if_neg (fun z => absurd z.1 (by decide)), n8]; exact hB.2.1
    · show hp_I ζ 205 _ = ms_I υ 669
      rw [zI 205 _ (by decide), eI, if_neg (fun z => absurd z.1 (by decide)), n9, if_neg (by omega)]; exact hB.2.2
    · show hp_R ζ φ b = _
      rw [zR, gR φ b (fun z => q ⟨z.2, z.1⟩)]
    · show hp_I ζ φ b = _
      rw [z2, hI_sI, if_neg (fun z => p ⟨z.2, Or.inl z.1⟩), eI, if_neg (fun z => p ⟨z.2, Or.inr z.1⟩), dI φ b (fun z => q ⟨z.1, by omega⟩) (by omega), gI φ b (by omega)]
    · show hp_E ζ κ b j = _
      rw [zE, dE κ b j (fun z => p ⟨z.1, by omega⟩) (by omega), gE]
  · replace v1 : v = 1 := v1
    subst v1
    replace hRy : RWL δ V yl := hRy
    replace hKF : KF (x + 944) γ δ := hKF
    rw [if_pos (by rw [e670, h670]; decide)] at e
    obtain ⟨p1, p2, p3, p4⟩ := v_hear_169 n yl.length mI gI' hmI υ n 0 υ 0 (by decide) (Nat.zero_le _) fr_rf (fun j hj => absurd hj (Nat.not_lt_zero _)) res e
    refine ws_i (fun z => absurd z (by decide)) (fun _ => ws_l (ws_l ?_))
    rw [show hp_R ε 609 x = V by rw [eR, gRx 609 _ (by decide)]; exact hV.symm, show hp_R ε 608 x = U by rw [eR, gRx 608 _ (by decide)]; exact hU.symm]
    obtain ⟨ζ, hζ⟩ : ∃ z, z = hp_sR (hp_sR ε 608 x V) 609 x U := ⟨_, rfl⟩
    refine ws_ln (fun ε1 hε1 => ws_ln (fun ζ' hζ' => ?_))
    have hζζ : ζ' = ζ := by rw [hζ', hε1, hζ]
    rw [hζζ]
    clear hζζ hζ' ε1 hε1 ζ'
    have zR : ∀ φ b, hp_R ζ φ b = if φ = 609 ∧ b = x then U else if φ = 608 ∧ b = x then V else hp_R γ φ b := fun φ b => by rw [hζ, hR_sR, hR_sR, eR]
    have zRn : ∀ φ b, ¬ (b = x ∧ (φ = 608 ∨ φ = 609)) → hp_R ζ φ b = hp_R γ φ b := fun φ b hb => by rw [zR, if_neg (fun h => hb ⟨h.2, Or.inr h.1⟩), if_neg (fun h => hb ⟨h.2, Or.inl h.1⟩)]
    have zI : hp_I ζ = hp_I ε := by rw [hζ]; rfl
    have zE : hp_E ζ = hp_E δ := by rw [hζ]; exact eE
    have z608 : hp_R ζ 608 x = V := by rw [zR, if_neg (fun h => absurd h.1 (by decide)), if_pos ⟨rfl, rfl⟩]
    have z609 : hp_R ζ 609 x = U := by rw [zR, if_pos ⟨rfl, rfl⟩]
    refine ws_l ?_
    rw [z608]
    have zV3 : hp_R ζ 300 V = V + 1 := by rw [zRn 300 V (by omega)]; exact hV3
    have dV3 : hp_R δ 300 V = V + 1 := by rw [dR]; exact hV3
    have hRζ : RWL ζ V yl := ⟨hRy.1, by rw [zI, eI, if_neg (fun z => absurd z.1 (by decide))]; exact hRy.2.1, fun k hk => by rw [zV3, zE, ← dV3]; exact hRy.2.2 k hk⟩
    refine ws_b (k_countOf n hn hRζ) (fun r hr => ws_hc (k_answer n ζ x r) (fun v2 η hη => ws_s ?_))
    obtain ⟨y1, y2⟩ := hη
    replace y1 : v2 = r := y1
    replace y2 : η = hp_sI ζ 600 x 0 := y2
    have yR : ∀ φ b, hp_R η φ b = hp_R ζ φ b := fun φ b => by rw [y2]; rfl
    have yI : ∀ φ b, φ ≠ 600 → hp_I η φ b = hp_I ε φ b := fun φ b hφ => by rw [y2, hI_sI, if_neg (fun z => hφ z.1), zI]
    have yE : hp_E η = hp_E δ := by rw [y2]; exact zE
    have h682 : ms_I res.2 682 = mI := p2
    have hhd : hdl res.2 = yl := by
      unfold hdl
      rw [h682, show mI.toInt.toNat = yl.length by omega]
      refine List.ext_getElem (by rw [List.length_map, List.length_range]) (fun i g1 g2 => ?_)
      rw [List.getElem_map, List.getElem_range]
      have q1 := p3 i g2
      have q2 := hWy i g2
      rw [List.getElem?_eq_getElem g2] at q2
      rw [q1, fυ.2 50 (by decide) i]
      exact Option.some.inj q2
    have e7 : ms_I res.2 667 = 0 := by rw [p4.1 667 (by decide)]; exact n7
    have f2 : fr hew [42, 43, 44, 49, 50] σ res.2 := fr_tr ff (fr_sb p4 (by decide) (by decide))
    refine ⟨?_, ⟨?_, fun j hj => ?_⟩, ⟨?_, ?_, ?_, ?_⟩, fun _ => ?_, fun _ => ⟨?_, ?_⟩, ⟨fun φ b p q => ?_, ?_, ?_, ?_, fun φ b p q r => ?_, fun κ b j p q => ?_⟩, f2⟩
    · show v2 = res.1
      rw [y1, p1]
      exact Int32.toInt_inj.mp (by rw [hr, hgI])
    · show hp_I η 605 x = _
      rw [yI 605 x (by decide), eI, if_pos ⟨rfl, rfl⟩, e7]
    · rw [e7, lt0] at hj; omega
    · obtain ⟨⟨r1, r2, r3⟩, r4, r5, r6, r7, r8, r9⟩ := hSγ
      have q : ∀ φ b, ¬ b = x → hp_R η φ b = hp_R γ φ b := fun φ b hb => by rw [yR, zRn φ b (fun z => hb z.1)]
      exact ⟨⟨by rw [q 200 _ (by omega)]; exact r1, by rw [q 207 _ (by omega)]; exact r2, by rw [q 500 _ (by omega)]; exact r3⟩, by rw [q 201 _ (by omega)]; exact r4, by rw [q 300 _ (by omega)]; exact r5, by rw [q 202 _ (by omega)]; exact r6, by rw [q 450 _ (by omega)]; exact r7, by rw [q 451 _ (by omega)]; exact r8, by rw [q 452 _ (by omega)]; exact r9⟩
    · show (hp_R η 608 x = _ ∧ _) ∨ _
      rw [yR, yR, z608, z609]; omega
    · show hp_R η 300 _ = _
      rw [yR, zRn 300 _ (by omega), gRx 300 _ (by decide)]; exact h926
    · show hp_R η 300 _ = _
      rw [yR, zRn 300 _ (by omega), gRx 300 _ (by decide)]; exact h928
    · unfold HDX
      show RWL η (hp_R η 608 x) _
      rw [hhd, yR, z608, y2]
      exact RWL_st hRζ
    · show hp_I η 204 _ = ms_I res.2 668
      rw [yI 204 _ (by decide), eI, if_neg (fun z => absurd z.1 (by decide)), hKF.1, g2, p4.1 668 (by decide), n8, h670]
    · show hp_I η 205 _ = ms_I res.2 669
      rw [yI 205 _ (by decide), eI, if_neg (fun z => absurd z.1 (by decide)), hKF.2, g3, p4.1 669 (by decide), n9, if_pos (by rw [h670]; decide)]
    · show hp_R η φ b = _
      rw [yR, zRn φ b p, gR φ b (fun z => q ⟨z.2, z.1⟩)]
    · show hp_K η = _
      rw [y2]
      show hp_K ζ = _
      rw [hζ]; exact eK
    · show hp_Q η = _
      rw [y2]
      show hp_Q ζ = _
      rw [hζ]; exact eQ
    · show hp_N η = _
      rw [y2]
      show hp_N ζ = _
      rw [hζ]; exact eN
    · show hp_I η φ b = _
      rw [y2, hI_sI, if_neg (fun z => p ⟨z.2, Or.inl z.1⟩), zI, eI, if_neg (fun z => p ⟨z.2, Or.inr z.1⟩), dI φ b (fun z => q ⟨z.1, by omega⟩) (by omega), gI φ b (by omega)]
    · show hp_E η κ b j = _
      rw [yE, dE κ b j (fun z => p ⟨z.1, by omega⟩) (by omega), gE]
/-! ===== beside LX: where the reader's rows and those of what was heard lie; the fault ===== -/
theorem in_X3_300 (α : hp_T) (h a : Nat) (ha : a < h) : hp_R (F_X3_init α h a) 300 (h + 2) = h + 3 := by
  rw [(tl_X3_5 α h a (h + 2) (by omega) (by omega)).2.2.2.1 300]
  exact (fd_X5_300 (F_X3_init_4 α h a) (h + (3)) (h + (2)) (by omega)).trans (by omega)
theorem in_X3_450 (α : hp_T) (h a : Nat) (ha : a < h) : hp_R (F_X3_init α h a) 450 (h + 4) = h + 5 ∧ hp_R (F_X3_init α h a) 451 (h + 4) = h + 6 ∧ hp_R (F_X3_init α h a) 452 (h + 4) = h + 7 := by
  have q := tl_X3_8 α h a (h + 4) (by omega) (by omega)
  refine ⟨?_, ?_, ?_⟩
  · rw [q.2.2.2.1 450]
    exact (fd_X8_450 (F_X3_init_7 α h a) (h + (5)) (h + (4)) (by omega)).trans (by omega)
  · rw [q.2.2.2.1 451]
    exact (fd_X8_451 (F_X3_init_7 α h a) (h + (5)) (h + (4)) (by omega)).trans (by omega)
  · rw [q.2.2.2.1 452]
    exact (fd_X8_452 (F_X3_init_7 α h a) (h + (5)) (h + (4)) (by omega)).trans (by omega)
theorem XHR_0 (α : hp_T) (x : Nat) (hX : XSH (F_X11_init α (x + 1) x) x) : XHR (F_X11_init α (x + 1) x) x := by
  have ha : x < x + 1 := by omega
  have q : ∀ b, x + 944 ≤ b → b < x + 955 → ∀ φ, hp_R (F_X11_init α (x + 1) x) φ b = hp_R (F_X3_init (F_X11_init_41 α (x + 1) x) (x + 1 + 944) (x + 1 + 943)) φ b := fun b h1 h2 φ => (tl_X11_42 α (x + 1) x b (by omega) (by omega)).2.2.2.1 φ
  have w := in_X3_450 (F_X11_init_41 α (x + 1) x) (x + 1 + 944) (x + 1 + 943) (by omega)
  refine ⟨⟨hX.2.2.2.2.2, ?_, ?_, ?_, ?_, ?_, ?_⟩, Or.inl ⟨?_, ?_⟩, ?_, ?_⟩
  · rw [q _ (by omega) (by omega), show x + 944 = x + 1 + 943 by omega]
    exact (fd_X3_201 _ _ _ (by omega)).trans (by omega)
  · rw [q _ (by omega) (by omega), show x + 944 + 3 = x + 1 + 944 + 2 by omega]
    exact (in_X3_300 _ _ _ (by omega)).trans (by omega)
  · rw [q _ (by omega) (by omega), show x + 944 = x + 1 + 943 by omega]
    exact (fd_X3_202 _ _ _ (by omega)).trans (by omega)
  · rw [q _ (by omega) (by omega), show x + 944 + 5 = x + 1 + 944 + 4 by omega]
    exact w.1.trans (by omega)
  · rw [q _ (by omega) (by omega), show x + 944 + 5 = x + 1 + 944 + 4 by omega]
    exact w.2.1.trans (by omega)
  · rw [q _ (by omega) (by omega), show x + 944 + 5 = x + 1 + 944 + 4 by omega]
    exact w.2.2.trans (by omega)
  · rw [fd_X11_608 α (x + 1) x ha]
  · rw [fd_X11_609 α (x + 1) x ha]
  · have r := tl_X11_21 α (x + 1) x (x + 926) (by omega) (by omega)
    have f : hp_R (F_X5_init (F_X11_init_20 α (x + 1) x) (x + 1 + 926) (x + 1 + 925)) 300 (x + 1 + 925) = _ := fd_X5_300 _ _ _ (by omega)
    rw [r.2.2.2.1 300, show x + 926 = x + 1 + 925 by omega]
    exact f.trans (by omega)
  · have r := tl_X11_24 α (x + 1) x (x + 928) (by omega) (by omega)
    have f : hp_R (F_X5_init (F_X11_init_23 α (x + 1) x) (x + 1 + 928) (x + 1 + 927)) 300 (x + 1 + 927) = _ := fd_X5_300 _ _ _ (by omega)
    rw [r.2.2.2.1 300, show x + 928 = x + 1 + 927 by omega]
    exact f.trans (by omega)
theorem FLX_0 (α : hp_T) (x : Nat) (σ : ms_T) (hσ : ms_i0 σ) : FLX (F_X11_init α (x + 1) x) x σ := by
  obtain ⟨s1, -⟩ := hσ
  have q := tl_X11_42 α (x + 1) x (x + 944) (by omega) (by omega)
  have f4 : hp_I (F_X3_init (F_X11_init_41 α (x + 1) x) (x + 1 + 944) (x + 1 + 943)) 204 (x + 1 + 943) = _ := fd_X3_204 _ _ _ (by omega)
  have f5 : hp_I (F_X3_init (F_X11_init_41 α (x + 1) x) (x + 1 + 944) (x + 1 + 943)) 205 (x + 1 + 943) = _ := fd_X3_205 _ _ _ (by omega)
  refine ⟨?_, ?_⟩
  · rw [q.2.1 204, s1 668, if_pos (by decide), show x + 944 = x + 1 + 943 by omega]
    exact f4
  · rw [q.2.1 205, s1 669, if_pos (by decide), show x + 944 = x + 1 + 943 by omega]
    exact f5
def CX (α : hp_T) (x : Nat) (σ : ms_T) : Prop := XHR α x ∧ (flP → FLX α x σ)
theorem CX_0 (α : hp_T) (x : Nat) (σ : ms_T) (hσ : ms_i0 σ) (hX : XSH (F_X11_init α (x + 1) x) x) : CX (F_X11_init α (x + 1) x) x σ := ⟨XHR_0 α x hX, fun _ => FLX_0 α x σ hσ⟩
def okC (φ : Nat) : Bool := [200, 201, 202, 207, 300, 450, 451, 452, 500, 608, 609].contains φ
/-- the addresses of it -/
def inC (x b : Nat) : Prop := b = x ∨ b = x + 926 ∨ b = x + 928 ∨ b = x + 944 ∨ b = x + 947 ∨ b = x + 949 ∨ b = x + 953
theorem XHR_f {α β : hp_T} {x : Nat} (h : XHR α x) (eR : ∀ φ b, inC x b → okC φ = true → hp_R β φ b = hp_R α φ b) : XHR β x := by
  obtain ⟨⟨⟨r1, r2, r3⟩, r4, r5, r6, r7, r8, r9⟩, h2, h3, h4⟩ := h
  refine ⟨⟨⟨?_, ?_, ?_⟩, ?_, ?_, ?_, ?_, ?_, ?_⟩, ?_, ?_, ?_⟩
  · rw [eR 200 _ (by unfold inC; omega) rfl]; exact r1
  · rw [eR 207 _ (by unfold inC; omega) rfl]; exact r2
  · rw [eR 500 _ (by unfold inC; omega) rfl]; exact r3
  · rw [eR 201 _ (by unfold inC; omega) rfl]; exact r4
  · rw [eR 300 _ (by unfold inC; omega) rfl]; exact r5
  · rw [eR 202 _ (by unfold inC; omega) rfl]; exact r6
  · rw [eR 450 _ (by unfold inC; omega) rfl]; exact r7
  · rw [eR 451 _ (by unfold inC; omega) rfl]; exact r8
  · rw [eR 452 _ (by unfold inC; omega) rfl]; exact r9
  · rw [eR 608 _ (by unfold inC; omega) rfl, eR 609 _ (by unfold inC; omega) rfl]; exact h2
  · rw [eR 300 _ (by unfold inC; omega) rfl]; exact h3
  · rw [eR 300 _ (by unfold inC; omega) rfl]; exact h4
def wcx (w : cw_W) : Bool := w.1.all (fun φ => !(φ == 204) && !(φ == 205)) && w.2.1.all (fun φ => !(okC φ))
theorem wcx_I {w : cw_W} (h : wcx w = true) {φ : Nat} (hφ : φ = 204 ∨ φ = 205) : φ ∉ w.1 := fun q => by
  simp only [wcx, Bool.and_eq_true, List.all_eq_true] at h
  have := h.1 φ q
  rcases hφ with e | e <;> rw [e] at this <;> simp at this
theorem wcx_R {w : cw_W} (h : wcx w = true) {φ : Nat} (hφ : okC φ = true) : φ ∉ w.2.1 := fun q => by
  simp only [wcx, Bool.and_eq_true, List.all_eq_true] at h
  have := h.2 φ q
  rw [hφ] at this; simp at this
theorem CX_cw {w : cw_W} {α β : hp_T} {x : Nat} {σ : ms_T} (h : CX α x σ) (c : cw w α β) (hw : wcx w = true) : CX β x σ := by
  obtain ⟨c0, c1, c2, c3, c4, c5, c6, c7, c8⟩ := c
  refine ⟨XHR_f h.1 (fun φ b _ r => by rw [c6 φ (wcx_R hw r)]), fun p => ⟨?_, ?_⟩⟩
  · rw [c5 204 (wcx_I hw (Or.inl rfl))]; exact (h.2 p).1
  · rw [c5 205 (wcx_I hw (Or.inr rfl))]; exact (h.2 p).2
theorem CX_cg {w : cw_W} {α β : hp_T} {x : Nat} {σ : ms_T} (g : GC α) (hk : hp_K α x = 12) (hX : XSH α x) (h : CX α x σ) (c : cg w α β) (hw : wcx w = true) : CX β x σ := by
  obtain ⟨z1, z2, z3, z4, z5, z6, z7, z8⟩ := id hX
  obtain ⟨⟨⟨r1, r2, r3⟩, r4, r5, r6, r7, r8, r9⟩, h2, h3, h4⟩ := id h.1
  have k44 : hp_K α (x + 944) = 4 := gkR g hk z5 rfl (by decide) (by decide)
  have k26 : hp_K α (x + 926) = 6 ∧ hp_K α (x + 928) = 6 := by
    rcases h2 with q | q
    · exact ⟨gkR g hk q.1 rfl (by decide) (by decide), gkR g hk q.2 rfl (by decide) (by decide)⟩
    · exact ⟨gkR g hk q.2 rfl (by decide) (by decide), gkR g hk q.1 rfl (by decide) (by decide)⟩
  have hK : ∀ b, inC x b → hp_K α b ≠ 0 := by
    intro b hb
    rcases hb with e | e | e | e | e | e | e
    · rw [e]; exact nz hk (by decide)
    · rw [e]; exact nz k26.1 (by decide)
    · rw [e]; exact nz k26.2 (by decide)
    · rw [e]; exact nz k44 (by decide)
    · rw [e]; exact nz (gkR g k44 r4 rfl (by decide) (by decide)) (by decide)
    · rw [e]; exact nz (gkR g k44 r6 rfl (by decide) (by decide)) (by decide)
    · rw [e]; exact nz (gkR g k44 r2 rfl (by decide) (by decide)) (by decide)
  obtain ⟨c0, c1, c2, c3, -⟩ := c
  refine ⟨XHR_f h.1 (fun φ b p r => c3 φ b (hK b p) (wcx_R hw r)), fun p => ⟨?_, ?_⟩⟩
  · rw [c2 204 _ (nz k44 (by decide)) (wcx_I hw (Or.inl rfl))]; exact (h.2 p).1
  · rw [c2 205 _ (nz k44 (by decide)) (wcx_I hw (Or.inr rfl))]; exact (h.2 p).2
theorem CX_C {α β : hp_T} {x : Nat} {σ : ms_T} (g : GC α) (hk : hp_K α x = 12) (hX : XSH α x) (h : CX α x σ) (c : ∀ q, hp_K α q ≠ 0 → saC α β q) : CX β x σ := by
  obtain ⟨z1, z2, z3, z4, z5, z6, z7, z8⟩ := id hX
  obtain ⟨⟨⟨r1, r2, r3⟩, r4, r5, r6, r7, r8, r9⟩, h2, h3, h4⟩ := id h.1
  have k44 : hp_K α (x + 944) = 4 := gkR g hk z5 rfl (by decide) (by decide)
  have k26 : hp_K α (x + 926) = 6 ∧ hp_K α (x + 928) = 6 := by
    rcases h2 with q | q
    · exact ⟨gkR g hk q.1 rfl (by decide) (by decide), gkR g hk q.2 rfl (by decide) (by decide)⟩
    · exact ⟨gkR g hk q.2 rfl (by decide) (by decide), gkR g hk q.1 rfl (by decide) (by decide)⟩
  have hK : ∀ b, inC x b → hp_K α b ≠ 0 := by
    intro b hb
    rcases hb with e | e | e | e | e | e | e
    · rw [e]; exact nz hk (by decide)
    · rw [e]; exact nz k26.1 (by decide)
    · rw [e]; exact nz k26.2 (by decide)
    · rw [e]; exact nz k44 (by decide)
    · rw [e]; exact nz (gkR g k44 r4 rfl (by decide) (by decide)) (by decide)
    · rw [e]; exact nz (gkR g k44 r6 rfl (by decide) (by decide)) (by decide)
    · rw [e]; exact nz (gkR g k44 r2 rfl (by decide) (by decide)) (by decide)
  have c4 := c (x + 944) (nz k44 (by decide))
  refine ⟨XHR_f h.1 (fun φ b p r => (c b (hK b p)).2.2.1 φ), fun p => ⟨?_, ?_⟩⟩
  · rw [c4.2.1 204 (by decide)]; exact (h.2 p).1
  · rw [c4.2.1 205 (by decide)]; exact (h.2 p).2
theorem CX_k {α β : hp_T} {x : Nat} {σ τ : ms_T} (h : CX α x σ) (c : mo α β) (k : kf σ τ) : CX β x τ := by
  obtain ⟨c1, c2, c3, c4, c5, c6, c7⟩ := c
  refine ⟨XHR_f h.1 (fun φ b _ r => by rw [c2]), fun p => ⟨?_, ?_⟩⟩
  · rw [c6 204 (by decide), k.1 668 rfl]; exact (h.2 p).1
  · rw [c6 205 (by decide), k.1 669 rfl]; exact (h.2 p).2
theorem CX_m {α β : hp_T} {x : Nat} {σ : ms_T} (h : CX α x σ) (c : mo α β) : CX β x σ := by
  obtain ⟨c1, c2, c3, c4, c5, c6, c7⟩ := c
  refine ⟨XHR_f h.1 (fun φ b _ r => by rw [c2]), fun p => ⟨?_, ?_⟩⟩
  · rw [c6 204 (by decide)]; exact (h.2 p).1
  · rw [c6 205 (by decide)]; exact (h.2 p).2
theorem CX_load {α β : hp_T} {x : Nat} {σ τ : ms_T} (h : CX α x σ) (hL : LXW β x τ) (hf : ldf x α β) : CX β x τ :=
  ⟨XHR_f h.1 (fun φ b q r => hf.1 φ b (fun z => by rcases z.2 with e | e <;> rw [e] at r <;> cases r) (fun z => by rw [z.2] at r; cases r)), hL.2.2.2.2.1⟩
theorem LXW_LXc {α : hp_T} {x : Nat} {σ : ms_T} (g : GC α) (h : LX α x σ) (hc : CX α x σ) : LXW α x σ := ⟨h.2.1, RWX_Z g h.2.2.1, h.2.2.2.1, h.2.2.2.2.1, hc.2, fun p => absurd p (fun q => q)⟩
theorem LX_heard {α : hp_T} {x : Nat} {σ : ms_T} {res : Int32 × ms_T} {a : Int32 × hp_T} (h : LX α x σ) (o : HRO x α σ res res a) (hC : rC (ms_E res.2 40)) : LX a.2 x res.2 := by
  obtain ⟨-, hT, -, -, -, ⟨f1, f2, f3, f4, f5, f6⟩, k⟩ := o
  obtain ⟨h0, h1, ⟨w, u, g1, g2, g3, g4, g5⟩, h3, -, l, h5, h6⟩ := h
  have e40 : ms_E res.2 40 = ms_E σ 40 := funext (k.2 40 (by decide))
  have eR : ∀ φ b, okR φ = true → hp_R a.2 φ b = hp_R α φ b := fun φ b r => f1 φ b (fun z => by rcases z.2 with e | e <;> rw [e] at r <;> cases r) (fun z => by rw [z.2] at r; cases r)
  refine ⟨hC, XSH_f h1 (fun φ b _ r => eR φ b r) (by rw [f2]), ?_, by rw [e40]; exact h3, hT, l, TYS_e h5 (k.1 664 (by decide)) (fun j => k.2 45 (by decide) j), TYC_f h6 (fun φ b _ r => eR φ b r) (fun b p q => f5 501 b (fun z => by omega) (fun z => by omega) (by omega)) (fun b j p q => f6 27 b j (fun z => by omega) (by omega))⟩
  rw [e40]
  exact ⟨w, u, by rw [eR 601 _ rfl]; exact g1, by rw [eR 602 _ rfl]; exact g2, g3, WZ_z g4 h0 (fun φ b p q r => eR φ b r) (fun κ b j p q => by rw [f3]) (fun φ b p q r => f5 φ b (fun z => by rcases z.2 with e | e <;> rw [e] at r <;> cases r) (fun z => by rw [z.1] at r; cases r) (by omega)) (fun κ b j p q r => f6 κ b j (fun z => by omega) (by omega)), SHW_z g5 (fun φ b p q r => eR φ b r) (fun κ b j p q => by rw [f3])⟩
theorem CX_hear {α : hp_T} {x : Nat} {σ : ms_T} {res : Int32 × ms_T} {a : Int32 × hp_T} (h : CX α x σ) (o : HRO x α σ res res a) : CX a.2 x res.2 := ⟨o.2.2.1, fun p => o.2.2.2.2.1 (h.2 p)⟩
/-! ===== fault ===== -/
def fuA (a b w : Int32) : Int32 := if w = 0 then a else if w = 1 then b else -1
theorem fu_eq {α : hp_T} {x : Nat} {σ : ms_T} (h : FLX α x σ) (w : Int32) : fuA (hp_I α 204 (x + 944)) (hp_I α 205 (x + 944)) w = fuA (ms_I σ 668) (ms_I σ 669) w := by rw [h.1, h.2]
theorem k_fault (n : Nat) (α : hp_T) (x : Nat) (h6 : hp_R α 616 x = x + 944) (w : Int32) : ws (f_X11_fault n α x w) (fun r => r = fuA (hp_I α 204 (x + 944)) (hp_I α 205 (x + 944)) w) := by
  unfold f_X11_fault fuA
  by_cases h0 : w = 0
  · rw [if_pos h0, if_pos h0]
    refine ws_l (ws_l (ws_s ?_))
    rw [h6]
  · rw [if_neg h0, if_neg h0]
    by_cases h1 : w = 1
    · rw [if_pos h1, if_pos h1]
      refine ws_l (ws_l (ws_s ?_))
      rw [h6]
    · rw [if_neg h1, if_neg h1]
      exact ws_s rfl
theorem v_fault (n : Nat) (σ : ms_T) (w : Int32) : pr (f_X12_fault n σ w) (fun res => res.1 = fuA (ms_I σ 668) (ms_I σ 669) w) := by
  unfold f_X12_fault fuA
  refine pr_l ?_
  by_cases h0 : w = 0
  · rw [if_pos h0, if_pos h0]
    exact pr_s rfl
  · rw [if_neg h0, if_neg h0]
    by_cases h1 : w = 1
    · rw [if_pos h1, if_pos h1]
      exact pr_s rfl
    · rw [if_neg h1, if_neg h1]
      exact pr_s rfl
