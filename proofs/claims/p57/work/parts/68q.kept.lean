/-! ===== kept: what two ways share ===== -/
def e2 (p q : Nat × Nat × Bool) : Bool := p.1 == q.1 && p.2.1 == q.2.1
theorem e2_iff {p q : Nat × Nat × Bool} : e2 p q = true ↔ p.1 = q.1 ∧ p.2.1 = q.2.1 := by
  unfold e2
  rw [Bool.and_eq_true, beq_iff_eq, beq_iff_eq]
def cA (w1 w2 : List (Nat × Nat × Bool)) : Nat := (w1.map (fun p => w2.countP (e2 p))).sum
def kA (w1 w2 : List (Nat × Nat × Bool)) : Nat := w2.countP (fun q => w1.any (fun p => e2 p q))
theorem countP_or {A : Type} {f g : A → Bool} : ∀ l : List A, (∀ x ∈ l, ¬ (f x = true ∧ g x = true)) → l.countP (fun x => f x || g x) = l.countP f + l.countP g := by
  intro l
  induction l with
  | nil => intro _; rfl
  | cons a l ih =>
    intro h
    have h1 := ih (fun x hx => h x (List.mem_cons_of_mem _ hx))
    have h2 := h a List.mem_cons_self
    rw [List.countP_cons, List.countP_cons, List.countP_cons, h1]
    cases hf : f a <;> cases hg : g a <;> simp [hf, hg] at h2 ⊢ <;> omega
theorem cA_kA : ∀ (w1 w2 : List (Nat × Nat × Bool)), w1.Pairwise (fun p q => p.1 ≠ q.1) → cA w1 w2 = kA w1 w2 := by
  intro w1 w2
  induction w1 with
  | nil =>
    intro _
    unfold cA kA
    simp
  | cons p w1 ih =>
    intro h
    rw [List.pairwise_cons] at h
    have h1 := ih h.2
    unfold cA kA at h1 ⊢
    rw [List.map_cons, List.sum_cons, h1, ← countP_or]
    · rfl
    · intro q _ hq
      obtain ⟨ha, hb⟩ := hq
      obtain ⟨p', hp', hb⟩ := List.any_eq_true.mp hb
      exact h.1 p' hp' ((e2_iff.mp ha).1.trans (e2_iff.mp hb).1.symm)
theorem wyT_rng : ∀ (e i f m : Nat), i < m → ∀ q ∈ wyT e i f m, f ≤ q.1 ∧ q.1 < f + m := by
  intro e
  induction e with
  | zero => intro i f m _ q hq; rw [wyT] at hq; cases hq
  | succ e ih =>
    intro i f m him q hq
    rw [wyT] at hq
    by_cases h1 : m ≤ 1
    · rw [if_pos h1] at hq; cases hq
    · rw [if_neg h1] at hq
      have hp1 := p0_lt (m := m) (by omega)
      have hp3 := p0_pos m
      by_cases h2 : i < p0 m
      · rw [if_pos h2] at hq
        rcases List.mem_cons.mp hq with r | hq
        · subst r; constructor <;> dsimp only <;> omega
        · have := ih i f (p0 m) h2 q hq; omega
      · rw [if_neg h2] at hq
        rcases List.mem_cons.mp hq with r | hq
        · subst r; constructor <;> dsimp only <;> omega
        · have := ih (i - p0 m) (f + p0 m) (m - p0 m) (by omega) q hq; omega
theorem wyT_pw : ∀ (e i f m : Nat), i < m → (wyT e i f m).Pairwise (fun p q => p.1 ≠ q.1) := by
  intro e
  induction e with
  | zero => intro i f m _; rw [wyT]; exact List.Pairwise.nil
  | succ e ih =>
    intro i f m him
    rw [wyT]
    by_cases h1 : m ≤ 1
    · rw [if_pos h1]; exact List.Pairwise.nil
    · rw [if_neg h1]
      have hp1 := p0_lt (m := m) (by omega)
      have hp3 := p0_pos m
      by_cases h2 : i < p0 m
      · rw [if_pos h2, List.pairwise_cons]
        refine ⟨fun q hq => ?_, ih _ _ _ h2⟩
        have := wyT_rng e i f (p0 m) h2 q hq
        dsimp only; omega
      · rw [if_neg h2, List.pairwise_cons]
        refine ⟨fun q hq => ?_, ih _ _ _ (by omega)⟩
        have := wyT_rng e (i - p0 m) (f + p0 m) (m - p0 m) (by omega) q hq
        dsimp only; omega
theorem wyT_pwr (e i f m : Nat) (h : i < m) : (wyT e i f m).reverse.Pairwise (fun p q => p.1 ≠ q.1) := List.pairwise_reverse.mpr ((wyT_pw e i f m h).imp (fun h e => h e.symm))
def keA (i n r : Int32) : Int32 := if (0 ≤ i.toInt ∧ i.toInt < n.toInt) ∧ n.toInt ≤ r.toInt then Int32.ofNat (kA (wyT 31 i.toInt.toNat 0 n.toInt.toNat).reverse (wyT 31 i.toInt.toNat 0 r.toInt.toNat).reverse) else -1
/-! of the reference -/
def HD (σ : ms_T) (l : List (Nat × Nat × Bool)) : Prop := (ms_I σ 695).toInt = (l.length : Int) ∧ ∀ (k : Nat) (q : Nat × Nat × Bool), l[k]? = some q → (ms_E σ 57 k).toInt = (q.1 : Int) ∧ (ms_E σ 58 k).toInt = (q.2.1 : Int)
def mtc (a b : Int32) (q : Nat × Nat × Bool) : Prop := (q.1 : Int) = a.toInt ∧ (q.2.1 : Int) = b.toInt
theorem v_had_L (n : Nat) (σ : ms_T) (S : List (Nat × Nat × Bool)) (h : HD σ S) (a b : Int32) : ∀ (k v : Nat) (vI : Int32), vI.toInt = (v : Int) → v ≤ S.length → pr (f_X12_had_L2 n σ k a b vI) (fun r => bo r (∃ q ∈ S.drop v, mtc a b q)) := by
  intro k
  induction k with
  | zero => intro v vI h1 h2; rw [f_X12_had_L2.eq_1]; exact pr_0
  | succ k ih =>
    intro v vI h1 h2
    rw [f_X12_had_L2.eq_2]
    refine pr_le (fun hc => pr_s (Or.inr ⟨rfl, ?_⟩)) (fun hc => ?_)
    · rw [h.1] at hc
      rw [List.drop_eq_nil_of_le (by omega)]
      intro ⟨q, hq, _⟩; cases hq
    · rw [h.1] at hc
      have hv : v < S.length := by omega
      have hq := h.2 v _ (List.getElem?_eq_getElem hv)
      have cV : vI.toNatClampNeg = v := cl_n h1
      have hS := ib_hi (ms_I σ 695)
      have hn : (vI + 1).toInt = ((v + 1 : Nat) : Int) := by rw [ii_add (by rw [lt1]; omega) (by rw [lt1, h1]; have := h.1; omega), h1, lt1]; omega
      rw [List.drop_eq_getElem_cons hv, cV]
      have hJ : ¬ mtc a b S[v] → pr (f_X12_had_J32 n σ (f_X12_had_L2 n σ k) a b vI) (fun r => bo r (∃ q ∈ S[v] :: S.drop (v + 1), mtc a b q)) := by
        intro hm
        unfold f_X12_had_J32
        refine pr_l (pr_m (ih (v + 1) _ hn (by omega)) (fun r hr => ?_))
        rcases hr with ⟨e, q, hq, hm2⟩ | ⟨e, hno⟩
        · exact Or.inl ⟨e, q, List.mem_cons_of_mem _ hq, hm2⟩
        · refine Or.inr ⟨e, fun ⟨q, hq, hm2⟩ => ?_⟩
          rcases List.mem_cons.mp hq with r | hq
          · rw [r] at hm2; exact hm hm2
          · exact hno ⟨q, hq, hm2⟩
      refine pr_g (fun _ _ => pr_i (fun e1 => pr_g (fun _ _ => pr_i (fun e2 => pr_s (Or.inl ⟨rfl, S[v], List.mem_cons_self, ?_, ?_⟩)) (fun e2 => hJ (fun hm => e2 (Int32.toInt_inj.mp (by rw [hq.2]; exact hm.2)))))) (fun e1 => hJ (fun hm => e1 (Int32.toInt_inj.mp (by rw [hq.1]; exact hm.1)))))
      · rw [← hq.1, e1]
      · rw [← hq.2, e2]
theorem v_had (n : Nat) (σ : ms_T) (S : List (Nat × Nat × Bool)) (h : HD σ S) (a b : Int32) : pr (f_X12_had n σ a b) (fun r => bo r (∃ q ∈ S, mtc a b q)) := by
  have := v_had_L n σ S h a b n 0 0 rfl (Nat.zero_le _)
  rw [List.drop_zero] at this
  exact this
theorem mtc_n {q p : Nat × Nat × Bool} {a b : Int32} (ha : a.toInt = (p.1 : Int)) (hb : b.toInt = (p.2.1 : Int)) : mtc a b q ↔ (q.1 = p.1 ∧ q.2.1 = p.2.1) := by
  unfold mtc
  rw [ha, hb]
  omega
def sm (S T : List (Nat × Nat × Bool)) : Prop := ∀ u v : Nat, (∃ q ∈ S, q.1 = u ∧ q.2.1 = v) ↔ ∃ q ∈ T, q.1 = u ∧ q.2.1 = v
theorem v_notes_L (n : Nat) (l : List (Nat × Nat × Bool)) : ∀ (k : Nat) (σ : ms_T) (S : List (Nat × Nat × Bool)) (v : Nat) (vI : Int32), WS σ l → HD σ S → sm S (l.take v) → vI.toInt = (v : Int) → v ≤ l.length → pr (f_X12_notes_L2 n k σ vI) (fun τ => ∃ S, HD τ S ∧ sm S l) := by
  intro k
  induction k with
  | zero => intro σ S v vI hW hH hs h1 h2; rw [f_X12_notes_L2.eq_1]; exact pr_0
  | succ k ih =>
    intro σ S v vI hW hH hs h1 h2
    rw [f_X12_notes_L2.eq_2]
    refine pr_le (fun hc => pr_s ⟨S, hH, ?_⟩) (fun hc => ?_)
    · rw [hW.1] at hc
      rw [List.take_of_length_le (by omega)] at hs
      exact hs
    · rw [hW.1] at hc
      have hv : v < l.length := by omega
      have hq := hW.2 v _ (List.getElem?_eq_getElem hv)
      have cV : vI.toNatClampNeg = v := cl_n h1
      have hS := ib_hi (ms_I σ 657)
      have hn : (vI + 1).toInt = ((v + 1 : Nat) : Int) := by rw [ii_add (by rw [lt1]; omega) (by rw [lt1, h1]; have := hW.1; omega), h1, lt1]; omega
      have htk : l.take (v + 1) = l.take v ++ [l[v]] := by rw [List.take_succ_eq_append_getElem hv]
      refine pr_g (fun _ _ => pr_g (fun _ _ => pr_bo (P := ∃ q ∈ S, mtc (ms_E σ 42 vI.toNatClampNeg) (ms_E σ 43 vI.toNatClampNeg) q) (v_had n σ S hH _ _) (fun hno => ?_) (fun hyes => ?_)))
      · unfold f_X12_notes_J72
        refine pr_g (fun _ _ => pr_g (fun g0 g1 => pr_l (pr_g (fun _ _ => pr_g (fun _ _ => pr_l (pr_l (pr_l (ih _ (S ++ [l[v]]) (v + 1) _ ?_ ?_ ?_ hn (by omega)))))))))
        · exact ⟨hW.1, fun k q hk => hW.2 k q hk⟩
        · have hc2 : (ms_I σ 695).toNatClampNeg = S.length := cl_n hH.1
          refine ⟨?_, fun k q hk => ?_⟩
          · rw [mI_sI, if_pos rfl]
            show (ms_I σ 695 + 1).toInt = _
            rw [ii_add (by rw [lt1]; omega) (by rw [lt1]; omega), hH.1, lt1, List.length_append]; rfl
          · rw [mE_sI, mE_sI, show (ms_I (ms_sE σ 57 (ms_I σ 695).toNatClampNeg (ms_E σ 42 vI.toNatClampNeg)) 695).toNatClampNeg = S.length from hc2, hc2, mE_sE, mE_sE, mE_sE, mE_sE, cV, mE_sE]
            rcases ap_get hk with ⟨g1, g2⟩ | ⟨g1, g2⟩
            · have hne : ¬ k = S.length := by omega
              simpa [hne] using hH.2 k q g2
            · subst g1; subst g2
              simpa using hq
        · intro a b
          rw [htk]
          constructor
          · rintro ⟨q, hm, he⟩
            rcases List.mem_append.mp hm with hm | hm
            · obtain ⟨q', hm', he'⟩ := (hs a b).mp ⟨q, hm, he⟩
              exact ⟨q', List.mem_append_left _ hm', he'⟩
            · exact ⟨q, List.mem_append_right _ hm, he⟩
          · rintro ⟨q, hm, he⟩
            rcases List.mem_append.mp hm with hm | hm
            · obtain ⟨q', hm', he'⟩ := (hs a b).mpr ⟨q, hm, he⟩
              exact ⟨q', List.mem_append_left _ hm', he'⟩
            · exact ⟨q, List.mem_append_right _ hm, he⟩
      · unfold f_X12_notes_J72
        refine pr_l (ih σ S (v + 1) _ hW hH ?_ hn (by omega))
        rw [cV] at hyes
        obtain ⟨q0, hq0, hm0⟩ := hyes
        rw [mtc_n hq.1 hq.2] at hm0
        intro a b
        rw [htk]
        constructor
        · rintro ⟨q, hm, he⟩
          obtain ⟨q', hm', he'⟩ := (hs a b).mp ⟨q, hm, he⟩
          exact ⟨q', List.mem_append_left _ hm', he'⟩
        · rintro ⟨q, hm, he⟩
          rcases List.mem_append.mp hm with hm | hm
          · exact (hs a b).mpr ⟨q, hm, he⟩
          · rw [List.mem_singleton.mp hm] at he
            exact ⟨q0, hq0, by omega, by omega⟩
theorem v_kept_L (n : Nat) (σ : ms_T) (S l w1 : List (Nat × Nat × Bool)) (hW : WS σ l) (hH : HD σ S) (hs : sm S w1) (hl : l.length ≤ 64) : ∀ (k v N : Nat) (uI vI : Int32), vI.toInt = (v : Int) → v ≤ l.length → uI.toInt = (N : Int) → N ≤ v → pr (f_X12_kept_L55 n k σ uI vI) (fun res => res.1.toInt = ((N + kA w1 (l.drop v) : Nat) : Int)) := by
  intro k
  induction k with
  | zero => intro v N uI vI h1 h2 h3 h4; rw [f_X12_kept_L55.eq_1]; exact pr_0
  | succ k ih =>
    intro v N uI vI h1 h2 h3 h4
    rw [f_X12_kept_L55.eq_2]
    refine pr_le (fun hc => pr_s ?_) (fun hc => ?_)
    · rw [hW.1] at hc
      rw [List.drop_eq_nil_of_le (by omega)]
      exact h3
    · rw [hW.1] at hc
      have hv : v < l.length := by omega
      have hq := hW.2 v _ (List.getElem?_eq_getElem hv)
      have cV : vI.toNatClampNeg = v := cl_n h1
      have hn : (vI + 1).toInt = ((v + 1 : Nat) : Int) := by rw [ii_add (by rw [lt1]; omega) (by rw [lt1]; omega), h1, lt1]; omega
      have hk : kA w1 (l.drop v) = (if (w1.any fun p => e2 p l[v]) then 1 else 0) + kA w1 (l.drop (v + 1)) := by
        rw [List.drop_eq_getElem_cons hv]
        unfold kA
        rw [List.countP_cons]
        exact Nat.add_comm _ _
      rw [cV]
      refine pr_g (fun _ _ => pr_g (fun _ _ => pr_bo (P := ∃ q ∈ S, mtc (ms_E σ 42 v) (ms_E σ 43 v) q) (v_had n σ S hH _ _) (fun hno => ?_) (fun hyes => ?_)))
      · unfold f_X12_kept_J92
        refine pr_l (pr_l (pr_m (ih (v + 1) N _ _ hn (by omega) (by rw [ii_add (by rw [lt0]; omega) (by rw [lt0]; omega), h3, lt0]; omega) (by omega)) (fun r hr => ?_)))
        rw [hr, hk, if_neg, Nat.zero_add]
        intro ha
        obtain ⟨p, hp, he⟩ := List.any_eq_true.mp ha
        obtain ⟨q, hq1, hq2⟩ := (hs l[v].1 l[v].2.1).mpr ⟨p, hp, e2_iff.mp he⟩
        exact hno ⟨q, hq1, (mtc_n hq.1 hq.2).mpr hq2⟩
      · unfold f_X12_kept_J92
        refine pr_l (pr_l (pr_m (ih (v + 1) (N + 1) _ _ hn (by omega) (by rw [ii_add (by rw [lt1]; omega) (by rw [lt1]; omega), h3, lt1]; omega) (by omega)) (fun r hr => ?_)))
        rw [hr, hk, if_pos]
        · omega
        · obtain ⟨q, hq1, hq2⟩ := hyes
          rw [mtc_n hq.1 hq.2] at hq2
          obtain ⟨p, hp, he⟩ := (hs l[v].1 l[v].2.1).mp ⟨q, hq1, hq2⟩
          exact List.any_eq_true.mpr ⟨p, hp, e2_iff.mpr he⟩
theorem HD_fr {σ τ : ms_T} {S : List (Nat × Nat × Bool)} (h : HD σ S) (f : fr [657] [42, 43] σ τ) : HD τ S := by
  refine ⟨by rw [f.1 695 (by decide)]; exact h.1, fun k q hk => ?_⟩
  rw [f.2 57 (by decide), f.2 58 (by decide)]
  exact h.2 k q hk
theorem v_kept (n : Nat) (hn : 70000 ≤ n) (σ : ms_T) (i m r : Int32) : pr (f_X12_kept n σ i m r) (fun res => res.1 = keA i m r) := by
  have hJ : ¬ ((0 ≤ i.toInt ∧ i.toInt < m.toInt) ∧ m.toInt ≤ r.toInt) → pr (f_X12_kept_J19 n σ i m r) (fun res => res.1 = keA i m r) := by
    intro h
    unfold f_X12_kept_J19 f_X12_kept_J20 keA
    rw [if_neg h]
    exact pr_c (v_is n σ 1) (fun r τ hr => pr_e (fun _ => pr_s rfl) (fun e => absurd (bo_1 hr e) (by decide)))
  unfold f_X12_kept
  refine pr_bo (v_isThing n σ i m) (fun h => hJ (fun q => h q.1)) (fun h => pr_lt (fun g => hJ (by omega)) (fun g => ?_))
  unfold f_X12_kept_J20 keA
  rw [if_pos ⟨h, g⟩]
  refine pr_c (v_is n σ 0) (fun r0 τ hr => pr_e (fun e => absurd rfl (bo_0 hr e)) (fun e => ?_))
  refine pr_l (pr_b (fun υ hυ => (⟨v_inclusion n _ i m h.1 h.2 υ hυ, pr_w (s_inclusion n hn _ i m h.1 h.2) υ hυ⟩ : _ ∧ _)) (fun υ hυ => ?_))
  obtain ⟨hW1, w1, hw1, -⟩ := hυ
  have hH0 : HD υ [] := HD_fr (σ := ms_sI τ 695 0) ⟨by rw [mI_sI, if_pos rfl]; rfl, fun k q h => by simp at h⟩ hw1.1
  refine pr_b (v_notes_L n _ n υ [] 0 0 hW1 hH0 (fun u v => by simp) rfl (Nat.zero_le _)) (fun ω hω => ?_)
  obtain ⟨S, hH, hs⟩ := hω
  refine pr_b (fun υ2 hυ2 => (⟨v_inclusion n ω i r h.1 (by omega) υ2 hυ2, pr_w (s_inclusion n hn ω i r h.1 (by omega)) υ2 hυ2⟩ : _ ∧ _)) (fun υ2 hυ2 => ?_)
  obtain ⟨hW2, w2, hw2, -⟩ := hυ2
  refine pr_m (v_kept_L n υ2 S _ _ hW2 (HD_fr hH hw2.1) hs ?_ n 0 0 0 0 rfl (Nat.zero_le _) rfl (Nat.le_refl _)) (fun res hres => ?_)
  · rw [List.length_reverse]; exact Nat.le_trans (wyT_len _ _ _ _) (by decide)
  · rw [List.drop_zero, Nat.zero_add] at hres
    exact i_ofN hres
