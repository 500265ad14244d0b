set_option maxRecDepth 100000
/-! ===== rows of the class; peaks ===== -/
def RWL (α : hp_T) (a : Nat) (l : List Int32) : Prop := l.length ≤ 64 ∧ (hp_I α 301 a).toInt = (l.length : Int) ∧ ∀ k, k < l.length → some (hp_E α 20 (hp_R α 300 a) k) = l[k]?
def ef (a : Nat) (α β : hp_T) : Prop := hp_R β = hp_R α ∧ hp_K β = hp_K α ∧ hp_Q β = hp_Q α ∧ hp_N β = hp_N α ∧ (∀ φ b, ¬ (b = a ∧ φ = 301) → hp_I β φ b = hp_I α φ b) ∧ ∀ κ b j, ¬ (κ = 20 ∧ b = hp_R α 300 a) → hp_E β κ b j = hp_E α κ b j
theorem ef_rf {a : Nat} {α : hp_T} : ef a α α := ⟨rfl, rfl, rfl, rfl, fun _ _ _ => rfl, fun _ _ _ _ => rfl⟩
theorem ef_tr {a : Nat} {α β γ : hp_T} (h : ef a α β) (g : ef a β γ) : ef a α γ := by
  obtain ⟨h1, h2, h3, h4, h5, h6⟩ := h
  obtain ⟨g1, g2, g3, g4, g5, g6⟩ := g
  rw [h1] at g6
  exact ⟨g1.trans h1, g2.trans h2, g3.trans h3, g4.trans h4, fun φ b q => (g5 φ b q).trans (h5 φ b q), fun κ b j q => (g6 κ b j q).trans (h6 κ b j q)⟩
theorem ef_sI {a : Nat} {α : hp_T} {v : Int32} : ef a α (hp_sI α 301 a v) :=
  ⟨rfl, rfl, rfl, rfl, fun ψ b q => by rw [hI_sI, if_neg (fun (e : ψ = 301 ∧ b = a) => q ⟨e.2, e.1⟩)], fun _ _ _ _ => rfl⟩
theorem ef_sE {a j : Nat} {α : hp_T} {v : Int32} : ef a α (hp_sE α 20 (hp_R α 300 a) j v) :=
  ⟨rfl, rfl, rfl, rfl, fun _ _ _ => rfl, fun κ b i q => by rw [hE_sE, if_neg (fun e => q ⟨e.1, e.2.1⟩)]⟩
theorem k_rput (n : Nat) {α : hp_T} {a : Nat} {l : List Int32} (h : RWL α a l) (hl : l.length < 64) (v : Int32) : ws (f_X5_put n α a v) (fun β => RWL β a (l ++ [v]) ∧ ef a α β) := by
  have L64 := t_64
  obtain ⟨h1, h2, h3⟩ := h
  unfold f_X5_put
  refine ws_l (ws_lt (fun e => by rw [lt0] at e; omega) (fun _ => ws_l (ws_l (ws_le (fun e => by omega) (fun _ => ws_l (ws_l (ws_g (by omega) (by omega) (ws_l (ws_l (ws_l (ws_s ⟨⟨?_, ?_, fun k hk => ?_⟩, ef_tr ef_sE ef_sI⟩)))))))))))
  · rw [List.length_append]; simp; omega
  · rw [hI_sI, if_pos ⟨rfl, rfl⟩, hI_sE, ii_add (by rw [lt1]; omega) (by rw [lt1]; omega), h2, lt1, List.length_append]; rfl
  · rw [List.length_append] at hk
    simp only [hR_sI, hR_sE, hE_sI]
    rw [hE_sE, cl_n h2]
    by_cases hkl : k = l.length
    · rw [if_pos ⟨rfl, rfl, hkl⟩, hkl]; simp
    · rw [if_neg (fun e => hkl e.2.2), List.getElem?_append_left (by simp at hk; omega)]
      exact h3 k (by simp at hk; omega)
theorem k_rshort (n : Nat) {α : hp_T} {a : Nat} {l : List Int32} (h : RWL α a l) (k : Nat) (hk : k ≤ l.length) (kI : Int32) (hkI : kI.toInt = (k : Int)) : ws (f_X5_shorten n α a kI) (fun β => RWL β a (l.take k) ∧ ef a α β) := by
  obtain ⟨h1, h2, h3⟩ := h
  unfold f_X5_shorten
  refine ws_lt (fun e => by rw [lt0] at e; omega) (fun _ => ws_l (ws_le (fun e => ws_s ⟨?_, ef_rf⟩) (fun e => ws_l (ws_s ⟨⟨?_, ?_, fun j hj => ?_⟩, ef_sI⟩))))
  · rw [List.take_of_length_le (by omega)]; exact ⟨h1, h2, h3⟩
  · rw [List.length_take]; omega
  · rw [hI_sI, if_pos ⟨rfl, rfl⟩, hkI, List.length_take]; omega
  · rw [List.length_take] at hj
    rw [hR_sI, hE_sI, List.getElem?_take_of_lt (by omega)]
    exact h3 j (by omega)
/-- the peaks of n things: their first things and how many they are -/
def pks : Nat → Nat → Nat → List (Nat × Nat × Bool)
  | 0, _, _ => []
  | e + 1, n, f => if n / 2 ^ e % 2 = 0 then pks e n f else (f, 2 ^ e, false) :: pks e n (f + 2 ^ e)
theorem pks_up {n e : Nat} (h : n < 2 ^ e) (f : Nat) : ∀ k, pks (e + k) n f = pks e n f := by
  intro k
  induction k with
  | zero => rfl
  | succ k ih =>
    have hp : 2 ^ e ≤ 2 ^ (e + k) := Nat.pow_le_pow_right (by decide) (by omega)
    rw [← Nat.add_assoc, pks, if_pos (by rw [Nat.div_eq_of_lt (by omega)]), ih]
theorem pks_len : ∀ (e n f : Nat), (pks e n f).length ≤ e := by
  intro e
  induction e with
  | zero => intro n f; exact Nat.le_refl _
  | succ e ih =>
    intro n f
    rw [pks]
    split
    · exact Nat.le_succ_of_le (ih n f)
    · exact Nat.succ_le_succ (ih _ _)
theorem and_bit (n e : Nat) : n &&& 2 ^ e = 0 ↔ n / 2 ^ e % 2 = 0 := by
  have ht : n.testBit e = decide (n / 2 ^ e % 2 = 1) := Nat.testBit_eq_decide_div_mod_eq
  constructor
  · intro h
    have h2 : (n &&& 2 ^ e).testBit e = false := by rw [h, Nat.zero_testBit]
    rw [Nat.testBit_and, Nat.testBit_two_pow, ht] at h2
    simp at h2
    omega
  · intro h
    apply Nat.eq_of_testBit_eq
    intro i
    rw [Nat.testBit_and, Nat.testBit_two_pow, Nat.zero_testBit]
    by_cases hi : e = i
    · subst hi; rw [ht]; simp; omega
    · simp [hi]
theorem pr_w_asks (n : Nat) (σ : ms_T) (a b : Int32) : pr (f_X12_asks n σ a b) (fun τ => fr [657] [42, 43] σ τ) := by
  unfold f_X12_asks
  exact pr_g (fun _ _ => pr_l (pr_g (fun _ _ => pr_l (pr_l (pr_s (fr_tr (fr_sE (by decide)) (fr_tr (fr_sE (by decide)) (fr_sI (by decide))))))))) 
theorem v_peaksOf_L (n : Nat) (N : Nat) (nI : Int32) (hn : nI.toInt = (N : Int)) : ∀ (d e : Nat) (σ : ms_T) (l : List (Nat × Nat × Bool)) (f : Nat) (fI pI : Int32), WS σ l → fI.toInt = (f : Int) → (∀ e', e = e' + 1 → pI.toInt = ((2 ^ e' : Nat) : Int)) → (e = 0 → pI.toInt = 0) → e ≤ 31 → f + N % 2 ^ e ≤ 2147483647 → pr (f_X12_peaksOf_L10 n d σ nI fI pI) (fun τ => WS τ (l ++ pks e N f) ∧ fr [657] [42, 43] σ τ) := by
  intro d
  induction d with
  | zero => intro e σ l f fI pI hW hf hp h0 he hb; rw [f_X12_peaksOf_L10.eq_1]; exact pr_0
  | succ d ih =>
    intro e σ l f fI pI hW hf hp h0 he hb
    have l2 := t_2
    rw [f_X12_peaksOf_L10.eq_2]
    cases e with
    | zero =>
      have := h0 rfl
      refine pr_le (fun _ => pr_s ⟨by rw [pks, List.append_nil]; exact hW, fr_rf⟩) (fun h => by rw [lt0] at h; omega)
    | succ e =>
      have hpe := hp e rfl
      have hp1 : 1 ≤ 2 ^ e := Nat.one_le_two_pow
      have hm : N % 2 ^ (e + 1) = N % 2 ^ e + 2 ^ e * (N / 2 ^ e % 2) := by rw [Nat.pow_succ, Nat.mod_mul]
      have hdv : (nI / pI).toInt = ((N / 2 ^ e : Nat) : Int) := by rw [ii_div (by omega) (by omega), hn, hpe]; rfl
      have hrem : ((nI / pI) - (nI / pI) / (2 : Int32) * (2 : Int32)).toInt = ((N / 2 ^ e % 2 : Nat) : Int) := by
        rw [ii_rem (by rw [hdv]; exact Int.natCast_nonneg _) (by decide), hdv, l2]
        rfl
      have hhalf : ∀ e', e = e' + 1 → (pI / (2 : Int32)).toInt = ((2 ^ e' : Nat) : Int) := by
        intro e' h
        rw [ii_div (by omega) (by decide), hpe, l2, h, Nat.pow_succ]; omega
      have hhalf0 : e = 0 → (pI / (2 : Int32)).toInt = 0 := by
        intro h
        rw [ii_div (by omega) (by decide), hpe, l2, h]; rfl
      have hnz : ¬ pI = 0 := fun h => by rw [h, lt0] at hpe; omega
      unfold f_X12_peaksOf_J35
      rw [pks]
      refine pr_le (fun h => by rw [lt0] at h; omega) (fun _ => pr_n (fun _ => pr_e (fun e1 => pr_l ?_) (fun e1 => ?_)))
      · have h0' : N / 2 ^ e % 2 = 0 := by have := il_eq e1; rw [hrem, lt0] at this; omega
        rw [if_pos h0']
        exact ih e σ l f fI _ hW hf hhalf hhalf0 (by omega) (by rw [hm, h0'] at hb; omega)
      · rw [hrem, lt0] at e1
        have h1' : N / 2 ^ e % 2 = 1 := by omega
        rw [if_neg (by omega)]
        rw [hm, h1'] at hb
        refine pr_b (fun τ hτ => (⟨v_asks n hW fI pI (f, 2 ^ e, false) hf hpe τ hτ, (pr_w_asks n σ fI pI τ hτ : fr [657] [42, 43] σ τ)⟩ : _ ∧ _)) (fun τ hτ => pr_l (pr_l (pr_m (ih e τ _ (f + 2 ^ e) _ _ hτ.1 (by rw [ii_add (by omega) (by omega), hf, hpe]; omega) hhalf hhalf0 (by omega) (by omega)) (fun υ hυ => ⟨?_, fr_tr hτ.2 hυ.2⟩))))
        have := hυ.1
        rw [List.append_assoc, List.singleton_append] at this
        exact this
theorem v_tree (n : Nat) (σ : ms_T) (hC : rC (ms_E σ 40)) (r : Nat) (hr : r < 4) (rI : Int32) (hrI : rI.toInt = (r : Int)) (f k : Nat) (fI kI : Int32) (hf : fI.toInt = (f : Int)) (hk : kI.toInt = (k : Int)) (hl : f + k ≤ (EL (ms_E σ 40) r).length) : pr (f_X12_treeMark n 40 σ rI fI kI) (fun v => v = TMK (ms_E σ 40 1) (EL (ms_E σ 40) r) f k) := by
  have hs := hC.2.2.2.2.1 r hr
  have h48 : (EL (ms_E σ 40) r).length ≤ 48 := by rw [EL_len]; omega
  unfold TMK
  by_cases h0 : k = 0
  · rw [if_pos h0, f_X12_treeMark.eq_2]
    refine pr_e (fun _ => pr_s rfl) (fun h => absurd (by rw [hk, lt0]; omega) h)
  · rw [if_neg h0]
    exact v_treeMark n σ hC r hr rI hrI 40 6 f k fI kI hf hk (by omega) (by omega) hl h48
theorem v_headOf (n : Nat) (σ : ms_T) (hC : rC (ms_E σ 40)) (r : Nat) (hr : r < 4) (rI : Int32) (hrI : rI.toInt = (r : Int)) (k : Nat) (kI : Int32) (hk : kI.toInt = (k : Int)) (hl : k ≤ (EL (ms_E σ 40) r).length) : pr (f_X12_headOf n σ rI kI) (fun v => v = TMK (ms_E σ 40 1) (EL (ms_E σ 40) r) 0 k) := by
  unfold f_X12_headOf
  exact pr_b (v_tree n σ hC r hr rI hrI 0 k 0 kI rfl hk (by omega)) (fun v hv => pr_s hv)
/-- marks that were fetched -/
def MKS (τ : ms_T) (ml : List Int32) : Prop := ∀ k, k < ml.length → some (ms_E τ 44 k) = ml[k]?
def mkl (m : Int32) (L : List Int32) (l : List (Nat × Nat × Bool)) : List Int32 := l.map (fun q => TMK m L q.1 q.2.1)
theorem mkl_get (m : Int32) (L : List Int32) (l : List (Nat × Nat × Bool)) (k : Nat) (h : k < l.length) : (mkl m L l)[k]? = some (TMK m L l[k].1 l[k].2.1) := by
  unfold mkl
  rw [List.getElem?_map, List.getElem?_eq_getElem h]
  rfl
theorem mkl_len (m : Int32) (L : List Int32) (l : List (Nat × Nat × Bool)) : (mkl m L l).length = l.length := by unfold mkl; simp
theorem v_fetches (n : Nat) (σ : ms_T) (hC : rC (ms_E σ 40)) (r : Nat) (hr : r < 4) (rI : Int32) (hrI : rI.toInt = (r : Int)) (l : List (Nat × Nat × Bool)) (hW : WS σ l) (hl : ∀ q ∈ l, q.1 + q.2.1 ≤ (EL (ms_E σ 40) r).length) : pr (f_X12_fetches n σ rI) (fun τ => MKS τ (mkl (ms_E σ 40 1) (EL (ms_E σ 40) r) l) ∧ WS τ l ∧ fr [] [44] σ τ) := by
  have hL : ∀ (d k : Nat) (τ : ms_T) (kI : Int32), kI.toInt = (k : Int) → k ≤ l.length → fr [] [44] σ τ → (∀ j, j < k → some (ms_E τ 44 j) = (mkl (ms_E σ 40 1) (EL (ms_E σ 40) r) l)[j]?) → pr (f_X12_fetches_L2 n d τ rI kI) (fun τ => MKS τ (mkl (ms_E σ 40 1) (EL (ms_E σ 40) r) l) ∧ WS τ l ∧ fr [] [44] σ τ) := by
    intro d
    induction d with
    | zero => intro k τ kI h1 h2 hf hA; rw [f_X12_fetches_L2.eq_1]; exact pr_0
    | succ d ih =>
      intro k τ kI h1 h2 hf hA
      have e40 : ms_E τ 40 = ms_E σ 40 := funext (hf.2 40 (by decide))
      have hWτ : WS τ l := ⟨by rw [hf.1 657 (by decide)]; exact hW.1, fun j q hq => by rw [hf.2 42 (by decide), hf.2 43 (by decide)]; exact hW.2 j q hq⟩
      rw [f_X12_fetches_L2.eq_2]
      refine pr_le (fun e => pr_s ⟨fun j hj => hA j ?_, hWτ, hf⟩) (fun e => ?_)
      · rw [mkl_len] at hj
        rw [hWτ.1] at e
        omega
      · rw [hWτ.1] at e
        have hk : k < l.length := by omega
        have hq := hWτ.2 k _ (List.getElem?_eq_getElem hk)
        rw [cl_n h1]
        refine pr_g (fun g0 g1 => pr_g (fun _ _ => pr_b (v_tree n τ (by rw [e40]; exact hC) r hr rI hrI l[k].1 l[k].2.1 _ _ hq.1 hq.2 (by rw [e40]; exact hl _ (List.getElem_mem hk))) (fun v hv => pr_g (fun _ _ => pr_l (pr_l (ih (k + 1) _ _ ?_ (by omega) (fr_tr hf (fr_sE (by decide))) (fun j hj => ?_)))))))
        · rw [ii_add (by rw [lt1]; omega) (by rw [lt1]; omega), h1, lt1]; omega
        · rw [mE_sE]
          by_cases hjk : j = k
          · subst hjk
            rw [if_pos ⟨rfl, rfl⟩, mkl_get _ _ _ _ hk, hv, e40]
          · rw [if_neg (fun q => hjk q.2)]; exact hA j (by omega)
  unfold f_X12_fetches
  exact hL n 0 σ 0 rfl (Nat.zero_le _) fr_rf (fun j hj => by omega)
theorem v_peaksOf (n : Nat) (σ : ms_T) (N : Nat) (hN : N < 64) (nI : Int32) (hn : nI.toInt = (N : Int)) : pr (f_X12_peaksOf n σ nI) (fun τ => WS τ (pks 6 N 0) ∧ fr [657] [42, 43] σ τ) := by
  unfold f_X12_peaksOf
  have hz : WS (ms_sI σ 657 0) [] := ⟨by rw [mI_sI, if_pos rfl]; rfl, fun k q h => by simp at h⟩
  have hmod : N % 2 ^ 31 ≤ N := Nat.mod_le _ _
  refine pr_l (pr_m (v_peaksOf_L n N nI hn n 31 _ [] 0 0 _ hz rfl (fun e' h => by have : e' = 30 := by omega
                                                                                  subst this; decide) (fun h => absurd h (by decide)) (by decide) (by omega)) (fun τ hτ => ⟨?_, fr_tr (fr_sI (by decide)) hτ.2⟩))
  have := hτ.1
  rw [List.nil_append, show (31 : Nat) = 6 + 25 by decide, pks_up (show N < 2 ^ 6 by omega)] at this
  exact this
/-! of the class -/
theorem ws_hS {R : Type} {P : R → Prop} {b : Nat} {x : Option R} {k : Nat → Option R} (h : ws (k b) P) : ws (hq_m (some b) x k) P := h
theorem k_headOf (n : Nat) (hn : 70000 ≤ n) (w : Nat) (α : hp_T) (m : Int32) (hm : 0 < m.toInt) (hmα : hp_I α 550 w = m) (lg : Nat) (L : List Int32) (hL : LM α lg L) (k : Nat) (hk : k ≤ L.length) (kI : Int32) (hkI : kI.toInt = (k : Int)) : ws (f_X10_headOf n α w (some lg) kI) (fun res => res.1 = TMK m L 0 k ∧ jf w α res.2) := by
  unfold f_X10_headOf
  refine ws_hS ?_
  exact ws_hc (k_treeMark n hn w α m hm hmα lg L hL 0 k (by omega) 0 kI rfl hkI) (fun r β hr => ws_s hr)
/-- the row for joining and a row change -/
def qf (w a : Nat) (α β : hp_T) : Prop := hp_R β = hp_R α ∧ hp_K β = hp_K α ∧ hp_Q β = hp_Q α ∧ hp_N β = hp_N α ∧ (∀ φ b, ¬ (b = a ∧ φ = 301) → hp_I β φ b = hp_I α φ b) ∧ ∀ κ b j, ¬ (κ = 33 ∧ b = hp_R α 557 w) → ¬ (κ = 20 ∧ b = hp_R α 300 a) → hp_E β κ b j = hp_E α κ b j
theorem qf_tr {w a : Nat} {α β γ : hp_T} (h : qf w a α β) (g : qf w a β γ) : qf w a α γ := by
  obtain ⟨h1, h2, h3, h4, h5, h6⟩ := h
  obtain ⟨g1, g2, g3, g4, g5, g6⟩ := g
  rw [h1] at g6
  exact ⟨g1.trans h1, g2.trans h2, g3.trans h3, g4.trans h4, fun φ b q => (g5 φ b q).trans (h5 φ b q), fun κ b j q1 q2 => (g6 κ b j q1 q2).trans (h6 κ b j q1 q2)⟩
theorem qf_j {w a : Nat} {α β : hp_T} (h : jf w α β) : qf w a α β := by
  obtain ⟨h1, h2, h3, h4, h5, h6⟩ := h
  exact ⟨h1, h2, h3, h4, fun φ b _ => by rw [h5], fun κ b j q1 _ => h6 κ b j q1⟩
theorem qf_e {w a : Nat} {α β : hp_T} (h : ef a α β) : qf w a α β := by
  obtain ⟨h1, h2, h3, h4, h5, h6⟩ := h
  exact ⟨h1, h2, h3, h4, h5, fun κ b j _ q2 => h6 κ b j q2⟩
theorem LM_qf {α β : hp_T} {w a lg : Nat} {L : List Int32} (h : LM α lg L) (f : qf w a α β) : LM β lg L := by
  obtain ⟨f1, -, -, -, f5, f6⟩ := f
  refine ⟨h.1, by rw [f5 152 lg (fun q => absurd q.2 (by decide))]; exact h.2.1, fun j hj => ?_⟩
  rw [f1, f6 29 _ _ (fun q => absurd q.1 (by decide)) (fun q => absurd q.1 (by decide))]
  exact h.2.2 j hj
theorem RWL_jf {α β : hp_T} {w a : Nat} {l : List Int32} (h : RWL α a l) (f : jf w α β) : RWL β a l := by
  obtain ⟨f1, -, -, -, f5, f6⟩ := f
  refine ⟨h.1, by rw [f5]; exact h.2.1, fun k hk => ?_⟩
  rw [f1, f6 20 _ _ (fun q => absurd q.1 (by decide))]
  exact h.2.2 k hk
theorem k_peaks_L (n : Nat) (hn : 70000 ≤ n) (w a : Nat) (α : hp_T) (m : Int32) (hm : 0 < m.toInt) (hmα : hp_I α 550 w = m) (lg : Nat) (L : List Int32) (hL : LM α lg L) (N : Nat) (hN : N ≤ L.length) (nI : Int32) (hnI : nI.toInt = (N : Int)) : ∀ (d e : Nat) (β : hp_T) (l : List Int32) (f : Nat) (fI pI : Int32), qf w a α β → RWL β a l → l.length + e ≤ 64 → fI.toInt = (f : Int) → (∀ e', e = e' + 1 → pI.toInt = ((2 ^ e' : Nat) : Int)) → (e = 0 → pI.toInt = 0) → e ≤ 6 → f + N % 2 ^ e ≤ N → e + 1 ≤ d → ws (f_X10_peaksOfs_L12 n w d β lg nI a fI pI) (fun γ => RWL γ a (l ++ mkl m L (pks e N f)) ∧ qf w a α γ) := by
  intro d
  induction d with
  | zero => intro e β l f fI pI hf hR hl h1 hp h0 he hb hd; omega
  | succ d ih =>
    intro e β l f fI pI hf hR hl h1 hp h0 he hb hd
    have l2 := t_2
    have h48 := hL.1
    rw [f_X10_peaksOfs_L12.eq_2]
    cases e with
    | zero =>
      have := h0 rfl
      refine ws_le (fun _ => ws_s ⟨?_, hf⟩) (fun h => by rw [lt0] at h; omega)
      show RWL β a (l ++ [])
      rw [List.append_nil]; exact hR
    | succ e =>
      have hpe := hp e rfl
      have hp1 : 1 ≤ 2 ^ e := Nat.one_le_two_pow
      have hp32 : 2 ^ e ≤ 2 ^ 5 := Nat.pow_le_pow_right (by decide) (by omega)
      have hmm : N % 2 ^ (e + 1) = N % 2 ^ e + 2 ^ e * (N / 2 ^ e % 2) := by rw [Nat.pow_succ, Nat.mod_mul]
      have hhalf : ∀ e', e = e' + 1 → (pI / (2 : Int32)).toInt = ((2 ^ e' : Nat) : Int) := by
        intro e' h
        rw [ii_div (by omega) (by decide), hpe, l2, h, Nat.pow_succ]; omega
      have hhalf0 : e = 0 → (pI / (2 : Int32)).toInt = 0 := by
        intro h
        rw [ii_div (by omega) (by decide), hpe, l2, h]; rfl
      have hand : (nI &&& pI) = 0 ↔ N / 2 ^ e % 2 = 0 := by
        obtain ⟨b1, b2⟩ := bN nI (by omega)
        obtain ⟨c1, c2⟩ := bN pI (by omega)
        have en : nI.toBitVec.toNat = N := by omega
        have ep : pI.toBitVec.toNat = 2 ^ e := by omega
        have ha := n_and nI pI
        rw [en, ep] at ha
        rw [← and_bit, ← ha]
        constructor
        · intro h; rw [h]; rfl
        · intro h
          refine Int32.toInt_inj.mp ?_
          rw [tI_N _ (by omega), h]; rfl
      unfold f_X10_peaksOfs_J44
      rw [pks]
      refine ws_le (fun h => by rw [lt0] at h; omega) (fun _ => ws_i (fun e1 => ws_l ?_) (fun e1 => ?_))
      · have h0' := hand.mp e1
        rw [if_pos h0']
        exact ih e β l f fI _ hf hR (by omega) h1 hhalf hhalf0 (by omega) (by rw [hmm, h0'] at hb; omega) (by omega)
      · have h1' : N / 2 ^ e % 2 = 1 := by have : ¬ N / 2 ^ e % 2 = 0 := fun h => e1 (hand.mpr h); omega
        rw [if_neg (by omega)]
        rw [hmm, h1'] at hb
        have i550 : hp_I β 550 w = m := by rw [hf.2.2.2.2.1 550 w (fun q => absurd q.2 (by decide))]; exact hmα
        refine ws_hc (k_treeMark n hn w β m hm i550 lg L (LM_qf hL hf) f (2 ^ e) (by omega) fI pI h1 hpe) (fun v γ hv => ws_b (k_rput n (RWL_jf hR hv.2) (by omega) v) (fun δ hδ => ws_l (ws_l ?_)))
        have := ih e δ (l ++ [v]) (f + 2 ^ e) (fI + pI) (pI / 2) (qf_tr hf (qf_tr (qf_j hv.2) (qf_e hδ.2))) hδ.1 (by rw [List.length_append]; simp; omega) (by rw [ii_add (by omega) (by omega), h1, hpe]; omega) hhalf hhalf0 (by omega) (by omega) (by omega)
        have hv1 : v = TMK m L f (2 ^ e) := hv.1
        rw [List.append_assoc, List.singleton_append, hv1] at this
        exact this
theorem k_peaksOf (n : Nat) (hn : 70000 ≤ n) (w a : Nat) (α : hp_T) (m : Int32) (hm : 0 < m.toInt) (hmα : hp_I α 550 w = m) (lg : Nat) (L : List Int32) (hL : LM α lg L) (N : Nat) (hN : N ≤ L.length) (nI : Int32) (hnI : nI.toInt = (N : Int)) (l : List Int32) (hR : RWL α a l) : ws (f_X10_peaksOf n α w (some lg) nI a) (fun γ => RWL γ a (mkl m L (pks 6 N 0)) ∧ qf w a α γ) := by
  have h48 := hL.1
  show ws (ms_b _ _) _
  refine ws_b (k_rshort n hR 0 (Nat.zero_le _) 0 rfl) (fun β hβ => ?_)
  rw [List.take_zero] at hβ
  have i550 : hp_I α 550 w = m := hmα
  have := k_peaks_L n hn w a α m hm hmα lg L hL N hN nI hnI n 6 β [] 0 0 32 (qf_e hβ.2) hβ.1 (by decide) rfl (fun e' h => by have : e' = 5 := by omega
                                                                                                                             subst this; decide) (fun h => absurd h (by decide)) (by decide) (by have := Nat.mod_le N (2 ^ 6); omega) (by omega)
  rw [List.nil_append] at this
  exact this
/-! ===== freeze ===== -/
def frF (f : Nat → Int32) (r i : Nat) (g : Nat → Int32) : Prop := (g (92 + 10 * i)).toInt = (r : Int) ∧ g (93 + 10 * i) = f (72 + r) ∧ g (94 + 10 * i) = TMK (f 1) (EL f r) 0 (f (72 + r)).toInt.toNat ∧ g (95 + 10 * i) = f 4 ∧ (∀ k, k < (pks 6 (f (72 + r)).toInt.toNat 0).length → some (g (96 + 10 * i + k)) = (mkl (f 1) (EL f r) (pks 6 (f (72 + r)).toInt.toNat 0))[k]?) ∧ g 3 = f 3 + 1 ∧ g 4 = f 4 + 1 ∧ ∀ j, ¬ (92 + 10 * i ≤ j ∧ j < 92 + 10 * i + 10) → j ≠ 3 → j ≠ 4 → g j = f j
theorem fr_mo {wI wE vI vE : List Nat} {σ τ : ms_T} (h : fr wI wE σ τ) (h1 : ∀ x ∈ wI, x ∈ vI) (h2 : ∀ x ∈ wE, x ∈ vE) : fr vI vE σ τ := ⟨fun φ hφ => h.1 φ (fun q => hφ (h1 φ q)), fun κ hκ j => h.2 κ (fun q => hκ (h2 κ q)) j⟩
theorem pks_pkn : ∀ n, n < 64 → (pks 6 n 0).length = pkn n := by decide +kernel
/-- cells that matter for a record's marks -/
theorem EL_c {f g : Nat → Int32} {r : Nat} (hC : rC f) (hr : r < 4) (h1 : g 1 = f 1) (h72 : g (72 + r) = f (72 + r)) (h : ∀ j, 252 ≤ j → j < 1980 → g j = f j) : EL g r = EL f r := by
  unfold EL
  rw [h72]
  have hs := hC.2.2.2.2.1 r hr
  refine List.map_congr_left (fun i hi => ?_)
  have hi2 := List.mem_range.mp hi
  have hl := hC.2.2.2.2.2.2.2.2 (48 * r + i) (by omega)
  exact EM_c h1 (h _ (by omega) (by omega)) (fun k hk => h _ (by omega) (by omega))
theorem v_freezes_L (n : Nat) (f : Nat → Int32) (b : Nat) (hb : b + 10 ≤ 252) (hb92 : 92 ≤ b) (bI : Int32) (hbI : bI.toInt = (b : Int)) (ml : List Int32) (hml : ml.length ≤ 6) (pl : List (Nat × Nat × Bool)) (hpl : pl.length = ml.length) (σ0 : ms_T) : ∀ (d k : Nat) (σ : ms_T) (kI : Int32), kI.toInt = (k : Int) → k ≤ ml.length → WS σ pl → MKS σ ml → (∀ j, j < k → some (ms_E σ 40 (b + 4 + j)) = ml[j]?) → (∀ j, ¬ (b + 4 ≤ j ∧ j < b + 10) → ms_E σ 40 j = f j) → 0 ≤ (f 3).toInt → (f 3).toInt ≤ 16 → fr [] [40] σ0 σ → pr (f_X12_freezes_L98 n d σ bI kI) (fun res => res.1 = f 3 ∧ (∀ j, j < ml.length → some (ms_E res.2 40 (b + 4 + j)) = ml[j]?) ∧ ms_E res.2 40 3 = f 3 + 1 ∧ ms_E res.2 40 4 = f 4 + 1 ∧ (∀ j, ¬ (b + 4 ≤ j ∧ j < b + 10) → j ≠ 3 → j ≠ 4 → ms_E res.2 40 j = f j) ∧ fr [] [40] σ0 res.2) := by
  intro d
  induction d with
  | zero => intro k σ kI h1 h2 hW hM hA hB h3 h4 hf; rw [f_X12_freezes_L98.eq_1]; exact pr_0
  | succ d ih =>
    intro k σ kI h1 h2 hW hM hA hB h3 h4 hf
    have L4 := t_4
    rw [f_X12_freezes_L98.eq_2]
    refine pr_le (fun e => ?_) (fun e => ?_)
    · rw [hW.1] at e
      have hk : k = ml.length := by omega
      have f3 : ms_E σ 40 3 = f 3 := hB 3 (by omega)
      have f4 : ms_E σ 40 4 = f 4 := hB 4 (by omega)
      rw [c3, c4]
      refine pr_g (fun _ _ => pr_g (fun _ _ => pr_l (pr_g (fun _ _ => pr_g (fun _ _ => pr_l (pr_g (fun _ _ => pr_s ⟨?_, fun j hj => ?_, ?_, ?_, fun j j1 j2 j3 => ?_, fr_tr hf (fr_tr (fr_sE (by decide)) (fr_sE (by decide)))⟩)))))))
      · rw [mE_sE, if_neg (by omega), mE_sE, if_pos ⟨rfl, rfl⟩, f3]
        refine Int32.toInt_inj.mp ?_
        have e1 : (f 3 + 1).toInt = (f 3).toInt + 1 := by rw [ii_add (by rw [lt1]; omega) (by rw [lt1]; omega), lt1]
        rw [ii_sub (by rw [lt1]; omega) (by rw [lt1]; omega), e1, lt1]; omega
      · rw [mE_sE, if_neg (by omega), mE_sE, if_neg (by omega)]; exact hA j (by omega)
      · rw [mE_sE, if_neg (by omega), mE_sE, if_pos ⟨rfl, rfl⟩, f3]
      · rw [mE_sE, if_pos ⟨rfl, rfl⟩, mE_sE, if_neg (by omega), f4]
      · rw [mE_sE, if_neg (by omega), mE_sE, if_neg (by omega)]; exact hB j j1
    · rw [hW.1] at e
      have hk : k < ml.length := by omega
      have e4 : (bI + (4 : Int32)).toInt = ((b + 4 : Nat) : Int) := by rw [ii_add (by omega) (by omega), hbI, L4]; omega
      have e5 : ((bI + (4 : Int32)) + kI).toInt = ((b + 4 + k : Nat) : Int) := by rw [ii_add (by omega) (by omega), e4, h1]; omega
      rw [cl_n e5, cl_n h1]
      refine pr_g (fun _ _ => pr_g (fun _ _ => pr_l (pr_l (ih (k + 1) _ _ ?_ (by omega) ⟨hW.1, fun j q hq => ?_⟩ (fun j hj => ?_) (fun j hj => ?_) (fun j j1 => ?_) h3 h4 (fr_tr hf (fr_sE (by decide)))))))
      · rw [ii_add (by rw [lt1]; omega) (by rw [lt1]; omega), h1, lt1]; omega
      · rw [mE_sE, if_neg (fun q => absurd q.1 (by decide)), mE_sE, if_neg (fun q => absurd q.1 (by decide))]; exact hW.2 j q hq
      · rw [mE_sE, if_neg (fun q => absurd q.1 (by decide))]; exact hM j hj
      · rw [mE_sE]
        by_cases hjk : j = k
        · subst hjk; rw [if_pos ⟨rfl, rfl⟩]; exact hM j hk
        · rw [if_neg (by omega)]; exact hA j (by omega)
      · rw [mE_sE, if_neg (by omega)]; exact hB j j1
theorem pks_in : ∀ n, n < 64 → ∀ q ∈ pks 6 n 0, q.1 + q.2.1 ≤ n := by decide +kernel
theorem pks_six : ∀ n, n < 64 → (pks 6 n 0).length ≤ 6 := by decide +kernel
theorem rC_fz {f g : Nat → Int32} (hC : rC f) (i : Nat) (hi : i < 16) (h : ∀ j, ¬ (92 + 10 * i ≤ j ∧ j < 92 + 10 * i + 10) → g j = f j) (ha : 0 ≤ (g (92 + 10 * i)).toInt ∧ (g (92 + 10 * i)).toInt ≤ 3) (hb : 0 ≤ (g (93 + 10 * i)).toInt ∧ (g (93 + 10 * i)).toInt ≤ 48) : rC g := by
  obtain ⟨a, b, c, d, e, e2, e3, e4, e5⟩ := hC
  refine ⟨by rw [h 0 (by omega)]; exact a, by rw [h 1 (by omega)]; exact b, by rw [h 2 (by omega)]; exact c, by rw [h 3 (by omega)]; exact d, fun r hr => by rw [h (72 + r) (by omega)]; exact e r hr, fun w hw => by rw [h (76 + 4 * w) (by omega)]; exact e2 w hw, fun q hq => ?_, fun q hq => ?_, fun q hq => by rw [h (252 + q) (by omega)]; exact e5 q hq⟩
  · by_cases hqi : q = i
    · subst hqi; exact ha
    · rw [h (92 + 10 * q) (by omega)]; exact e3 q hq
  · by_cases hqi : q = i
    · subst hqi; exact hb
    · rw [h (93 + 10 * q) (by omega)]; exact e4 q hq
theorem v_freezes (n : Nat) (σ : ms_T) (hC : rC (ms_E σ 40)) (r : Nat) (hr : r < (ms_E σ 40 0).toInt.toNat) (rI : Int32) (hrI : rI.toInt = (r : Int)) : pr (f_X12_freezes n σ rI) (fun res => ((ms_E σ 40 3).toInt = 16 → res.1 = -1 ∧ res.2 = ms_sI σ 652 3) ∧ ((ms_E σ 40 3).toInt < 16 → res.1 = ms_E σ 40 3 ∧ frF (ms_E σ 40) r (ms_E σ 40 3).toInt.toNat (ms_E res.2 40) ∧ fr [657] [40, 42, 43, 44] σ res.2)) := by
  have h4 := hC.1
  have hs := hC.2.2.2.2.1 r (by omega)
  have h16 := hC.2.2.2.1
  have L16 := t_16
  have L92 := t_92
  have L10 := t_10
  have L3 := t_3
  have L2 := t_2
  obtain ⟨i, hi⟩ : ∃ i, i = (ms_E σ 40 3).toInt.toNat := ⟨_, rfl⟩
  unfold f_X12_freezes
  rw [c3, c4]
  refine pr_g (fun _ _ => pr_e (fun e => ?_) (fun e => pr_g (fun _ _ => pr_ln (fun x hx => ?_))))
  · have h16' : (ms_E σ 40 3).toInt = 16 := by rw [e]; exact L16
    unfold f_X12_refuse
    exact pr_c (T := fun res => res.1 = -1 ∧ res.2 = ms_sI σ 652 3) (pr_l (pr_s ⟨rfl, rfl⟩)) (fun a τ hτ => pr_s ⟨fun _ => hτ, fun h => by omega⟩)
  · rw [L16] at e
    have hi16 : i < 16 := by omega
    have e10 : ((10 : Int32) * ms_E σ 40 3).toInt = ((10 * i : Nat) : Int) := by rw [ii_mul (by rw [L10]; omega) (by rw [L10]; omega), L10]; omega
    have ex : x.toInt = ((92 + 10 * i : Nat) : Int) := by rw [hx, ii_add (by omega) (by omega), L92, e10]; omega
    have ex1 : (x + 1).toInt = ((93 + 10 * i : Nat) : Int) := by rw [ii_add (by rw [lt1]; omega) (by rw [lt1]; omega), ex, lt1]; omega
    have ex2 : (x + 2).toInt = ((94 + 10 * i : Nat) : Int) := by rw [ii_add (by rw [L2]; omega) (by rw [L2]; omega), ex, L2]; omega
    have ex3 : (x + 3).toInt = ((95 + 10 * i : Nat) : Int) := by rw [ii_add (by rw [L3]; omega) (by rw [L3]; omega), ex, L3]; omega
    rw [cl_n ex, cl_n ex1, cl_n ex2, cl_n ex3]
    -- the head of the record, its place being told first
    have key : ∀ τ : ms_T, (∀ j, ¬ (92 + 10 * i ≤ j ∧ j < 92 + 10 * i + 10) → ms_E τ 40 j = ms_E σ 40 j) → ms_E τ 40 (72 + r) = ms_E σ 40 (72 + r) ∧ ms_E τ 40 1 = ms_E σ 40 1 ∧ EL (ms_E τ 40) r = EL (ms_E σ 40) r := by
      intro τ hτ
      have a1 := hτ (72 + r) (by omega)
      have a2 := hτ 1 (by omega)
      exact ⟨a1, a2, EL_c hC (by omega) a2 a1 (fun j j1 j2 => hτ j (by omega))⟩
    obtain ⟨v, hv⟩ : ∃ v, v = ms_E σ 40 (72 + r) := ⟨_, rfl⟩
    obtain ⟨N, hN⟩ : ∃ N, N = v.toInt.toNat := ⟨_, rfl⟩
    have hvN : v.toInt = (N : Int) := by rw [hN]; rw [← hv] at hs; omega
    have hN48 : N ≤ 48 := by rw [← hv] at hs; omega
    refine pr_g (fun _ _ => pr_ln (fun σ1 hσ1 => ?_))
    have q1 : ∀ j, j ≠ 92 + 10 * i → ms_E σ1 40 j = ms_E σ 40 j := fun j hj => by rw [hσ1, mE_sE, if_neg (by omega)]
    have p1 : ms_E σ1 40 (92 + 10 * i) = rI := by rw [hσ1, mE_sE, if_pos ⟨rfl, rfl⟩]
    have f1 : fr [] [40] σ σ1 := by rw [hσ1]; exact fr_sE (by decide)
    refine pr_b (v_sizeOf n σ1 r (by omega) rI hrI) (fun w hw => ?_)
    rw [q1 _ (by omega), ← hv] at hw
    subst hw
    refine pr_g (fun _ _ => pr_ln (fun σ2 hσ2 => ?_))
    have q2 : ∀ j, j ≠ 92 + 10 * i → j ≠ 93 + 10 * i → ms_E σ2 40 j = ms_E σ 40 j := fun j hj hj2 => by rw [hσ2, mE_sE, if_neg (by omega)]; exact q1 j hj
    have p2 : ms_E σ2 40 (92 + 10 * i) = rI := by rw [hσ2, mE_sE, if_neg (by omega)]; exact p1
    have p2b : ms_E σ2 40 (93 + 10 * i) = w := by rw [hσ2, mE_sE, if_pos ⟨rfl, rfl⟩]
    have f2 : fr [] [40] σ σ2 := by rw [hσ2]; exact fr_tr f1 (fr_sE (by decide))
    have k2 := key σ2 (fun j hj => q2 j (by omega) (by omega))
    have C2 : rC (ms_E σ2 40) := rC_fz hC i hi16 (fun j hj => q2 j (by omega) (by omega)) (by rw [p2, hrI]; omega) (by rw [p2b, hvN]; omega)
    refine pr_b (v_sizeOf n σ2 r (by omega) rI hrI) (fun w2 hw2 => ?_)
    rw [k2.1, ← hv] at hw2
    subst hw2
    refine pr_b (v_headOf n σ2 C2 r (by omega) rI hrI N w2 hvN (by rw [k2.2.2, EL_len, ← hv]; omega)) (fun hd hhd => ?_)
    rw [k2.2.1, k2.2.2] at hhd
    refine pr_g (fun _ _ => pr_ln (fun σ3 hσ3 => pr_g (fun _ _ => pr_g (fun _ _ => pr_ln (fun σ4 hσ4 => ?_)))))
    have q4 : ∀ j, ¬ (92 + 10 * i ≤ j ∧ j < 96 + 10 * i) → ms_E σ4 40 j = ms_E σ 40 j := fun j hj => by rw [hσ4, mE_sE, if_neg (by omega), hσ3, mE_sE, if_neg (by omega)]; exact q2 j (by omega) (by omega)
    have p4 : ms_E σ4 40 (92 + 10 * i) = rI ∧ ms_E σ4 40 (93 + 10 * i) = w2 ∧ ms_E σ4 40 (94 + 10 * i) = hd ∧ ms_E σ4 40 (95 + 10 * i) = ms_E σ 40 4 := by
      refine ⟨?_, ?_, ?_, ?_⟩
      · rw [hσ4, mE_sE, if_neg (by omega), hσ3, mE_sE, if_neg (by omega)]; exact p2
      · rw [hσ4, mE_sE, if_neg (by omega), hσ3, mE_sE, if_neg (by omega)]; exact p2b
      · rw [hσ4, mE_sE, if_neg (by omega), hσ3, mE_sE, if_pos ⟨rfl, rfl⟩]
      · rw [hσ4, mE_sE, if_pos ⟨rfl, rfl⟩, hσ3, mE_sE, if_neg (by omega)]; exact q2 4 (by omega) (by omega)
    have f4 : fr [] [40] σ σ4 := by rw [hσ4, hσ3]; exact fr_tr f2 (fr_tr (fr_sE (by decide)) (fr_sE (by decide)))
    have k4 := key σ4 (fun j hj => q4 j (by omega))
    have C4 : rC (ms_E σ4 40) := rC_fz hC i hi16 (fun j hj => q4 j (by omega)) (by rw [p4.1, hrI]; omega) (by rw [p4.2.1, hvN]; omega)
    refine pr_b (v_sizeOf n σ4 r (by omega) rI hrI) (fun w3 hw3 => ?_)
    rw [k4.1, ← hv] at hw3
    subst hw3
    refine pr_b (v_peaksOf n σ4 N (by omega) w3 hvN) (fun σ5 h5 => ?_)
    have e5 : ms_E σ5 40 = ms_E σ4 40 := funext (h5.2.2 40 (by decide))
    refine pr_b (v_fetches n σ5 (by rw [e5]; exact C4) r (by omega) rI hrI (pks 6 N 0) h5.1 (fun q hq => ?_)) (fun σ6 h6 => ?_)
    · rw [e5, k4.2.2, EL_len, ← hv, ← hN]
      exact pks_in N (by omega) q hq
    rw [e5, k4.2.1, k4.2.2] at h6
    have e6 : ms_E σ6 40 = ms_E σ4 40 := (funext (h6.2.2.2 40 (by decide))).trans e5
    have f6 : fr [657] [40, 42, 43, 44] σ σ6 := fr_tr (fr_mo f4 (by decide) (by decide)) (fr_tr (fr_mo h5.2 (by decide) (by decide)) (fr_mo h6.2.2 (by decide) (by decide)))
    have hl6 : (pks 6 N 0).length ≤ 6 := pks_six N (by omega)
    refine pr_m (v_freezes_L n (ms_E σ4 40) (92 + 10 * i) (by omega) (by omega) x ex (mkl (ms_E σ 40 1) (EL (ms_E σ 40) r) (pks 6 N 0)) (by rw [mkl_len]; exact hl6) (pks 6 N 0) (by rw [mkl_len]) σ6 n 0 σ6 0 rfl (Nat.zero_le _) h6.2.1 h6.1 (fun j hj => by omega) (fun j _ => by rw [e6]) (by rw [q4 3 (by omega)]; omega) (by rw [q4 3 (by omega)]; omega) fr_rf) (fun res hres => ⟨fun h => by omega, fun _ => ?_⟩)
    obtain ⟨r1, r2, r3, r4, r5, r6⟩ := hres
    rw [q4 3 (by omega)] at r1 r3
    rw [q4 4 (by omega)] at r4
    rw [← hi]
    refine ⟨r1, ⟨?_, ?_, ?_, ?_, fun k hk => ?_, r3, r4, fun j j1 j2 j3 => ?_⟩, fr_tr f6 (fr_mo r6 (by decide) (by decide))⟩
    · rw [r5 _ (by omega) (by omega) (by omega), p4.1]; exact hrI
    · rw [r5 _ (by omega) (by omega) (by omega), p4.2.1, hv]
    · rw [r5 _ (by omega) (by omega) (by omega), p4.2.2.1, hhd, ← hv, ← hN]
    · rw [r5 _ (by omega) (by omega) (by omega), p4.2.2.2]
    · rw [← hv, ← hN] at hk ⊢
      have := r2 k (by rw [mkl_len]; exact hk)
      rw [show 92 + 10 * i + 4 + k = 96 + 10 * i + k by omega] at this
      exact this
    · rw [r5 j (by omega) j2 j3]; exact q4 j (by omega)
/-! ===== the class freezes ===== -/
theorem k_logAt (n : Nat) {α : hp_T} {w : Nat} {f : Nat → Int32} (h : WR α w f) (hC : rC f) (rI : Int32) : ws (f_X10_logAt n α w rI) (fun o => o = if 0 ≤ rI.toInt ∧ rI.toInt < (f 0).toInt then some (lpA w rI.toInt.toNat) else none) := by
  have h4 := hC.1
  have L4 := t_4
  have e552 := h.2.1.2.1
  unfold f_X10_logAt
  refine ws_lt (fun e => ?_) (fun e => ws_l (ws_le (fun e1 => ?_) (fun e1 => ws_l (ws_le (fun e2 => ?_) (fun e2 => ws_l (ws_g (by rw [lt0] at e; omega) (by rw [e552] at e1; omega) ?_))))))
  · rw [lt0] at e
    rw [if_neg (by omega)]; exact ws_s rfl
  · rw [e552] at e1
    rw [if_neg (by omega)]; exact ws_s rfl
  · rw [e552] at e1; omega
  · rw [lt0] at e
    rw [e552] at e1
    rw [if_pos ⟨by omega, by omega⟩, h.1.1, cl_n (k := rI.toInt.toNat) (by omega), h.1.2.2.2.2.2.2.1 rI.toInt.toNat (by omega)]
    exact ws_s rfl
theorem LM_c {α β : hp_T} {lg : Nat} {L : List Int32} (h : LM α lg L) (eR : hp_R β = hp_R α) (eI : hp_I β 152 lg = hp_I α 152 lg) (eE : hp_E β = hp_E α) : LM β lg L := by
  refine ⟨h.1, by rw [eI]; exact h.2.1, fun j hj => ?_⟩
  rw [eR, eE]
  exact h.2.2 j hj
theorem RWL_any {α : hp_T} {a : Nat} (h0 : 0 ≤ (hp_I α 301 a).toInt) (h1 : (hp_I α 301 a).toInt ≤ 64) : ∃ l, RWL α a l := by
  obtain ⟨N, hN⟩ : ∃ N, N = (hp_I α 301 a).toInt.toNat := ⟨_, rfl⟩
  refine ⟨(List.range N).map (fun k => hp_E α 20 (hp_R α 300 a) k), by rw [List.length_map, List.length_range]; omega, by rw [List.length_map, List.length_range]; omega, fun k hk => ?_⟩
  rw [List.length_map, List.length_range] at hk
  rw [List.getElem?_map, List.getElem?_range hk]
  rfl
theorem ltr_k {f g : Nat → Int32} {r i : Nat} (h : ∀ j, 252 ≤ j → g j = f j) : ltr g r i = ltr f r i := by
  unfold ltr
  rw [h _ (by omega)]
  exact List.map_congr_left (fun k hk => h _ (by omega))
theorem EM_c1 {f g : Nat → Int32} {r i : Nat} (h1 : g 1 = f 1) (h : ∀ j, 252 ≤ j → g j = f j) : EM g r i = EM f r i := by
  rw [EM_l, EM_l, ltr_k h, h1]
/-- what freezing leaves in the class -/
theorem WR_frz {α β : hp_T} {w : Nat} {f g : Nat → Int32} {r i : Nat} (h : WR α w f) (hC : rC f) (hr : r < (f 0).toInt.toNat) (hi : i = (f 3).toInt.toNat) (hi16 : i < 16) (eR : hp_R β = hp_R α) (eQ : hp_Q β = hp_Q α) (eI : ∀ φ b, ¬ (b = fzA w i ∧ 100 ≤ φ ∧ φ ≤ 103) → ¬ (b = fzA w i + 1 ∧ φ = 301) → ¬ (b = w ∧ (φ = 554 ∨ φ = 556)) → hp_I β φ b = hp_I α φ b) (eE : ∀ κ b j, ¬ (κ = 33 ∧ b = w + 4) → ¬ (κ = 20 ∧ b = fzA w i + 2) → hp_E β κ b j = hp_E α κ b j) (e3 : hp_I β 554 w = f 3 + 1) (e4 : hp_I β 556 w = f 4 + 1) (hz : (hp_I β 100 (fzA w i)).toInt = (r : Int) ∧ hp_I β 101 (fzA w i) = f (72 + r) ∧ hp_I β 102 (fzA w i) = TMK (f 1) (EL f r) 0 (f (72 + r)).toInt.toNat ∧ hp_I β 103 (fzA w i) = f 4) (hR : RWL β (fzA w i + 1) (mkl (f 1) (EL f r) (pks 6 (f (72 + r)).toInt.toNat 0))) (hg : frF f r i g) : WR β w g := by
  obtain ⟨g1, g2, g3, g4, g5, g6, g7, g8⟩ := hg
  obtain ⟨h1, h2, h3, hF, hW, hX⟩ := h
  have b4 := hC.1
  have hs := hC.2.2.2.2.1 r (by omega)
  have b16 := hC.2.2.2.1
  have c0 : g 0 = f 0 := g8 0 (by omega) (by decide) (by decide)
  have c1 : g 1 = f 1 := g8 1 (by omega) (by decide) (by decide)
  have c252 : ∀ j, 252 ≤ j → g j = f j := fun j hj => g8 j (by omega) (by omega) (by omega)
  have hSβ : SHW β w := SHW_e h1 eR eQ
  have hg3 : (g 3).toInt = (i : Int) + 1 := by rw [g6, ii_add (by rw [lt1]; omega) (by rw [lt1]; omega), lt1]; omega
  refine ⟨hSβ, ⟨?_, ?_, ?_, ?_⟩, fun q hq => ?_, fun q hq => ?_, fun q hq => ?_, fun q hq => ?_⟩
  · rw [eI 550 w (by unfold fzA; omega) (by unfold fzA; omega) (by omega), c1]; exact h2.1
  · rw [eI 552 w (by unfold fzA; omega) (by unfold fzA; omega) (by omega), c0]; exact h2.2.1
  · rw [e3, g6]
  · rw [e4, g7]
  · rw [c0] at hq
    have c72 : g (72 + q) = f (72 + q) := g8 _ (by omega) (by omega) (by omega)
    have hsq := hC.2.2.2.2.1 q (by omega)
    rw [c72]
    refine ⟨by rw [eI 152 _ (by omega) (by omega) (by omega)]; exact (h3 q hq).1, fun e he => ?_⟩
    obtain ⟨⟨d1, d2, d3, d4⟩, d5⟩ := (h3 q hq).2 e he
    have hsh := (h1.2.2.2.2.2.2.2.2.2.2.2.1 q (by omega)).2.2 e (by omega)
    unfold EN
    rw [ltr_k c252, EM_c1 c1 c252]
    refine ⟨⟨d1, by rw [eI 501 _ (by omega) (by omega) (by omega)]; exact d2, fun k hk => ?_, d4⟩, ?_⟩
    · rw [eR, eE 27 _ k (by omega) (by omega)]; exact d3 k hk
    · rw [eE 29 _ e (by omega) (by omega)]; exact d5
  · by_cases hqi : q = i
    · subst hqi
      have hpk : pkn (g (93 + 10 * q)).toInt.toNat = (pks 6 (f (72 + r)).toInt.toNat 0).length := by rw [g2]; exact (pks_pkn _ (by omega)).symm
      have hshz := h1.2.2.2.2.2.2.2.2.2.2.2.2 q hi16
      refine ⟨Int32.toInt_inj.mp (by rw [hz.1, g1]), by rw [hz.2.1, g2], by rw [hz.2.2.1, g3], by rw [hz.2.2.2, g4], ?_, fun k hk hP => ?_⟩
      · intro hP; rw [hR.2.1, mkl_len, hpk]
      · rw [hpk] at hk
        have := hR.2.2 k (by rw [mkl_len]; exact hk)
        rw [eR, hshz.2, ← g5 k hk] at this
        exact Option.some.inj this
    · have hqlt : q < i := by omega
      obtain ⟨d1, d2, d3, d4, d5, d6⟩ := hF q (by omega)
      have e : ∀ k, k < 10 → g (92 + 10 * q + k) = f (92 + 10 * q + k) := fun k hk => g8 _ (by omega) (by omega) (by omega)
      have e93 : g (93 + 10 * q) = f (93 + 10 * q) := g8 _ (by omega) (by omega) (by omega)
      have hp : pkn (f (93 + 10 * q)).toInt.toNat ≤ 6 := by unfold pkn; omega
      refine ⟨?_, ?_, ?_, ?_, ?_, fun k hk hP => ?_⟩
      · rw [eI 100 _ (by unfold fzA; omega) (by unfold fzA; omega) (by omega), d1]; exact (e 0 (by omega)).symm
      · rw [eI 101 _ (by unfold fzA; omega) (by unfold fzA; omega) (by omega), d2, e93]
      · rw [eI 102 _ (by unfold fzA; omega) (by unfold fzA; omega) (by omega), d3]; exact (g8 _ (by omega) (by omega) (by omega)).symm
      · rw [eI 103 _ (by unfold fzA; omega) (by unfold fzA; omega) (by omega), d4]; exact (g8 _ (by omega) (by omega) (by omega)).symm
      · rw [eI 301 _ (by unfold fzA; omega) (by unfold fzA; omega) (by omega), e93]; exact d5
      · rw [e93] at hk
        rw [eE 20 _ k (by omega) (by unfold fzA; omega), d6 k hk hP]; exact (g8 _ (by omega) (by omega) (by omega)).symm
  · obtain ⟨d1, d2, d3, d4⟩ := hW q hq
    have hI : ∀ φ, 400 ≤ φ → φ ≤ 403 → hp_I β φ (wtA w q) = hp_I α φ (wtA w q) := fun φ _ _ => eI φ _ (by omega) (by omega) (by omega)
    refine ⟨?_, ?_, ?_, ?_⟩
    · rw [hI 400 (by decide) (by decide), d1]; exact (g8 _ (by omega) (by omega) (by omega)).symm
    · rw [hI 401 (by decide) (by decide), d2]; exact (g8 _ (by omega) (by omega) (by omega)).symm
    · rw [hI 403 (by decide) (by decide), d3]; exact (g8 _ (by omega) (by omega) (by omega)).symm
    · rw [hI 402 (by decide) (by decide), d4]; exact (g8 _ (by omega) (by omega) (by omega)).symm
  · by_cases hqi : q = i
    · subst hqi
      rw [hR.2.1, mkl_len]
      have := pks_six (f (72 + r)).toInt.toNat (by omega)
      omega
    · rw [eI 301 _ (by unfold fzA; omega) (by unfold fzA; omega) (by omega)]; exact hX q hq
/-- what stays, of all that is not in a world -/
def wfr (w : Nat) (α β : hp_T) : Prop := hp_R β = hp_R α ∧ hp_K β = hp_K α ∧ hp_Q β = hp_Q α ∧ hp_N β = hp_N α ∧ (∀ φ b, b < w ∨ w + 459 ≤ b → hp_I β φ b = hp_I α φ b) ∧ ∀ κ b j, b < w ∨ w + 459 ≤ b → hp_E β κ b j = hp_E α κ b j
theorem k_freezeHead (n : Nat) (hn : 70000 ≤ n) (α : hp_T) (w : Nat) (f : Nat → Int32) (h : WR α w f) (hC : rC f) (r : Nat) (hr : r < (f 0).toInt.toNat) (h16 : (f 3).toInt < 16) (rI : Int32) (hrI : rI.toInt = (r : Int)) : ws (f_X10_freezeHead n α w rI) (fun res => res.1 = f 3 ∧ (∀ g, frF f r (f 3).toInt.toNat g → WR res.2 w g) ∧ wfr w α res.2 ∧ hp_I res.2 301 (w + 5) = hp_I α 301 (w + 5)) := by
  have b4 := hC.1
  have b16 := hC.2.2.2.1
  have hs := hC.2.2.2.2.1 r (by omega)
  have L16 := t_16
  obtain ⟨i, hi⟩ : ∃ i, i = (f 3).toInt.toNat := ⟨_, rfl⟩
  have e554 := h.2.1.2.2.1
  have hcl : (hp_I α 554 w).toNatClampNeg = i := cl_n (by rw [e554]; omega)
  have hq : hp_Q α 31 (hp_R α 553 w) (hp_I α 554 w).toNatClampNeg = some (fzA w i) := by rw [hcl, h.1.2.1]; exact h.1.2.2.2.2.2.2.2.1 i (by omega)
  unfold f_X10_freezeHead
  refine ws_b (k_logAt n h hC rI) (fun o ho => ?_)
  rw [if_pos ⟨by omega, by omega⟩, hrI] at ho
  rw [show ((r : Int)).toNat = r by omega] at ho
  subst ho
  refine ws_hS (ws_l (ws_lt (fun e => by rw [lt0, e554] at e; omega) (fun _ => ws_l (ws_l (ws_le (fun e => by rw [e554] at e; omega) (fun _ => ws_l (ws_l (ws_g (by rw [e554]; omega) (by rw [e554]; omega) ?_))))))))
  rw [hq]
  refine ws_hS (ws_l (ws_l (ws_g (by rw [e554]; omega) (by rw [e554]; omega) ?_)))
  rw [hq]
  refine ws_hS (ws_ln (fun α1 hα1 => ws_ln (fun x1 hx1 => ws_ln (fun α2 hα2 => ws_ln (fun x2 hx2 => ?_)))))
  have q152 : hp_I α 152 (lpA w r) = f (72 + r) := (h.2.2.1 r hr).1
  have x1e : x1 = f (72 + r) := by rw [hx1, hα1, hI_sI, if_neg (by omega)]; exact q152
  have i2 : ∀ φ b, ¬ (b = fzA w i ∧ (φ = 100 ∨ φ = 101)) → hp_I α2 φ b = hp_I α φ b := fun φ b q => by rw [hα2, hI_sI, if_neg (by omega), hα1, hI_sI, if_neg (by omega)]
  have x2e : x2 = f (72 + r) := by rw [hx2, i2 152 _ (by omega)]; exact q152
  have r2 : hp_R α2 = hp_R α ∧ hp_K α2 = hp_K α ∧ hp_Q α2 = hp_Q α ∧ hp_N α2 = hp_N α ∧ hp_E α2 = hp_E α := by rw [hα2, hα1]; exact ⟨rfl, rfl, rfl, rfl, rfl⟩
  have L0 := WR_LM h hC hr
  have L2 : LM α2 (lpA w r) (EL f r) := LM_c L0 r2.1 (i2 152 _ (by omega)) r2.2.2.2.2
  have hm : 0 < (f 1).toInt := by have := hC.2.1; omega
  obtain ⟨N, hN⟩ : ∃ N, N = (f (72 + r)).toInt.toNat := ⟨_, rfl⟩
  refine ws_hc (k_headOf n hn w α2 (f 1) hm (by rw [i2 550 w (by omega)]; exact h.2.1.1) (lpA w r) (EL f r) L2 N (by rw [EL_len]; omega) x2 (by rw [x2e]; omega)) (fun v β hv => ?_)
  obtain ⟨hv1, j1, j2, j3, j4, j5, j6⟩ := hv
  refine ws_ln (fun α3 hα3 => ws_ln (fun x3 hx3 => ws_ln (fun α4 hα4 => ws_ln (fun x4 hx4 => ws_l ?_))))
  have i4 : ∀ φ b, ¬ (b = fzA w i ∧ 100 ≤ φ ∧ φ ≤ 103) → hp_I α4 φ b = hp_I α φ b := fun φ b q => by rw [hα4, hI_sI, if_neg (by omega), hα3, hI_sI, if_neg (by omega), j5]; exact i2 φ b (by omega)
  have x3e : x3 = f 4 := by rw [hx3, hα3, hI_sI, if_neg (by omega), j5, i2 556 w (by omega)]; exact h.2.1.2.2.2
  have x4e : x4 = f (72 + r) := by rw [hx4, i4 152 _ (by omega)]; exact q152
  have r4 : hp_R α4 = hp_R α ∧ hp_K α4 = hp_K α ∧ hp_Q α4 = hp_Q α ∧ hp_N α4 = hp_N α ∧ hp_E α4 = hp_E β := by
    rw [hα4, hα3]
    exact ⟨j1.trans r2.1, j2.trans r2.2.1, j3.trans r2.2.2.1, j4.trans r2.2.2.2.1, rfl⟩
  have hR557 : hp_R α2 557 w = w + 4 := by rw [r2.1]; exact h.1.2.2.2.1
  have E4 : ∀ κ b j, ¬ (κ = 33 ∧ b = w + 4) → hp_E α4 κ b j = hp_E α κ b j := fun κ b j q => by rw [r4.2.2.2.2, j6 κ b j (by rw [hR557]; exact q), r2.2.2.2.2]
  have z4 : hp_I α4 100 (fzA w i) = rI ∧ hp_I α4 101 (fzA w i) = f (72 + r) ∧ hp_I α4 102 (fzA w i) = v ∧ hp_I α4 103 (fzA w i) = f 4 := by
    refine ⟨?_, ?_, ?_, ?_⟩
    · rw [hα4, hI_sI, if_neg (by omega), hα3, hI_sI, if_neg (by omega), j5, hα2, hI_sI, if_neg (by omega), hα1, hI_sI, if_pos ⟨rfl, rfl⟩]
    · rw [hα4, hI_sI, if_neg (by omega), hα3, hI_sI, if_neg (by omega), j5, hα2, hI_sI, if_pos ⟨rfl, rfl⟩, x1e]
    · rw [hα4, hI_sI, if_neg (by omega), hα3, hI_sI, if_pos ⟨rfl, rfl⟩]
    · rw [hα4, hI_sI, if_pos ⟨rfl, rfl⟩, x3e]
  have L4' : LM α4 (lpA w r) (EL f r) := by
    refine ⟨L0.1, by rw [i4 152 _ (by omega)]; exact L0.2.1, fun j hj => ?_⟩
    rw [r4.1, E4 29 _ _ (by omega)]
    exact L0.2.2 j hj
  have hshz := h.1.2.2.2.2.2.2.2.2.2.2.2.2 i (by omega)
  have hb : hp_R α4 104 (fzA w i) = fzA w i + 1 := by rw [r4.1]; exact hshz.1
  rw [hb]
  have hX := h.2.2.2.2.2 i (by omega)
  obtain ⟨l, hl⟩ := RWL_any (α := α4) (a := fzA w i + 1) (by rw [i4 301 _ (by omega)]; exact hX.1) (by rw [i4 301 _ (by omega)]; exact hX.2)
  refine ws_b (k_peaksOf n hn w (fzA w i + 1) α4 (f 1) hm (by rw [i4 550 w (by omega)]; exact h.2.1.1) (lpA w r) (EL f r) L4' N (by rw [EL_len]; omega) x4 (by rw [x4e]; omega) l hl) (fun γ hγ => ?_)
  obtain ⟨hRγ, k1, k2, k3, k4, k5, k6⟩ := hγ
  have hR557' : hp_R α4 557 w = w + 4 := by rw [r4.1]; exact h.1.2.2.2.1
  have hR300 : hp_R α4 300 (fzA w i + 1) = fzA w i + 2 := by rw [r4.1]; exact hshz.2
  rw [hR557', hR300] at k6
  refine ws_ln (fun x5 hx5 => ws_ln (fun α5 hα5 => ws_ln (fun x6 hx6 => ws_ln (fun α6 hα6 => ws_l (ws_s ?_)))))
  have x5e : x5 = f 3 := by rw [hx5, k5 554 w (by omega), i4 554 w (by unfold fzA; omega)]; exact e554
  have x6e : x6 = f 4 := by rw [hx6, hα5, hI_sI, if_neg (by omega), k5 556 w (by omega), i4 556 w (by unfold fzA; omega)]; exact h.2.1.2.2.2
  have i6 : ∀ φ b, ¬ (b = w ∧ (φ = 554 ∨ φ = 556)) → hp_I α6 φ b = hp_I γ φ b := fun φ b q => by rw [hα6, hI_sI, if_neg (by omega), hα5, hI_sI, if_neg (by omega)]
  have r6 : hp_R α6 = hp_R α ∧ hp_K α6 = hp_K α ∧ hp_Q α6 = hp_Q α ∧ hp_N α6 = hp_N α ∧ hp_E α6 = hp_E γ := by
    rw [hα6, hα5]
    exact ⟨k1.trans r4.1, k2.trans r4.2.1, k3.trans r4.2.2.1, k4.trans r4.2.2.2.1, rfl⟩
  have eI : ∀ φ b, ¬ (b = fzA w i ∧ 100 ≤ φ ∧ φ ≤ 103) → ¬ (b = fzA w i + 1 ∧ φ = 301) → ¬ (b = w ∧ (φ = 554 ∨ φ = 556)) → hp_I α6 φ b = hp_I α φ b := fun φ b q1 q2 q3 => by rw [i6 φ b q3, k5 φ b q2]; exact i4 φ b q1
  have eE : ∀ κ b j, ¬ (κ = 33 ∧ b = w + 4) → ¬ (κ = 20 ∧ b = fzA w i + 2) → hp_E α6 κ b j = hp_E α κ b j := fun κ b j q1 q2 => by rw [r6.2.2.2.2, k6 κ b j q1 q2]; exact E4 κ b j q1
  have e3 : hp_I α6 554 w = f 3 + 1 := by rw [hα6, hI_sI, if_neg (by omega), hα5, hI_sI, if_pos ⟨rfl, rfl⟩, x5e]
  have e4 : hp_I α6 556 w = f 4 + 1 := by rw [hα6, hI_sI, if_pos ⟨rfl, rfl⟩, x6e]
  refine ⟨?_, fun g hg => ?_, ⟨r6.1, r6.2.1, r6.2.2.1, r6.2.2.2.1, fun φ b q => eI φ b (by unfold fzA; omega) (by unfold fzA; omega) (by omega), fun κ b j q => eE κ b j (by omega) (by unfold fzA; omega)⟩, eI 301 _ (by unfold fzA; omega) (by unfold fzA; omega) (by omega)⟩
  · show hp_I α6 554 w - 1 = f 3
    rw [e3]
    refine Int32.toInt_inj.mp ?_
    have e1 : (f 3 + 1).toInt = (f 3).toInt + 1 := by rw [ii_add (by rw [lt1]; omega) (by rw [lt1]; omega), lt1]
    rw [ii_sub (by rw [lt1]; omega) (by rw [lt1]; omega), e1, lt1]; omega
  · rw [← hi] at hg
    refine WR_frz h hC hr hi (by omega) r6.1 r6.2.2.1 eI eE e3 e4 ⟨?_, ?_, ?_, ?_⟩ ?_ hg
    · rw [i6 100 _ (by omega), k5 100 _ (by omega), z4.1]; exact hrI
    · rw [i6 101 _ (by omega), k5 101 _ (by omega), z4.2.1]
    · rw [i6 102 _ (by omega), k5 102 _ (by omega), z4.2.2.1, ← hN]; exact hv1
    · rw [i6 103 _ (by omega), k5 103 _ (by omega), z4.2.2.2]
    · rw [← hN]
      refine ⟨hRγ.1, by rw [i6 301 _ (by omega)]; exact hRγ.2.1, fun k hk => ?_⟩
      rw [r6.1, ← (k1.trans r4.1), r6.2.2.2.2]
      exact hRγ.2.2 k hk
