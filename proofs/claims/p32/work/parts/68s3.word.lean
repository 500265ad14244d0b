set_option maxRecDepth 100000
/-! ===== the class's trees of marks ===== -/
theorem JN_get (g : Int32 → Int32 → Int32) : ∀ (j : Nat) (l : List Int32), (∀ h : 2 * j + 1 < l.length, (JN g l)[j]? = some (g l[2 * j] l[2 * j + 1])) ∧ (2 * j + 1 = l.length → (JN g l)[j]? = l[2 * j]?) := by
  intro j
  induction j with
  | zero =>
    intro l
    match l with
    | [] => simp
    | [a] => simp [JN]
    | a :: b :: l => simp [JN]
  | succ j ih =>
    intro l
    match l with
    | [] => simp
    | [a] => simp
    | a :: b :: l =>
      obtain ⟨h1, h2⟩ := ih l
      constructor
      · intro h
        have h' : 2 * j + 1 < l.length := by simp at h; omega
        rw [JN, List.getElem?_cons_succ, h1 h']
        simp [show 2 * (j + 1) = 2 * j + 1 + 1 by omega]
      · intro h
        have h' : 2 * j + 1 = l.length := by simp at h; omega
        rw [JN, List.getElem?_cons_succ, h2 h', show 2 * (j + 1) = 2 * j + 1 + 1 by omega, List.getElem?_cons_succ, List.getElem?_cons_succ]
/-- only the row for joining changes -/
def jf (w : Nat) (α β : hp_T) : Prop := hp_R β = hp_R α ∧ hp_K β = hp_K α ∧ hp_Q β = hp_Q α ∧ hp_N β = hp_N α ∧ hp_I β = hp_I α ∧ ∀ κ b j, ¬ (κ = 33 ∧ b = hp_R α 557 w) → hp_E β κ b j = hp_E α κ b j
theorem jf_rf {w : Nat} {α : hp_T} : jf w α α := ⟨rfl, rfl, rfl, rfl, rfl, fun _ _ _ _ => rfl⟩
theorem jf_tr {w : Nat} {α β γ : hp_T} (h : jf w α β) (g : jf w β γ) : jf w α γ := by
  obtain ⟨h1, h2, h3, h4, h5, h6⟩ := h
  obtain ⟨g1, g2, g3, g4, g5, g6⟩ := g
  rw [h1] at g6
  exact ⟨g1.trans h1, g2.trans h2, g3.trans h3, g4.trans h4, g5.trans h5, fun κ b j q => (g6 κ b j q).trans (h6 κ b j q)⟩
theorem jf_sE {w j : Nat} {α : hp_T} {v : Int32} : jf w α (hp_sE α 33 (hp_R α 557 w) j v) :=
  ⟨rfl, rfl, rfl, rfl, rfl, fun κ b i q => by rw [hE_sE, if_neg (fun e => q ⟨e.1, e.2.1⟩)]⟩
theorem k_treeJ (n : Nat) (w : Nat) (α β : hp_T) (hf : jf w α β) (x : Int32) (hx : hp_E β 33 (hp_R α 557 w) 0 = x) : ws (f_X10_treeMarks_J161 n w β) (fun res => res.1 = x ∧ jf w α res.2) := by
  unfold f_X10_treeMarks_J161
  refine ws_l (ws_g (by decide) (by decide) (ws_s ⟨?_, hf⟩))
  rw [hf.1]
  exact hx
theorem k_tree77 (n : Nat) (w : Nat) (α : hp_T) (m : Int32) (hm : 0 < m.toInt) (hmα : hp_I α 550 w = m) (l : List Int32) (hl2 : 2 ≤ l.length) (hl48 : l.length ≤ 48) (rec55 : hp_T → Int32 → Int32 → Option (Int32 × hp_T)) (P : Int32 × hp_T → Prop) (dI : Int32) (hrec : ∀ (β : hp_T) (rI : Int32), jf w α β → rI.toInt = ((JN (bt m) l).length : Int) → (∀ j, j < (JN (bt m) l).length → some (hp_E β 33 (hp_R α 557 w) j) = (JN (bt m) l)[j]?) → ws (rec55 β rI (dI + 1)) P) : ∀ (d k : Nat) (β : hp_T) (kI rI pI : Int32), rI.toInt = (l.length : Int) → pI.toInt = ((l.length / 2 : Nat) : Int) → kI.toInt = (k : Int) → k ≤ l.length / 2 → jf w α β → (∀ j, j < k → some (hp_E β 33 (hp_R α 557 w) j) = (JN (bt m) l)[j]?) → (∀ j, 2 * k ≤ j → ∀ h : j < l.length, hp_E β 33 (hp_R α 557 w) j = l[j]) → l.length / 2 + 1 - k ≤ d → ws (f_X10_treeMarks_L77 n w rec55 d β rI dI pI kI) P := by
  intro d
  induction d with
  | zero => intro k β kI rI pI h1 h2 h3 h4 hf hA hB hd; omega
  | succ d ih =>
    intro k β kI rI pI h1 h2 h3 h4 hf hA hB hd
    have l2 := t_2
    have hJl := JN_len (bt m) _ l (Nat.le_refl _)
    have hsub : (rI - pI).toInt = ((JN (bt m) l).length : Int) := by rw [ii_sub (by omega) (by omega), h1, h2, hJl]; omega
    have hR := hf.1
    rw [f_X10_treeMarks_L77.eq_2]
    refine ws_le (fun e => ?_) (fun e => ?_)
    · have hk : k = l.length / 2 := by omega
      have hrem : (rI - rI / (2 : Int32) * (2 : Int32)).toInt = (l.length : Int) % 2 := by rw [ii_rem (by omega) (by decide), h1, l2]
      unfold f_X10_treeMarks_J148
      refine ws_e (fun e1 => ?_) (fun e1 => ?_)
      · have hodd : l.length % 2 = 1 := by have := il_eq e1; rw [hrem, lt1] at this; omega
        have hr1 : (rI - 1).toInt = ((l.length - 1 : Nat) : Int) := by rw [ii_sub (by rw [lt1]; omega) (by rw [lt1]; omega), h1, lt1]; omega
        refine ws_l (ws_l (ws_g (by omega) (by omega) (ws_g (by omega) (by omega) (ws_l (ws_l (ws_l (hrec _ _ (jf_tr hf (by rw [hR]; exact hR ▸ jf_sE)) hsub ?_)))))))
        intro j hj
        rw [hE_sE, cl_n h2, cl_n hr1, hR]
        by_cases hjp : j = l.length / 2
        · subst hjp
          rw [if_pos ⟨rfl, rfl, rfl⟩, hB (l.length - 1) (by omega) (by omega), (JN_get (bt m) (l.length / 2) l).2 (by omega), show 2 * (l.length / 2) = l.length - 1 by omega, List.getElem?_eq_getElem (by omega)]
        · rw [if_neg (fun h => hjp h.2.2)]
          exact hA j (by omega)
      · have heven : l.length % 2 = 0 := by
          have h01 : l.length % 2 = 0 ∨ l.length % 2 = 1 := by omega
          rcases h01 with h | h
          · exact h
          · exact absurd (by rw [hrem, lt1]; omega) e1
        refine ws_l (ws_l (hrec _ _ hf hsub (fun j hj => hA j (by omega))))
    · have hk : k < l.length / 2 := by omega
      have e2k : ((2 : Int32) * kI).toInt = ((2 * k : Nat) : Int) := by rw [ii_mul (by rw [l2]; omega) (by rw [l2]; omega), l2, h3]; omega
      have e2k1 : ((2 : Int32) * kI + (1 : Int32)).toInt = ((2 * k + 1 : Nat) : Int) := by rw [ii_add (by rw [lt1]; omega) (by rw [lt1]; omega), e2k, lt1]; omega
      have hkn : (kI + 1).toInt = ((k + 1 : Nat) : Int) := by rw [ii_add (by rw [lt1]; omega) (by rw [lt1]; omega), h3, lt1]; omega
      refine ws_l (ws_l (ws_l (ws_g (by omega) (by omega) (ws_l (ws_g (by omega) (by omega) ?_)))))
      rw [hf.2.2.2.2.1, hmα, cl_n e2k, cl_n e2k1, hR, hB (2 * k) (by omega) (by omega), hB (2 * k + 1) (by omega) (by omega)]
      refine ws_b (k_two n m _ _ hm) (fun v hv => ws_g (by omega) (by omega) (ws_l (ws_l (ih (k + 1) _ _ rI pI h1 h2 hkn (by omega) (jf_tr hf (hR ▸ jf_sE)) (fun j hj => ?_) (fun j hj hjl => ?_) (by omega)))))
      · rw [hE_sE, cl_n h3]
        by_cases hjk : j = k
        · rw [if_pos ⟨rfl, rfl, hjk⟩, hv, hjk]
          exact ((JN_get (bt m) k l).1 (by omega)).symm
        · rw [if_neg (fun h => hjk h.2.2)]
          exact hA j (by omega)
      · rw [hE_sE, cl_n h3, if_neg (fun h => by have := h.2.2; omega)]
        exact hB j (by omega) hjl
theorem k_tree55 (n : Nat) (hn : 70000 ≤ n) (w : Nat) (α : hp_T) (m : Int32) (hm : 0 < m.toInt) (hmα : hp_I α 550 w = m) : ∀ (e d : Nat) (l : List Int32) (β : hp_T) (rI dI : Int32), 1 ≤ l.length → l.length ≤ 48 → l.length ≤ 2 ^ e → e + 1 ≤ d → rI.toInt = (l.length : Int) → 0 ≤ dI.toInt → dI.toInt + e ≤ 40 → jf w α β → (∀ j, j < l.length → some (hp_E β 33 (hp_R α 557 w) j) = l[j]?) → ws (f_X10_treeMarks_L55 n w d β rI dI) (fun res => res.1 = TR (bt m) e l ∧ jf w α res.2) := by
  intro e
  induction e with
  | zero =>
    intro d l β rI dI h1 h48 he hd hr hd0 hd1 hf hA
    obtain ⟨d, rfl⟩ : ∃ d', d = d' + 1 := ⟨d - 1, by omega⟩
    have hl1 : l.length = 1 := by simp at he; omega
    have hx : hp_E β 33 (hp_R α 557 w) 0 = TR (bt m) 0 l := by
      have := hA 0 (by omega)
      match l, hl1 with
      | [a], _ => simpa [TR] using this
    rw [f_X10_treeMarks_L55.eq_2]
    exact ws_le (fun _ => k_treeJ n w α β hf _ hx) (fun _ => ws_le (fun _ => k_treeJ n w α β hf _ hx) (fun h => by rw [lt1] at h; omega))
  | succ e ih =>
    intro d l β rI dI h1 h48 he hd hr hd0 hd1 hf hA
    obtain ⟨d, rfl⟩ : ∃ d', d = d' + 1 := ⟨d - 1, by omega⟩
    have L40 : (40 : Int32).toInt = 40 := by decide
    rw [f_X10_treeMarks_L55.eq_2]
    refine ws_le (fun h => by omega) (fun _ => ws_le (fun h => ?_) (fun h => ws_l ?_))
    · rw [lt1] at h
      have hl1 : l.length = 1 := by omega
      rw [TR_1 _ _ (by omega)]
      refine k_treeJ n w α β hf _ ?_
      have := hA 0 (by omega)
      match l, hl1 with
      | [a], _ => simpa using this
    · rw [lt1, hr] at h
      have hdv : (rI / (2 : Int32)).toInt = ((l.length / 2 : Nat) : Int) := by rw [ii_div (by omega) (by decide), hr, t_2]; omega
      rw [TR_JN _ _ _ he]
      have hJl := JN_len (bt m) _ l (Nat.le_refl _)
      refine k_tree77 n w α m hm hmα l (by omega) h48 _ _ dI (fun γ sI hg hs hB => ?_) n 0 β 0 rI _ hr hdv rfl (Nat.zero_le _) hf (fun j hj => by omega) (fun j _ hj => ?_) (by omega)
      · exact ih d (JN (bt m) l) γ sI (dI + 1) (by omega) (by omega) (by rw [hJl]; rw [Nat.pow_succ] at he; omega) (by omega) hs (by rw [ii_add (by rw [lt1]; omega) (by rw [lt1]; omega), lt1]; omega) (by rw [ii_add (by rw [lt1]; omega) (by rw [lt1]; omega), lt1]; omega) hg hB
      · have := hA j hj
        rw [List.getElem?_eq_getElem hj] at this
        exact Option.some.inj this
/-- the marks of a log: what its row holds -/
def LM (α : hp_T) (lg : Nat) (L : List Int32) : Prop := L.length ≤ 48 ∧ (hp_I α 152 lg).toInt = (L.length : Int) ∧ ∀ j, j < L.length → some (hp_E α 29 (hp_R α 151 lg) j) = L[j]?
theorem LM_jf {α β : hp_T} {w lg : Nat} {L : List Int32} (h : LM α lg L) (f : jf w α β) : LM β lg L := by
  obtain ⟨f1, -, -, -, f5, f6⟩ := f
  refine ⟨h.1, by rw [f5]; exact h.2.1, fun j hj => ?_⟩
  rw [f1, f6 29 _ _ (fun q => absurd q.1 (by decide))]
  exact h.2.2 j hj
theorem k_markAt (n : Nat) {α : hp_T} {lg : Nat} {L : List Int32} (h : LM α lg L) (i : Nat) (iI : Int32) (hi : iI.toInt = (i : Int)) (hl : i < L.length) : ws (f_X2_markAt n α lg iI) (fun r => r = L[i]) := by
  have L48 := t_48
  obtain ⟨h1, h2, h3⟩ := h
  unfold f_X2_markAt
  refine ws_lt (fun e => by rw [lt0] at e; omega) (fun _ => ws_l (ws_le (fun e => by omega) (fun _ => ws_l (ws_le (fun e => by omega) (fun _ => ws_l (ws_g (by omega) (by omega) (ws_s ?_)))))))
  rw [cl_n hi]
  have := h3 i hl
  rw [List.getElem?_eq_getElem hl] at this
  exact Option.some.inj this
theorem k_tree24 (n : Nat) (hn : 70000 ≤ n) (w : Nat) (α : hp_T) (m : Int32) (hm : 0 < m.toInt) (hmα : hp_I α 550 w = m) (lg : Nat) (L : List Int32) (hL : LM α lg L) (f k : Nat) (hk : 1 ≤ k) (hfk : f + k ≤ L.length) (fI kI : Int32) (hf : fI.toInt = (f : Int)) (hkI : kI.toInt = (k : Int)) : ∀ (d j : Nat) (β : hp_T) (jI : Int32), jI.toInt = (j : Int) → j ≤ k → jf w α β → (∀ i, i < j → some (hp_E β 33 (hp_R α 557 w) i) = L[f + i]?) → k + 1 - j ≤ d → ws (f_X10_treeMarks_L24 n w d β lg fI kI jI) (fun res => res.1 = TR (bt m) 6 ((L.drop f).take k) ∧ jf w α res.2) := by
  intro d
  induction d with
  | zero => intro j β jI h1 h2 h3 h4 h5; omega
  | succ d ih =>
    intro j β jI h1 h2 h3 h4 h5
    have h48 := hL.1
    rw [f_X10_treeMarks_L24.eq_2]
    refine ws_le (fun e => ?_) (fun e => ?_)
    · have hjk : j = k := by omega
      have hlen : ((L.drop f).take k).length = k := by rw [List.length_take, List.length_drop]; omega
      refine k_tree55 n hn w α m hm hmα 6 n _ β kI 0 (by omega) (by omega) (by rw [hlen]; omega) (by omega) (by rw [hlen]; exact hkI) (by decide) (by decide) h3 (fun i hi => ?_)
      rw [hlen] at hi
      rw [h4 i (by omega), List.getElem?_take_of_lt hi, List.getElem?_drop]
    · have hjn : (jI + 1).toInt = ((j + 1 : Nat) : Int) := by rw [ii_add (by rw [lt1]; omega) (by rw [lt1]; omega), h1, lt1]; omega
      have hfj : (fI + jI).toInt = ((f + j : Nat) : Int) := by rw [ii_add (by omega) (by omega), hf, h1]; omega
      refine ws_l (ws_b (k_markAt n (LM_jf hL h3) (f + j) _ hfj (by omega)) (fun v hv => ws_g (by omega) (by omega) (ws_l (ws_l (ih (j + 1) _ _ hjn (by omega) (jf_tr h3 jf_sE) (fun i hi => ?_) (by omega))))))
      rw [hE_sE, cl_n h1, h3.1]
      by_cases hij : i = j
      · rw [if_pos ⟨rfl, rfl, hij⟩, hv, hij, List.getElem?_eq_getElem (by omega)]
      · rw [if_neg (fun h => hij h.2.2)]
        exact h4 i (by omega)
/-- a tree's mark out of marks: 0 of nothing -/
def TMK (m : Int32) (L : List Int32) (f k : Nat) : Int32 := if k = 0 then 0 else TR (bt m) 6 ((L.drop f).take k)
theorem k_min (n : Nat) (a b : Int32) (h : a.toInt ≤ b.toInt) : ws (f_J9_min_7cf53 n a b) (fun r => r = a) := by
  unfold f_J9_min_7cf53
  exact ws_lt (fun e => by omega) (fun e => ws_s rfl)
theorem k_treeMark (n : Nat) (hn : 70000 ≤ n) (w : Nat) (α : hp_T) (m : Int32) (hm : 0 < m.toInt) (hmα : hp_I α 550 w = m) (lg : Nat) (L : List Int32) (hL : LM α lg L) (f k : Nat) (hfk : f + k ≤ L.length) (fI kI : Int32) (hf : fI.toInt = (f : Int)) (hkI : kI.toInt = (k : Int)) : ws (f_X10_treeMark n α w (some lg) fI kI) (fun res => res.1 = TMK m L f k ∧ jf w α res.2) := by
  have h48 := hL.1
  have L48 := t_48
  show ws (if 0 < kI then _ else _) _
  refine ws_lt (fun e => ws_l ?_) (fun e => ws_s ⟨?_, jf_rf⟩)
  · rw [lt0] at e
    have eT : TMK m L f k = TR (bt m) 6 ((L.drop f).take k) := by unfold TMK; rw [if_neg (by omega)]
    rw [eT]
    refine ws_b (k_min n kI 48 (by omega)) (fun r hr => ?_)
    subst hr
    exact k_tree24 n hn w α m hm hmα lg L hL f k (by omega) hfk fI r hf hkI n 0 α 0 rfl (Nat.zero_le _) jf_rf (fun i hi => by omega) (by omega)
  · rw [lt0] at e
    unfold TMK
    rw [if_pos (by omega)]
/-! ===== the reference's marks of entries and trees ===== -/
def eml (m : Int32) (g : Nat → Int32) : Nat → Int32
  | 0 => 1
  | k + 1 => mx m (eml m g k) (g k)
/-- an entry's mark out of the cells -/
def EM (f : Nat → Int32) (r i : Nat) : Int32 := eml (f 1) (fun k => f (444 + 8 * (48 * r + i) + k)) (f (252 + (48 * r + i))).toInt.toNat
theorem v_entryMark_L (n : Nat) (σ : ms_T) (a : Nat) (ha : a < 192) (aI : Int32) (haI : aI.toInt = (a : Int)) (h0 : 0 ≤ (ms_E σ 40 (252 + a)).toInt) (h8 : (ms_E σ 40 (252 + a)).toInt ≤ 8) : ∀ (d k : Nat) (kI hI : Int32), kI.toInt = (k : Int) → k ≤ (ms_E σ 40 (252 + a)).toInt.toNat → hI = eml (ms_E σ 40 1) (fun k => ms_E σ 40 (444 + 8 * a + k)) k → pr (f_X12_entryMark_L13 n σ d hI aI kI) (fun r => r = eml (ms_E σ 40 1) (fun k => ms_E σ 40 (444 + 8 * a + k)) (ms_E σ 40 (252 + a)).toInt.toNat) := by
  intro d
  induction d with
  | zero => intro k kI hI h1 h2 h3; rw [f_X12_entryMark_L13.eq_1]; exact pr_0
  | succ d ih =>
    intro k kI hI h1 h2 h3
    have L252 : (252 : Int32).toInt = 252 := by decide
    have L444 : (444 : Int32).toInt = 444 := by decide
    have L8 := t_8
    have e1 : ((252 : Int32) + aI).toInt = ((252 + a : Nat) : Int) := by rw [ii_add (by omega) (by omega), L252, haI]; omega
    have e2 : ((8 : Int32) * aI).toInt = ((8 * a : Nat) : Int) := by rw [ii_mul (by rw [L8]; omega) (by rw [L8]; omega), L8, haI]; omega
    have e3 : ((444 : Int32) + (8 : Int32) * aI).toInt = ((444 + 8 * a : Nat) : Int) := by rw [ii_add (by omega) (by omega), L444, e2]; omega
    rw [f_X12_entryMark_L13.eq_2, cl_n e1]
    refine pr_g (fun _ _ => pr_le (fun e => pr_s ?_) (fun e => pr_g (fun g0 g1 => ?_)))
    · rw [h3, show (ms_E σ 40 (252 + a)).toInt.toNat = k by omega]
    · have hk8 : (((444 : Int32) + (8 : Int32) * aI) + kI).toInt = ((444 + 8 * a + k : Nat) : Int) := by
        have hkb := ib_hi (ms_E σ 40 (252 + a))
        rw [ii_add (by omega) (by omega), e3, h1]; omega
      rw [cl_n hk8]
      refine pr_b (v_mixed n σ hI _) (fun r hr => pr_l (ih (k + 1) _ r ?_ (by omega) ?_))
      · have hkb := ib_hi (ms_E σ 40 (252 + a))
        rw [ii_add (by rw [lt1]; omega) (by rw [lt1]; omega), h1, lt1]; omega
      · rw [hr, h3, eml]
theorem v_entryMark (n : Nat) (σ : ms_T) (r i : Nat) (hr : r < 4) (hi : i < 48) (rI iI : Int32) (hrI : rI.toInt = (r : Int)) (hiI : iI.toInt = (i : Int)) (h0 : 0 ≤ (ms_E σ 40 (252 + (48 * r + i))).toInt) (h8 : (ms_E σ 40 (252 + (48 * r + i))).toInt ≤ 8) : pr (f_X12_entryMark n σ rI iI) (fun v => v = EM (ms_E σ 40) r i) := by
  have L48 := t_48
  have e0 : ((48 : Int32) * rI).toInt = ((48 * r : Nat) : Int) := by rw [ii_mul (by rw [L48]; omega) (by rw [L48]; omega), L48, hrI]; omega
  have e1 : ((48 : Int32) * rI + iI).toInt = ((48 * r + i : Nat) : Int) := by rw [ii_add (by omega) (by omega), e0, hiI]; omega
  unfold f_X12_entryMark EM
  exact pr_l (v_entryMark_L n σ (48 * r + i) (by omega) _ e1 h0 h8 n 0 0 1 rfl (Nat.zero_le _) rfl)
/-- the marks of a record's entries -/
def EL (f : Nat → Int32) (r : Nat) : List Int32 := (List.range (f (72 + r)).toInt.toNat).map (fun i => EM f r i)
theorem EL_len (f : Nat → Int32) (r : Nat) : (EL f r).length = (f (72 + r)).toInt.toNat := by unfold EL; simp
theorem EL_get (f : Nat → Int32) (r i : Nat) (h : i < (f (72 + r)).toInt.toNat) : (EL f r)[i]? = some (EM f r i) := by
  unfold EL
  rw [List.getElem?_map, List.getElem?_range h]
  rfl
theorem v_treeMark (n : Nat) (σ : ms_T) (hC : rC (ms_E σ 40)) (r : Nat) (hr : r < 4) (rI : Int32) (hrI : rI.toInt = (r : Int)) : ∀ (d e f k : Nat) (fI kI : Int32), fI.toInt = (f : Int) → kI.toInt = (k : Int) → 1 ≤ k → k ≤ 2 ^ e → f + k ≤ (EL (ms_E σ 40) r).length → (EL (ms_E σ 40) r).length ≤ 48 → pr (f_X12_treeMark n d σ rI fI kI) (fun v => v = TR (bt (ms_E σ 40 1)) e (((EL (ms_E σ 40) r).drop f).take k)) := by
  intro d
  induction d with
  | zero => intro e f k fI kI hf hk h1 he hl h48; rw [f_X12_treeMark.eq_1]; exact pr_0
  | succ d ih =>
    intro e f k fI kI hf hk h1 he hl h48
    have hlen : (((EL (ms_E σ 40) r).drop f).take k).length = k := by rw [List.length_take, List.length_drop]; omega
    rw [f_X12_treeMark.eq_2]
    refine pr_e (fun e0 => by rw [e0, lt0] at hk; omega) (fun _ => pr_e (fun e1 => ?_) (fun e1 => ?_))
    · have hk1 : k = 1 := by rw [e1, lt1] at hk; omega
      have hlt : f < (ms_E σ 40 (72 + r)).toInt.toNat := by rw [EL_len] at hl; omega
      have hlong := hC.2.2.2.2.2.2.2.2 (48 * r + f) (by omega)
      refine pr_b (v_entryMark n σ r f hr (by omega) rI fI hrI hf hlong.1 hlong.2) (fun v hv => pr_s ?_)
      rw [hv, TR_1 _ _ (by omega), hk1]
      have hg := EL_get (ms_E σ 40) r f hlt
      rw [List.drop_eq_getElem_cons (by omega), List.take_succ_cons]
      rw [List.getElem?_eq_getElem (by omega)] at hg
      exact (Option.some.inj hg).symm
    · rw [lt1, hk] at e1
      have hk2 : 2 ≤ k := by omega
      cases e with
      | zero => simp at he; omega
      | succ e =>
      have hp1 := p0_lt hk2
      have hp2 := p0_le (m := k)
      have hp3 := p0_pos k
      have hp4 := p0_dn hk2 he
      rw [TR, if_neg (by omega), hlen]
      refine pr_b (v_part0 n kI (by omega)) (fun p hp => ?_)
      rw [hk, Int.toNat_natCast] at hp
      refine pr_b (ih e f (p0 k) fI p hf hp hp3 hp4 (by omega) h48) (fun v1 hv1 => pr_b (ih e (f + p0 k) (k - p0 k) (fI + p) (kI - p) (by rw [ii_add (by omega) (by omega)]; omega) (by rw [ii_sub (by omega) (by omega)]; omega) (by omega) (by omega) (by omega) h48) (fun v2 hv2 => pr_b (v_both n σ v1 v2) (fun v hv => pr_s ?_)))
      rw [hv, hv1, hv2]
      congr 2
      · rw [List.take_take]; congr 1; omega
      · rw [List.drop_take, List.drop_drop]
/-! ===== words of the class ===== -/
def WD (α : hp_T) (a : Nat) (l : List Int32) : Prop := l.length ≤ 8 ∧ (hp_I α 501 a).toInt = (l.length : Int) ∧ (∀ k, k < l.length → some (hp_E α 27 (hp_R α 500 a) k) = l[k]?) ∧ ∀ x ∈ l, 0 ≤ x.toInt ∧ x.toInt ≤ 127
/-- only a word's own cells change -/
def df (a : Nat) (α β : hp_T) : Prop := hp_R β = hp_R α ∧ hp_K β = hp_K α ∧ hp_Q β = hp_Q α ∧ hp_N β = hp_N α ∧ (∀ φ b, ¬ (b = a ∧ φ = 501) → hp_I β φ b = hp_I α φ b) ∧ ∀ κ b j, ¬ (κ = 27 ∧ b = hp_R α 500 a) → hp_E β κ b j = hp_E α κ b j
theorem df_tr {a : Nat} {α β γ : hp_T} (h : df a α β) (g : df a β γ) : df a α γ := by
  obtain ⟨h1, h2, h3, h4, h5, h6⟩ := h
  obtain ⟨g1, g2, g3, g4, g5, g6⟩ := g
  rw [h1] at g6
  exact ⟨g1.trans h1, g2.trans h2, g3.trans h3, g4.trans h4, fun φ b q => (g5 φ b q).trans (h5 φ b q), fun κ b j q => (g6 κ b j q).trans (h6 κ b j q)⟩
theorem df_sI {a : Nat} {α : hp_T} {v : Int32} : df a α (hp_sI α 501 a v) :=
  ⟨rfl, rfl, rfl, rfl, fun ψ b q => by rw [hI_sI, if_neg (fun (e : ψ = 501 ∧ b = a) => q ⟨e.2, e.1⟩)], fun _ _ _ _ => rfl⟩
theorem df_sE {a j : Nat} {α : hp_T} {v : Int32} : df a α (hp_sE α 27 (hp_R α 500 a) j v) :=
  ⟨rfl, rfl, rfl, rfl, fun _ _ _ => rfl, fun κ b i q => by rw [hE_sE, if_neg (fun e => q ⟨e.1, e.2.1⟩)]⟩
theorem WD_df {α β : hp_T} {a b : Nat} {l : List Int32} (h : WD α a l) (f : df b α β) (hab : a ≠ b) (hr : hp_R α 500 a ≠ hp_R α 500 b) : WD β a l := by
  obtain ⟨f1, -, -, -, f5, f6⟩ := f
  refine ⟨h.1, by rw [f5 501 a (fun q => hab q.1)]; exact h.2.1, fun k hk => ?_, h.2.2.2⟩
  rw [f1, f6 27 _ _ (fun q => hr q.2)]
  exact h.2.2.1 k hk
theorem byte_id {v : Int32} (h0 : 0 ≤ v.toInt) (h1 : v.toInt ≤ 127) : v.toInt8.toInt32 = v := by
  rw [← Int32.toInt_inj, Int8.toInt_toInt32, Int32.toInt_toInt8]
  exact Int.bmod_eq_of_le (by omega) (by omega)
theorem k_letterAt (n : Nat) {α : hp_T} {a : Nat} {l : List Int32} (h : WD α a l) (k : Nat) (kI : Int32) (hk : kI.toInt = (k : Int)) (hl : k < l.length) : ws (f_X9_letterAt n α a kI) (fun r => r = l[k]) := by
  have L8 := t_8
  obtain ⟨h1, h2, h3, -⟩ := h
  unfold f_X9_letterAt
  refine ws_lt (fun e => by rw [lt0] at e; omega) (fun _ => ws_l (ws_le (fun e => by omega) (fun _ => ws_l (ws_le (fun e => by omega) (fun _ => ws_l (ws_g (by omega) (by omega) (ws_s ?_)))))))
  rw [cl_n hk]
  have := h3 k hl
  rw [List.getElem?_eq_getElem hl] at this
  exact Option.some.inj this
theorem k_wput (n : Nat) {α : hp_T} {a : Nat} {l : List Int32} (h : WD α a l) (hl : l.length < 8) (v : Int32) (hv0 : 0 ≤ v.toInt) (hv1 : v.toInt ≤ 127) : ws (f_X9_put n α a v) (fun β => WD β a (l ++ [v]) ∧ df a α β) := by
  have L8 := t_8
  obtain ⟨h1, h2, h3, h4⟩ := h
  unfold f_X9_put
  refine ws_l (ws_lt (fun e => by rw [lt0] at e; omega) (fun _ => ws_l (ws_l (ws_le (fun e => by omega) (fun _ => ws_l (ws_l (ws_g (by omega) (by omega) (ws_l (ws_l (ws_l (ws_s ⟨⟨?_, ?_, fun k hk => ?_, fun x hx => ?_⟩, df_tr df_sE df_sI⟩)))))))))))
  · rw [List.length_append]; simp; omega
  · rw [hI_sI, if_pos ⟨rfl, rfl⟩, hI_sE, ii_add (by rw [lt1]; omega) (by rw [lt1]; omega), h2, lt1, List.length_append]; rfl
  · rw [List.length_append] at hk
    simp only [hR_sI, hR_sE, hE_sI]
    rw [hE_sE, cl_n h2, byte_id hv0 hv1, byte_id hv0 hv1]
    by_cases hkl : k = l.length
    · rw [if_pos ⟨rfl, rfl, hkl⟩, hkl]; simp
    · rw [if_neg (fun e => hkl e.2.2), List.getElem?_append_left (by simp at hk; omega)]
      exact h3 k (by simp at hk; omega)
  · rcases List.mem_append.mp hx with hx | hx
    · exact h4 x hx
    · rw [List.mem_singleton.mp hx]; exact ⟨hv0, hv1⟩
theorem k_wclear (n : Nat) (α : hp_T) (a : Nat) : ws (f_X9_clear n α a) (fun β => WD β a [] ∧ df a α β) := by
  unfold f_X9_clear
  refine ws_l (ws_s ⟨⟨by simp, ?_, fun k hk => by simp at hk, fun x hx => by cases hx⟩, df_sI⟩)
  rw [hI_sI, if_pos ⟨rfl, rfl⟩]; rfl
theorem k_copy_L (n : Nat) (a b : Nat) (α : hp_T) (l : List Int32) (hab : b ≠ a) (hr : hp_R α 500 b ≠ hp_R α 500 a) : ∀ (d k : Nat) (β : hp_T) (kI : Int32), WD β b l → WD β a (l.take k) → df a α β → kI.toInt = (k : Int) → k ≤ l.length → 9 - k ≤ d → ws (f_X9_copy_L6 n a d β b kI) (fun γ => WD γ a l ∧ df a α γ) := by
  intro d
  induction d with
  | zero => intro k β kI hb ha hf hk hl hd; have := hb.1; omega
  | succ d ih =>
    intro k β kI hb ha hf hk hl hd
    have h8 := hb.1
    rw [f_X9_copy_L6.eq_2]
    refine ws_l (ws_le (fun e => ws_s ⟨?_, hf⟩) (fun e => ?_))
    · rw [hb.2.1] at e
      rw [List.take_of_length_le (by omega)] at ha
      exact ha
    · rw [hb.2.1] at e
      have hkl : k < l.length := by omega
      refine ws_b (k_letterAt n hb k kI hk hkl) (fun v hv => ?_)
      have hm := hb.2.2.2 l[k] (List.getElem_mem hkl)
      rw [← hv] at hm
      refine ws_b (k_wput n ha (by rw [List.length_take]; omega) v hm.1 hm.2) (fun γ hγ => ws_l (ih (k + 1) γ _ (WD_df hb hγ.2 hab (by rw [hf.1]; exact hr)) ?_ (df_tr hf hγ.2) ?_ (by omega) (by omega)))
      · rw [List.take_succ_eq_append_getElem hkl, ← hv]; exact hγ.1
      · rw [ii_add (by rw [lt1]; omega) (by rw [lt1]; omega), hk, lt1]; omega
theorem k_copy (n : Nat) (hn : 70000 ≤ n) (a b : Nat) (α : hp_T) (l : List Int32) (h : WD α b l) (hab : b ≠ a) (hr : hp_R α 500 b ≠ hp_R α 500 a) : ws (f_X9_copy n α a b) (fun γ => WD γ a l ∧ df a α γ) := by
  unfold f_X9_copy
  refine ws_b (k_wclear n α a) (fun β hβ => k_copy_L n a b α l hab hr n 0 β 0 (WD_df h hβ.2 hab hr) (by rw [List.take_zero]; exact hβ.1) hβ.2 rfl (Nat.zero_le _) (by omega))
theorem k_markBy (n : Nat) (hn : 70000 ≤ n) {α : hp_T} {a : Nat} {l : List Int32} (h : WD α a l) (m : Int32) (hm : 0 < m.toInt) : ws (f_X9_markBy n α a m) (fun r => r = eml m (fun k => l.getD k 0) l.length) := by
  have hL : ∀ (d k : Nat) (kI hI : Int32), kI.toInt = (k : Int) → k ≤ l.length → hI = eml m (fun k => l.getD k 0) k → 9 - k ≤ d → ws (f_X9_markBy_L4 n α a d m hI kI) (fun r => r = eml m (fun k => l.getD k 0) l.length) := by
    intro d
    induction d with
    | zero => intro k kI hI h1 h2 h3 h4; have := h.1; omega
    | succ d ih =>
      intro k kI hI h1 h2 h3 h4
      have h8 := h.1
      rw [f_X9_markBy_L4.eq_2]
      refine ws_l (ws_le (fun e => ws_s ?_) (fun e => ?_))
      · rw [h.2.1] at e
        rw [h3, show k = l.length by omega]
      · rw [h.2.1] at e
        refine ws_b (k_letterAt n h k kI h1 (by omega)) (fun v hv => ws_b (k_mixed n m hI v hm) (fun r hr => ws_l (ih (k + 1) _ r ?_ (by omega) ?_ (by omega))))
        · rw [ii_add (by rw [lt1]; omega) (by rw [lt1]; omega), h1, lt1]; omega
        · rw [hr, h3, hv, eml]
          congr 1
          rw [List.getD_eq_getElem?_getD, List.getElem?_eq_getElem (by omega)]
          rfl
  unfold f_X9_markBy
  exact hL n 0 0 1 rfl (Nat.zero_le _) rfl (by omega)
/-! ===== worlds: where their things lie, and how they stand to the reference's cells ===== -/
def lpA (w r : Nat) : Nat := w + 11 + 99 * r
def wdA (w r i : Nat) : Nat := w + 14 + 99 * r + 2 * i
def fzA (w i : Nat) : Nat := w + 407 + 3 * i
def wtA (w i : Nat) : Nat := w + 455 + i
def SHW (α : hp_T) (w : Nat) : Prop := hp_R α 551 w = w + 1 ∧ hp_R α 553 w = w + 2 ∧ hp_R α 555 w = w + 3 ∧ hp_R α 557 w = w + 4 ∧ hp_R α 558 w = w + 5 ∧ hp_R α 559 w = w + 7 ∧ (∀ r, r < 4 → hp_Q α 30 (w + 1) r = some (lpA w r)) ∧ (∀ i, i < 16 → hp_Q α 31 (w + 2) i = some (fzA w i)) ∧ (∀ i, i < 4 → hp_Q α 32 (w + 3) i = some (wtA w i)) ∧ hp_R α 300 (w + 5) = w + 6 ∧ (hp_R α 450 (w + 7) = w + 8 ∧ hp_R α 451 (w + 7) = w + 9 ∧ hp_R α 452 (w + 7) = w + 10) ∧ (∀ r, r < 4 → hp_R α 150 (lpA w r) = lpA w r + 1 ∧ hp_R α 151 (lpA w r) = lpA w r + 2 ∧ ∀ i, i < 48 → hp_Q α 28 (lpA w r + 1) i = some (wdA w r i) ∧ hp_R α 500 (wdA w r i) = wdA w r i + 1) ∧ ∀ i, i < 16 → hp_R α 104 (fzA w i) = fzA w i + 1 ∧ hp_R α 300 (fzA w i + 1) = fzA w i + 2
theorem SHW_e {α β : hp_T} {w : Nat} (h : SHW α w) (eR : hp_R β = hp_R α) (eQ : hp_Q β = hp_Q α) : SHW β w := by
  unfold SHW at h ⊢
  rw [eR, eQ]
  exact h
/-- the letters of an entry -/
def ltr (f : Nat → Int32) (r i : Nat) : List Int32 := (List.range (f (252 + (48 * r + i))).toInt.toNat).map (fun k => f (444 + 8 * (48 * r + i) + k))
theorem ltr_len (f : Nat → Int32) (r i : Nat) : (ltr f r i).length = (f (252 + (48 * r + i))).toInt.toNat := by unfold ltr; simp
theorem ltr_get (f : Nat → Int32) (r i k : Nat) (h : k < (f (252 + (48 * r + i))).toInt.toNat) : (ltr f r i)[k]? = some (f (444 + 8 * (48 * r + i) + k)) := by
  unfold ltr
  rw [List.getElem?_map, List.getElem?_range h]
  rfl
theorem eml_c (m : Int32) {g h : Nat → Int32} : ∀ k, (∀ j, j < k → g j = h j) → eml m g k = eml m h k := by
  intro k
  induction k with
  | zero => intro _; rfl
  | succ k ih => intro e; rw [eml, eml, ih (fun j hj => e j (by omega)), e k (by omega)]
theorem EM_l (f : Nat → Int32) (r i : Nat) : EM f r i = eml (f 1) (fun k => (ltr f r i).getD k 0) (ltr f r i).length := by
  unfold EM
  rw [ltr_len]
  refine eml_c _ _ (fun j hj => ?_)
  rw [List.getD_eq_getElem?_getD, ltr_get f r i j hj]
  rfl
def EN (α : hp_T) (w : Nat) (f : Nat → Int32) (r i : Nat) : Prop := WD α (wdA w r i) (ltr f r i) ∧ hp_E α 29 (lpA w r + 2) i = EM f r i
/-- how many peaks so many things have -/
def pkn (n : Nat) : Nat := n / 32 % 2 + n / 16 % 2 + n / 8 % 2 + n / 4 % 2 + n / 2 % 2 + n % 2
/-- whether rows of peaks are told, too -/
def rwP : Prop := False
def pdP : Prop := True
def flP : Prop := False
def FZN (α : hp_T) (w : Nat) (f : Nat → Int32) (i : Nat) : Prop := hp_I α 100 (fzA w i) = f (92 + 10 * i) ∧ hp_I α 101 (fzA w i) = f (93 + 10 * i) ∧ hp_I α 102 (fzA w i) = f (94 + 10 * i) ∧ hp_I α 103 (fzA w i) = f (95 + 10 * i) ∧ (rwP → (hp_I α 301 (fzA w i + 1)).toInt = (pkn (f (93 + 10 * i)).toInt.toNat : Int)) ∧ ∀ k, k < pkn (f (93 + 10 * i)).toInt.toNat → rwP → hp_E α 20 (fzA w i + 2) k = f (96 + 10 * i + k)
def WTN (α : hp_T) (w : Nat) (f : Nat → Int32) (i : Nat) : Prop := hp_I α 400 (wtA w i) = f (76 + 4 * i) ∧ hp_I α 401 (wtA w i) = f (77 + 4 * i) ∧ hp_I α 403 (wtA w i) = f (78 + 4 * i) ∧ hp_I α 402 (wtA w i) = f (79 + 4 * i)
def WR (α : hp_T) (w : Nat) (f : Nat → Int32) : Prop := SHW α w ∧ (hp_I α 550 w = f 1 ∧ hp_I α 552 w = f 0 ∧ hp_I α 554 w = f 3 ∧ hp_I α 556 w = f 4) ∧ (∀ r, r < (f 0).toInt.toNat → hp_I α 152 (lpA w r) = f (72 + r) ∧ ∀ i, i < (f (72 + r)).toInt.toNat → EN α w f r i) ∧ (∀ i, i < (f 3).toInt.toNat → FZN α w f i) ∧ (∀ i, i < 4 → WTN α w f i) ∧ ∀ i, i < 16 → 0 ≤ (hp_I α 301 (fzA w i + 1)).toInt ∧ (hp_I α 301 (fzA w i + 1)).toInt ≤ 64
theorem WR_LM {α : hp_T} {w : Nat} {f : Nat → Int32} (h : WR α w f) (hC : rC f) {r : Nat} (hr : r < (f 0).toInt.toNat) : LM α (lpA w r) (EL f r) := by
  have h4 := hC.1.2
  have hs := hC.2.2.2.2.1 r (by omega)
  refine ⟨by rw [EL_len]; omega, by rw [(h.2.2.1 r hr).1, EL_len]; omega, fun j hj => ?_⟩
  rw [EL_len] at hj
  rw [(h.1.2.2.2.2.2.2.2.2.2.2.2.1 r (by omega)).2.1, EL_get f r j hj, ((h.2.2.1 r hr).2 j hj).2]
/-- what a change of the picture must leave for a world to stay as it is -/
theorem WR_f {α β : hp_T} {w : Nat} {f : Nat → Int32} (h : WR α w f) (hC : rC f) (eR : hp_R β = hp_R α) (eQ : hp_Q β = hp_Q α) (eI : ∀ φ b, w ≤ b → b < w + 459 → (φ = 550 ∨ φ = 552 ∨ φ = 554 ∨ φ = 556 ∨ φ = 152 ∨ φ = 501 ∨ (100 ≤ φ ∧ φ ≤ 103) ∨ φ = 301 ∨ (400 ≤ φ ∧ φ ≤ 403)) → hp_I β φ b = hp_I α φ b) (eE : ∀ κ b j, w ≤ b → b < w + 459 → (κ = 27 ∨ κ = 29 ∨ (κ = 20 ∧ w + 407 ≤ b)) → hp_E β κ b j = hp_E α κ b j) : WR β w f := by
  have h4 := hC.1.2
  have h16 := hC.2.2.2.1.2
  obtain ⟨h1, h2, h3, hF, hW, hX⟩ := h
  refine ⟨SHW_e h1 eR eQ, ⟨?_, ?_, ?_, ?_⟩, fun r hr => ?_, fun i hi => ?_, fun i hi => ?_, fun i hi => by rw [eI 301 _ (by unfold fzA; omega) (by unfold fzA; omega) (by decide)]; exact hX i hi⟩
  · rw [eI 550 w (by omega) (by omega) (by decide)]; exact h2.1
  · rw [eI 552 w (by omega) (by omega) (by decide)]; exact h2.2.1
  · rw [eI 554 w (by omega) (by omega) (by decide)]; exact h2.2.2.1
  · rw [eI 556 w (by omega) (by omega) (by decide)]; exact h2.2.2.2
  · obtain ⟨a1, a2⟩ := h3 r hr
    have hs := hC.2.2.2.2.1 r (by omega)
    refine ⟨by rw [eI 152 _ (by unfold lpA; omega) (by unfold lpA; omega) (by decide)]; exact a1, fun i hi => ?_⟩
    obtain ⟨⟨b1, b2, b3, b4⟩, b5⟩ := a2 i hi
    have hsh := (h1.2.2.2.2.2.2.2.2.2.2.2.1 r (by omega)).2.2 i (by omega)
    refine ⟨⟨b1, by rw [eI 501 _ (by unfold wdA; omega) (by unfold wdA; omega) (by decide)]; exact b2, fun k hk => ?_, b4⟩, ?_⟩
    · rw [eR, hsh.2, eE 27 _ k (by unfold wdA; omega) (by unfold wdA; omega) (Or.inl rfl), ← hsh.2]; exact b3 k hk
    · rw [eE 29 _ i (by unfold lpA; omega) (by unfold lpA; omega) (Or.inr (Or.inl rfl))]; exact b5
  · obtain ⟨b1, b2, b3, b4, b5, b6⟩ := hF i hi
    refine ⟨?_, ?_, ?_, ?_, ?_, fun k hk => ?_⟩
    · rw [eI 100 _ (by unfold fzA; omega) (by unfold fzA; omega) (by decide)]; exact b1
    · rw [eI 101 _ (by unfold fzA; omega) (by unfold fzA; omega) (by decide)]; exact b2
    · rw [eI 102 _ (by unfold fzA; omega) (by unfold fzA; omega) (by decide)]; exact b3
    · rw [eI 103 _ (by unfold fzA; omega) (by unfold fzA; omega) (by decide)]; exact b4
    · rw [eI 301 _ (by unfold fzA; omega) (by unfold fzA; omega) (by decide)]; exact b5
    · rw [eE 20 _ k (by unfold fzA; omega) (by unfold fzA; omega) (Or.inr (Or.inr ⟨rfl, by unfold fzA; omega⟩))]; exact b6 k hk
  · obtain ⟨b1, b2, b3, b4⟩ := hW i hi
    refine ⟨?_, ?_, ?_, ?_⟩
    · rw [eI 400 _ (by unfold wtA; omega) (by unfold wtA; omega) (by decide)]; exact b1
    · rw [eI 401 _ (by unfold wtA; omega) (by unfold wtA; omega) (by decide)]; exact b2
    · rw [eI 403 _ (by unfold wtA; omega) (by unfold wtA; omega) (by decide)]; exact b3
    · rw [eI 402 _ (by unfold wtA; omega) (by unfold wtA; omega) (by decide)]; exact b4
/-! ===== a word is added ===== -/
theorem k_putWord (n : Nat) (hn : 70000 ≤ n) (α : hp_T) (w : Nat) (hS : SHW α w) (r s : Nat) (hr : r < 4) (hs : s < 48) (hl : (hp_I α 152 (lpA w r)).toInt = (s : Int)) (a : Nat) (l : List Int32) (ha : WD α a l) (h1 : a ≠ wdA w r s) (h2 : hp_R α 500 a ≠ wdA w r s + 1) (m : Int32) (hm : 0 < m.toInt) : ws (f_X2_putWord n α (lpA w r) a m) (fun β => hp_R β = hp_R α ∧ hp_K β = hp_K α ∧ hp_Q β = hp_Q α ∧ hp_N β = hp_N α ∧ WD β (wdA w r s) l ∧ hp_I β 152 (lpA w r) = hp_I α 152 (lpA w r) + 1 ∧ hp_E β 29 (lpA w r + 2) s = eml m (fun k => l.getD k 0) l.length ∧ (∀ φ b, ¬ (φ = 501 ∧ b = wdA w r s) → ¬ (φ = 152 ∧ b = lpA w r) → hp_I β φ b = hp_I α φ b) ∧ ∀ κ b j, ¬ (κ = 27 ∧ b = wdA w r s + 1) → ¬ (κ = 29 ∧ b = lpA w r + 2 ∧ j = s) → hp_E β κ b j = hp_E α κ b j) := by
  have L48 := t_48
  obtain ⟨g1, g2, g3⟩ := hS.2.2.2.2.2.2.2.2.2.2.2.1 r hr
  obtain ⟨g4, g5⟩ := g3 s hs
  unfold f_X2_putWord
  refine ws_l (ws_lt (fun e => by rw [lt0] at e; omega) (fun _ => ws_l (ws_l (ws_le (fun e => by omega) (fun _ => ws_l (ws_l (ws_le (fun e => by omega) (fun _ => ws_l (ws_l (ws_g (by omega) (by omega) ?_))))))))))
  rw [g1, cl_n hl, g4]
  show ws (ms_l _ _) _
  refine ws_l (ws_l (ws_g (by omega) (by omega) ?_))
  rw [cl_n hl, g4]
  show ws (ms_b _ _) _
  refine ws_b (k_copy n hn (wdA w r s) a α l ha h1 (by rw [g5]; exact h2)) (fun β hβ => ?_)
  obtain ⟨b1, b2⟩ := hβ
  have hI : hp_I β 152 (lpA w r) = hp_I α 152 (lpA w r) := b2.2.2.2.2.1 152 _ (fun q => absurd q.2 (by decide))
  have hb : WD β a l := WD_df ha b2 h1 (by rw [g5]; exact h2)
  refine ws_l (ws_l (ws_b (k_markBy n hn hb m hm) (fun v hv => ?_)))
  rw [hI]
  refine ws_g (by omega) (by omega) (ws_l (ws_l (ws_l (ws_s ?_))))
  rw [b2.1, g2, cl_n hl]
  refine ⟨b2.1, b2.2.1, b2.2.2.1, b2.2.2.2.1, ⟨b1.1, ?_, fun k hk => ?_, b1.2.2.2⟩, ?_, ?_, fun φ b q1 q2 => ?_, fun κ b j q1 q2 => ?_⟩
  · rw [hI_sI, if_neg (fun q => absurd q.1 (by decide)), hI_sE]; exact b1.2.1
  · rw [hR_sI, hR_sE, hE_sI, hE_sE, if_neg (fun q => absurd q.1 (by decide))]; exact b1.2.2.1 k hk
  · rw [hI_sI, if_pos ⟨rfl, rfl⟩, hI_sE, hI]
  · rw [hE_sI, hE_sE, if_pos ⟨rfl, rfl, rfl⟩]; exact hv
  · rw [hI_sI, if_neg q2, hI_sE]
    exact b2.2.2.2.2.1 φ b (fun q => q1 ⟨q.2, q.1⟩)
  · rw [hE_sI, hE_sE, if_neg q2]
    exact b2.2.2.2.2.2 κ b j (fun q => q1 ⟨q.1, by rw [q.2, g5]⟩)
