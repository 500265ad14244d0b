set_option maxRecDepth 100000
/-! ===== the watchers in their order; spoil ===== -/
theorem k_meetBy (n : Nat) (hn : 70000 ≤ n) (α : hp_T) (w : Nat) (f : Nat → Int32) (h : WR α w f) (hC : rC f) (hA : AL01 f) (hG : rG α w) (p q r : Nat) (hp : p < 4) (hq : q < 4) (hr : r < (f 0).toInt.toNat) : ws (f_X10_meetBy n α w (wtA w p) (wtA w q) (lpA w r)) (fun res => ((f (76 + 4 * q)).toInt < (f (76 + 4 * p)).toInt → res.1 = meW f q p r ∧ (∀ g, meF f q p r g → WR res.2 w g)) ∧ ((f (76 + 4 * p)).toInt ≤ (f (76 + 4 * q)).toInt → res.1 = meW f p q r ∧ (∀ g, meF f p q r g → WR res.2 w g)) ∧ wfr w α res.2 ∧ rG res.2 w) := by
  have e1 := (h.2.2.2.2.1 p hp).1
  have e2 := (h.2.2.2.2.1 q hq).1
  unfold f_X10_meetBy f_X10_meetBy_J16 f_X10_meetBy_J28
  refine ws_l (ws_l (ws_lt (fun e => ?_) (fun e => ?_)))
  · rw [e1, e2] at e
    refine ws_i (fun _ => ws_i (fun _ => ?_) (fun h => absurd rfl h)) (fun h => absurd rfl h)
    exact ws_m (k_m40 n hn α w f h hC hA hG q p r hq hp hr (by omega)) (fun res hr => ⟨fun _ => ⟨hr.1, hr.2.1⟩, fun h => by omega, hr.2.2⟩)
  · rw [e1, e2] at e
    refine ws_i (fun h => absurd h (by decide)) (fun _ => ws_i (fun h => absurd h (by decide)) (fun _ => ?_))
    exact ws_m (k_m40 n hn α w f h hC hA hG p q r hp hq hr (by omega)) (fun res hr => ⟨fun h => by omega, fun _ => ⟨hr.1, hr.2.1⟩, hr.2.2⟩)
theorem v_m56 (n : Nat) (σ : ms_T) (hC : rC (ms_E σ 40)) (p q r : Nat) (hp : p < 4) (hq : q < 4) (hr : r < 4) (pI qI rI o : Int32) (hpI : pI.toInt = (p : Int)) (hqI : qI.toInt = (q : Int)) (hrI : rI.toInt = (r : Int)) (ho : o = if (ms_E σ 40 (76 + 4 * q)).toInt < (ms_E σ 40 (76 + 4 * p)).toInt then 0 else 1) : pr (f_X12_meet_J56 n σ pI qI rI o) (fun res => ((ms_E σ 40 (76 + 4 * q)).toInt < (ms_E σ 40 (76 + 4 * p)).toInt → res.1 = meW (ms_E σ 40) q p r ∧ meF (ms_E σ 40) q p r (ms_E res.2 40)) ∧ ((ms_E σ 40 (76 + 4 * p)).toInt ≤ (ms_E σ 40 (76 + 4 * q)).toInt → res.1 = meW (ms_E σ 40) p q r ∧ meF (ms_E σ 40) p q r (ms_E res.2 40)) ∧ fr [657, 658, 659, 660] [40, 42, 43, 44] σ res.2) := by
  unfold f_X12_meet_J56 f_X12_meet_J68
  by_cases hc : (ms_E σ 40 (76 + 4 * q)).toInt < (ms_E σ 40 (76 + 4 * p)).toInt
  · rw [if_pos hc] at ho
    subst ho
    refine pr_i (fun _ => pr_i (fun _ => ?_) (fun h => absurd rfl h)) (fun h => absurd rfl h)
    exact pr_m (v_m80 n σ hC q p r hq hp hr qI pI rI hqI hpI hrI (by omega)) (fun res hr => ⟨fun _ => ⟨hr.1, hr.2.1⟩, fun h => by omega, hr.2.2⟩)
  · rw [if_neg hc] at ho
    subst ho
    refine pr_i (fun h => absurd h (by decide)) (fun _ => pr_i (fun h => absurd h (by decide)) (fun _ => ?_))
    exact pr_m (v_m80 n σ hC p q r hp hq hr pI qI rI hpI hqI hrI (by omega)) (fun res hr => ⟨fun h => by omega, fun _ => ⟨hr.1, hr.2.1⟩, hr.2.2⟩)
theorem k_wchange (n : Nat) {α : hp_T} {a : Nat} {l : List Int32} (h : WD α a l) (k : Nat) (hk : k < l.length) (kI v : Int32) (hkI : kI.toInt = (k : Int)) (hv0 : 0 ≤ v.toInt) (hv1 : v.toInt ≤ 127) : ws (f_X9_change n α a kI v) (fun β => WD β a (l.set k v) ∧ df a α β) := by
  have L8 := t_8
  obtain ⟨h1, h2, h3, h4⟩ := h
  unfold f_X9_change
  refine ws_lt (fun e => by rw [lt0] at e; omega) (fun _ => ws_l (ws_le (fun e => by omega) (fun _ => ws_l (ws_le (fun e => by omega) (fun _ => ws_l (ws_g (by omega) (by omega) (ws_l (ws_s ⟨⟨?_, ?_, fun j hj => ?_, fun x hx => ?_⟩, df_sE⟩))))))))
  · rw [List.length_set]; exact h1
  · rw [hI_sE, List.length_set]; exact h2
  · rw [List.length_set] at hj
    rw [hR_sE, hE_sE, cl_n hkI, byte_id hv0 hv1, byte_id hv0 hv1, List.getElem?_set]
    by_cases hjk : j = k
    · rw [if_pos ⟨rfl, rfl, hjk⟩, if_pos hjk.symm, if_pos hk]
    · rw [if_neg (fun q => hjk q.2.2), if_neg (fun q => hjk q.symm)]; exact h3 j hj
  · rcases List.mem_or_eq_of_mem_set hx with hx | hx
    · exact h4 x hx
    · rw [hx]; exact ⟨hv0, hv1⟩
def spF (f : Nat → Int32) (r i k : Nat) (v : Int32) (g : Nat → Int32) : Prop := g (444 + 8 * (48 * r + i) + k) = v ∧ g 4 = f 4 + 1 ∧ ∀ j, j ≠ 444 + 8 * (48 * r + i) + k → j ≠ 4 → g j = f j
theorem ltr_set {f g : Nat → Int32} {r i k : Nat} {v : Int32} (h : spF f r i k v g) : ltr g r i = (ltr f r i).set k v := by
  refine List.ext_getElem? (fun j => ?_)
  have e252 : g (252 + (48 * r + i)) = f (252 + (48 * r + i)) := h.2.2 _ (by omega) (by omega)
  rw [List.getElem?_set]
  by_cases hj : j < (f (252 + (48 * r + i))).toInt.toNat
  · rw [ltr_get g r i j (by rw [e252]; exact hj)]
    by_cases hjk : k = j
    · subst hjk
      rw [if_pos rfl, if_pos (by rw [ltr_len]; exact hj), h.1]
    · rw [if_neg hjk, ltr_get f r i j hj, h.2.2 _ (by omega) (by omega)]
  · have n1 : (ltr g r i)[j]? = none := List.getElem?_eq_none (by rw [ltr_len, e252]; omega)
    have n2 : (ltr f r i)[j]? = none := List.getElem?_eq_none (by rw [ltr_len]; omega)
    rw [n1, n2]
    by_cases hjk : k = j
    · rw [if_pos hjk, if_neg (by rw [ltr_len, hjk]; omega)]
    · rw [if_neg hjk]
theorem k_spoilLetter (n : Nat) (hn : 70000 ≤ n) (α : hp_T) (w : Nat) (f : Nat → Int32) (h : WR α w f) (hC : rC f) (r i k : Nat) (hr : r < (f 0).toInt.toNat) (hi : (i : Int) < (f (72 + r)).toInt) (hk : (k : Int) < (f (252 + (48 * r + i))).toInt) (iI kI v : Int32) (hiI : iI.toInt = (i : Int)) (hkI : kI.toInt = (k : Int)) (hv0 : 0 ≤ v.toInt) (hv1 : v.toInt ≤ 127) : ws (f_X10_spoilLetter n α w (lpA w r) iI kI v) (fun β => (∀ g, spF f r i k v g → WR β w g) ∧ wfr w α β ∧ hp_I β 301 (w + 5) = hp_I α 301 (w + 5)) := by
  have L48 := t_48
  have b4 := hC.1
  have b16 := hC.2.2.2.1
  have hs := hC.2.2.2.2.1 r (by omega)
  have hm : 0 < (f 1).toInt := by have := hC.2.1; omega
  obtain ⟨g1, g2, g3⟩ := h.1.2.2.2.2.2.2.2.2.2.2.2.1 r (by omega)
  obtain ⟨g4, g5⟩ := g3 i (by omega)
  have q152 := (h.2.2.1 r hr).1
  obtain ⟨c1, c2⟩ := (h.2.2.1 r hr).2 i (by omega)
  unfold f_X10_spoilLetter f_X2_changeLetter
  refine ws_l (ws_b (S := fun β => ∃ γ m1, (WD γ (wdA w r i) ((ltr f r i).set k v) ∧ df (wdA w r i) α γ) ∧ m1 = eml (f 1) (fun j => ((ltr f r i).set k v).getD j 0) ((ltr f r i).set k v).length ∧ β = hp_sE γ 29 (lpA w r + 2) i m1) ?_ (fun β hβ => ?_))
  · refine ws_b (k_wordAt n h.1 (by omega) (s := (f (72 + r)).toInt.toNat) (by rw [q152]; omega) (by omega) i (by omega) iI hiI) (fun o ho => ?_)
    subst ho
    refine ws_hS (ws_l (ws_le (fun e => by omega) (fun _ => ws_b (k_wchange n c1 k (by rw [ltr_len]; omega) kI v hkI hv0 hv1) (fun γ hγ => ws_l ?_))))
    rw [h.2.1.1]
    refine ws_b (k_markBy n hn hγ.1 (f 1) hm) (fun m1 hm1 => ws_g (by omega) (by omega) (ws_l (ws_s ⟨γ, m1, hγ, hm1, ?_⟩)))
    rw [hγ.2.1, g2, cl_n hiI]
  · obtain ⟨γ, m1, ⟨hW, hd⟩, hm1, hβ⟩ := hβ
    obtain ⟨d1, d2, d3, d4, d5, d6⟩ := hd
    rw [g5] at d6
    refine ws_l (ws_l (ws_s ?_))
    have r6 : hp_R (hp_sI β 556 w (hp_I β 556 w + 1)) = hp_R α ∧ hp_K (hp_sI β 556 w (hp_I β 556 w + 1)) = hp_K α ∧ hp_Q (hp_sI β 556 w (hp_I β 556 w + 1)) = hp_Q α ∧ hp_N (hp_sI β 556 w (hp_I β 556 w + 1)) = hp_N α := by rw [hβ]; exact ⟨d1, d2, d3, d4⟩
    have eI : ∀ φ b, ¬ (b = w ∧ φ = 556) → ¬ (b = wdA w r i ∧ φ = 501) → hp_I (hp_sI β 556 w (hp_I β 556 w + 1)) φ b = hp_I α φ b := fun φ b q1 q2 => by rw [hI_sI, if_neg (fun e => q1 ⟨e.2, e.1⟩), hβ, hI_sE]; exact d5 φ b q2
    have eE : ∀ κ b j, ¬ (κ = 29 ∧ b = lpA w r + 2 ∧ j = i) → ¬ (κ = 27 ∧ b = wdA w r i + 1) → hp_E (hp_sI β 556 w (hp_I β 556 w + 1)) κ b j = hp_E α κ b j := fun κ b j q1 q2 => by rw [hE_sI, hβ, hE_sE, if_neg q1]; exact d6 κ b j q2
    refine ⟨fun g hg => ?_, ⟨r6.1, r6.2.1, r6.2.2.1, r6.2.2.2, fun φ b q => eI φ b (by omega) (by unfold wdA; omega), fun κ b j q => eE κ b j (by unfold lpA; omega) (by unfold wdA; omega)⟩, eI 301 _ (by omega) (by omega)⟩
    obtain ⟨h1, h2, h3, hF, hWt, hX⟩ := h
    have hgs := hg
    obtain ⟨k1, k2, k3⟩ := hg
    have e0 : g 0 = f 0 := k3 0 (by omega) (by decide)
    have e1 : g 1 = f 1 := k3 1 (by omega) (by decide)
    have e3 : g 3 = f 3 := k3 3 (by omega) (by decide)
    refine ⟨SHW_e h1 r6.1 r6.2.2.1, ⟨?_, ?_, ?_, ?_⟩, fun q hq => ?_, fun q hq => ?_, fun q hq => ?_, fun q hq => ?_⟩
    · rw [eI 550 w (by omega) (by omega), e1]; exact h2.1
    · rw [eI 552 w (by omega) (by omega), e0]; exact h2.2.1
    · rw [eI 554 w (by omega) (by omega), e3]; exact h2.2.2.1
    · rw [hI_sI, if_pos ⟨rfl, rfl⟩, hβ, hI_sE, d5 556 w (by omega), h2.2.2.2, k2]
    · rw [e0] at hq
      have c72 : g (72 + q) = f (72 + q) := k3 _ (by omega) (by omega)
      have hsq := hC.2.2.2.2.1 q (by omega)
      rw [c72]
      refine ⟨by rw [eI 152 _ (by omega) (by omega)]; exact (h3 q hq).1, fun e he => ?_⟩
      by_cases hqe : q = r ∧ e = i
      · obtain ⟨rfl, rfl⟩ := hqe
        refine ⟨?_, ?_⟩
        · rw [ltr_set hgs]
          refine ⟨hW.1, by rw [hI_sI, if_neg (by omega), hβ, hI_sE]; exact hW.2.1, fun j hj => ?_, hW.2.2.2⟩
          have := hW.2.2.1 j hj
          rw [d1] at this
          rw [r6.1, hE_sI, hβ, hE_sE, if_neg (by omega)]
          exact this
        · rw [hE_sI, hβ, hE_sE, if_pos ⟨rfl, rfl, rfl⟩, EM_l, ltr_set hgs, e1]
          exact hm1
      · obtain ⟨⟨x1, x2, x3, x4⟩, x5⟩ := (h3 q hq).2 e he
        have hsh := (h1.2.2.2.2.2.2.2.2.2.2.2.1 q (by omega)).2.2 e (by omega)
        have hlq := hC.2.2.2.2.2.2.2.2 (48 * q + e) (by omega)
        have hli := hC.2.2.2.2.2.2.2.2 (48 * r + i) (by omega)
        have l252 : g (252 + (48 * q + e)) = f (252 + (48 * q + e)) := k3 _ (by omega) (by omega)
        have l444 : ∀ j, j < (f (252 + (48 * q + e))).toInt.toNat → g (444 + 8 * (48 * q + e) + j) = f (444 + 8 * (48 * q + e) + j) := fun j hj => k3 _ (by omega) (by omega)
        unfold EN
        rw [ltr_c l252 l444, EM_c e1 l252 l444]
        refine ⟨⟨x1, by rw [eI 501 _ (by omega) (by unfold wdA; omega)]; exact x2, fun j hj => ?_, x4⟩, ?_⟩
        · rw [r6.1, hsh.2, eE 27 _ j (by omega) (by unfold wdA; omega), ← hsh.2]; exact x3 j hj
        · rw [eE 29 _ e (by unfold lpA; omega) (by omega)]; exact x5
    · rw [e3] at hq
      obtain ⟨x1, x2, x3, x4, x5, x6⟩ := hF q hq
      have e93 : g (93 + 10 * q) = f (93 + 10 * q) := k3 _ (by omega) (by omega)
      have hp : pkn (f (93 + 10 * q)).toInt.toNat ≤ 6 := by unfold pkn; omega
      refine ⟨?_, ?_, ?_, ?_, ?_, fun j hj hP => ?_⟩
      · rw [eI 100 _ (by omega) (by omega), x1]; exact (k3 _ (by omega) (by omega)).symm
      · rw [eI 101 _ (by omega) (by omega), x2, e93]
      · rw [eI 102 _ (by omega) (by omega), x3]; exact (k3 _ (by omega) (by omega)).symm
      · rw [eI 103 _ (by omega) (by omega), x4]; exact (k3 _ (by omega) (by omega)).symm
      · rw [eI 301 _ (by omega) (by omega), e93]; exact x5
      · rw [e93] at hj
        rw [eE 20 _ j (by omega) (by omega), x6 j hj hP]; exact (k3 _ (by omega) (by omega)).symm
    · obtain ⟨x1, x2, x3, x4⟩ := hWt q hq
      refine ⟨?_, ?_, ?_, ?_⟩
      · rw [eI 400 _ (by omega) (by omega), x1]; exact (k3 _ (by omega) (by omega)).symm
      · rw [eI 401 _ (by omega) (by omega), x2]; exact (k3 _ (by omega) (by omega)).symm
      · rw [eI 403 _ (by omega) (by omega), x3]; exact (k3 _ (by omega) (by omega)).symm
      · rw [eI 402 _ (by omega) (by omega), x4]; exact (k3 _ (by omega) (by omega)).symm
    · rw [eI 301 _ (by omega) (by omega)]; exact hX q hq
/-! ===== a new world ===== -/
def nwF (g : Nat → Int32) : Prop := g 0 = 1 ∧ g 1 = 65521 ∧ ∀ j, 2 ≤ j → j < 1980 → g j = 0
theorem k_watcherAt (n : Nat) {α : hp_T} {w : Nat} (h : SHW α w) (v : Nat) (hv : v < 4) (vI : Int32) (hvI : vI.toInt = (v : Int)) : ws (f_X10_watcherAt n α w vI) (fun o => o = some (wtA w v)) := by
  have L4 := t_4
  unfold f_X10_watcherAt
  refine ws_lt (fun e => by rw [lt0] at e; omega) (fun _ => ws_l (ws_le (fun e => by omega) (fun _ => ws_l (ws_g (by omega) (by omega) ?_))))
  rw [h.2.2.1, cl_n hvI, h.2.2.2.2.2.2.2.2.1 v hv]
  exact ws_s rfl
theorem k_wrenew (n : Nat) (α : hp_T) (a : Nat) : ws (f_X7_renew n α a) (fun β => (∀ φ, 400 ≤ φ → φ ≤ 403 → hp_I β φ a = 0) ∧ (∀ φ b, ¬ (b = a ∧ 400 ≤ φ ∧ φ ≤ 403) → hp_I β φ b = hp_I α φ b) ∧ hp_R β = hp_R α ∧ hp_K β = hp_K α ∧ hp_Q β = hp_Q α ∧ hp_N β = hp_N α ∧ hp_E β = hp_E α) := by
  unfold f_X7_renew f_X7_trust
  refine ws_b (S := fun δ => δ = hp_sI (hp_sI α 400 a 0) 401 a 0) (ws_l (ws_l (ws_s rfl))) (fun δ hδ => ws_l (ws_l (ws_s ⟨fun φ p1 p2 => ?_, fun φ b q => ?_, ?_, ?_, ?_, ?_, ?_⟩)))
  · rw [hδ]
    have : φ = 400 ∨ φ = 401 ∨ φ = 402 ∨ φ = 403 := by omega
    rcases this with e | e | e | e <;> subst e
    · rw [hI_sI, if_neg (by omega), hI_sI, if_neg (by omega), hI_sI, if_neg (by omega), hI_sI, if_pos ⟨rfl, rfl⟩]
    · rw [hI_sI, if_neg (by omega), hI_sI, if_neg (by omega), hI_sI, if_pos ⟨rfl, rfl⟩]
    · rw [hI_sI, if_neg (by omega), hI_sI, if_pos ⟨rfl, rfl⟩]
    · rw [hI_sI, if_pos ⟨rfl, rfl⟩]
  · rw [hδ, hI_sI, if_neg (by omega), hI_sI, if_neg (by omega), hI_sI, if_neg (by omega), hI_sI, if_neg (by omega)]
  all_goals rw [hδ]; rfl
theorem k_renew_L (n w : Nat) : ∀ (d k : Nat) (β : hp_T) (kI : Int32), SHW β w → kI.toInt = (k : Int) → k ≤ 4 → 5 - k ≤ d → ws (f_X10_renew_L38 n w d β kI) (fun γ => (∀ v, k ≤ v → v < 4 → ∀ φ, 400 ≤ φ → φ ≤ 403 → hp_I γ φ (wtA w v) = 0) ∧ (∀ φ b, ¬ ((w + 455 + k ≤ b ∧ b < w + 459) ∧ 400 ≤ φ ∧ φ ≤ 403) → hp_I γ φ b = hp_I β φ b) ∧ hp_R γ = hp_R β ∧ hp_K γ = hp_K β ∧ hp_Q γ = hp_Q β ∧ hp_N γ = hp_N β ∧ hp_E γ = hp_E β) := by
  intro d
  have L4 := t_4
  induction d with
  | zero => intro k β kI hS h1 h2 h3; omega
  | succ d ih =>
    intro k β kI hS h1 h2 h3
    rw [f_X10_renew_L38.eq_2]
    unfold f_X10_renew_J57
    refine ws_le (fun e => ws_s ⟨fun v v1 v2 => by omega, fun _ _ _ => rfl, rfl, rfl, rfl, rfl, rfl⟩) (fun e => ?_)
    refine ws_b (k_watcherAt n hS k (by omega) kI h1) (fun o ho => ?_)
    subst ho
    refine ws_hS (ws_b (k_wrenew n β (wtA w k)) (fun γ hγ => ws_l ?_))
    obtain ⟨z, q, s1, s2, s3, s4, s5⟩ := hγ
    refine ws_m (ih (k + 1) γ _ (SHW_e hS s1 s3) (by rw [ii_add (by rw [lt1]; omega) (by rw [lt1]; omega), h1, lt1]; omega) (by omega) (by omega)) (fun δ hδ => ?_)
    obtain ⟨y, p, t1, t2, t3, t4, t5⟩ := hδ
    refine ⟨fun v v1 v2 φ f1 f2 => ?_, fun φ b qq => ?_, t1.trans s1, t2.trans s2, t3.trans s3, t4.trans s4, t5.trans s5⟩
    · by_cases hvk : v = k
      · subst hvk
        rw [p φ _ (by unfold wtA; omega)]; exact z φ f1 f2
      · exact y v (by omega) v2 φ f1 f2
    · rw [p φ b (by omega)]
      exact q φ b (by unfold wtA; omega)
theorem k_renew (n : Nat) (hn : 70000 ≤ n) (α : hp_T) (w : Nat) (hS : SHW α w) (hX : ∀ i, i < 16 → 0 ≤ (hp_I α 301 (fzA w i + 1)).toInt ∧ (hp_I α 301 (fzA w i + 1)).toInt ≤ 64) : ws (f_X10_renew n α w) (fun β => (∀ g, nwF g → WR β w g) ∧ wfr w α β ∧ hp_I β 301 (w + 5) = hp_I α 301 (w + 5)) := by
  have L4 := t_4
  unfold f_X10_renew f_X10_renew_J26
  refine ws_ln (fun α1 h1 => ws_ln (fun α2 h2 => ?_))
  have sh : ∀ {β γ : hp_T}, hp_R γ = hp_R β → hp_Q γ = hp_Q β → SHW β w → SHW γ w := fun a b c => SHW_e c a b
  have hS2 : SHW α2 w := by rw [h2, h1]; exact SHW_e hS rfl rfl
  have hl : ws (f_X10_logAt n α2 w 0) (fun o => o = some (lpA w 0)) := by
    unfold f_X10_logAt
    refine ws_lt (fun e => absurd e (by decide)) (fun _ => ws_l (ws_le (fun e => ?_) (fun _ => ws_l (ws_le (fun e => absurd e (by decide)) (fun _ => ws_l (ws_g (by decide) (by decide) ?_))))))
    · rw [h2, hI_sI, if_pos ⟨rfl, rfl⟩] at e; exact absurd e (by decide)
    · rw [hS2.1, cl_n (k := 0) (by decide), hS2.2.2.2.2.2.2.1 0 (by decide)]
      exact ws_s rfl
  refine ws_b hl (fun o ho => ?_)
  subst ho
  refine ws_hS (ws_ln (fun α3 h3 => ws_ln (fun α4 h4 => ws_ln (fun α5 h5 => ?_))))
  have r5 : hp_R α5 = hp_R α ∧ hp_K α5 = hp_K α ∧ hp_Q α5 = hp_Q α ∧ hp_N α5 = hp_N α ∧ hp_E α5 = hp_E α := by rw [h5, h4, h3, h2, h1]; exact ⟨rfl, rfl, rfl, rfl, rfl⟩
  have i5 : ∀ φ b, ¬ (b = w ∧ (φ = 550 ∨ φ = 552 ∨ φ = 554 ∨ φ = 556)) → ¬ (b = lpA w 0 ∧ φ = 152) → hp_I α5 φ b = hp_I α φ b := fun φ b q1 q2 => by rw [h5, hI_sI, if_neg (by omega), h4, hI_sI, if_neg (by omega), h3, hI_sI, if_neg (by omega), h2, hI_sI, if_neg (by omega), h1, hI_sI, if_neg (by omega)]
  have v5 : hp_I α5 550 w = 65521 ∧ hp_I α5 552 w = 1 ∧ hp_I α5 554 w = 0 ∧ hp_I α5 556 w = 0 ∧ hp_I α5 152 (lpA w 0) = 0 := by
    refine ⟨?_, ?_, ?_, ?_, ?_⟩
    · rw [h5, hI_sI, if_neg (by omega), h4, hI_sI, if_neg (by omega), h3, hI_sI, if_neg (by omega), h2, hI_sI, if_neg (by omega), h1, hI_sI, if_pos ⟨rfl, rfl⟩]
    · rw [h5, hI_sI, if_neg (by omega), h4, hI_sI, if_neg (by omega), h3, hI_sI, if_neg (by omega), h2, hI_sI, if_pos ⟨rfl, rfl⟩]
    · rw [h5, hI_sI, if_neg (by omega), h4, hI_sI, if_pos ⟨rfl, rfl⟩]
    · rw [h5, hI_sI, if_pos ⟨rfl, rfl⟩]
    · rw [h5, hI_sI, if_neg (by omega), h4, hI_sI, if_neg (by omega), h3, hI_sI, if_pos ⟨rfl, rfl⟩]
  refine ws_m (k_renew_L n w n 0 α5 0 (SHW_e hS r5.1 r5.2.2.1) rfl (by decide) (by omega)) (fun β hβ => ?_)
  obtain ⟨y, p, t1, t2, t3, t4, t5⟩ := hβ
  have eI : ∀ φ b, ¬ (b = w ∧ (φ = 550 ∨ φ = 552 ∨ φ = 554 ∨ φ = 556)) → ¬ (b = lpA w 0 ∧ φ = 152) → ¬ ((w + 455 ≤ b ∧ b < w + 459) ∧ 400 ≤ φ ∧ φ ≤ 403) → hp_I β φ b = hp_I α φ b := fun φ b q1 q2 q3 => by rw [p φ b (by omega)]; exact i5 φ b q1 q2
  refine ⟨fun g hg => ?_, ⟨t1.trans r5.1, t2.trans r5.2.1, t3.trans r5.2.2.1, t4.trans r5.2.2.2.1, fun φ b q => eI φ b (by omega) (by unfold lpA; omega) (by omega), fun κ b j _ => by rw [t5, r5.2.2.2.2]⟩, eI 301 _ (by omega) (by omega) (by omega)⟩
  obtain ⟨g0, g1, gz⟩ := hg
  have z72 := gz 72 (by decide) (by decide)
  have z3 := gz 3 (by decide) (by decide)
  refine ⟨SHW_e hS (t1.trans r5.1) (t3.trans r5.2.2.1), ⟨?_, ?_, ?_, ?_⟩, fun r hr => ?_, fun i hi => ?_, fun v hv => ?_, fun i hi => ?_⟩
  · rw [p 550 w (by omega), v5.1, g1]
  · rw [p 552 w (by omega), v5.2.1, g0]
  · rw [p 554 w (by omega), v5.2.2.1, z3]
  · rw [p 556 w (by omega), v5.2.2.2.1, gz 4 (by decide) (by decide)]
  · rw [g0] at hr
    have hr0 : r = 0 := by have : ((1 : Int32).toInt.toNat) = 1 := by decide
                           omega
    subst hr0
    refine ⟨by rw [p 152 _ (by omega), v5.2.2.2.2]; exact z72.symm, fun i hi => ?_⟩
    rw [show 72 + 0 = 72 by omega, z72] at hi
    exact absurd hi (by rw [show ((0 : Int32).toInt.toNat) = 0 by decide]; omega)
  · rw [z3] at hi
    exact absurd hi (by rw [show ((0 : Int32).toInt.toNat) = 0 by decide]; omega)
  · have hz := y v (Nat.zero_le _) hv
    exact ⟨by rw [hz 400 (by decide) (by decide), gz _ (by omega) (by omega)], by rw [hz 401 (by decide) (by decide), gz _ (by omega) (by omega)], by rw [hz 403 (by decide) (by decide), gz _ (by omega) (by omega)], by rw [hz 402 (by decide) (by decide), gz _ (by omega) (by omega)]⟩
  · rw [eI 301 _ (by omega) (by omega) (by omega)]; exact hX i hi
/-! ===== the record's two worlds; the call freeze ===== -/
theorem ws_hN {R : Type} {P : R → Prop} {x : Option R} {k : Nat → Option R} (h : ws x P) : ws (hq_m none x k) P := h
def RWX (α : hp_T) (x : Nat) (f : Nat → Int32) : Prop := ∃ w u, hp_R α 601 x = w ∧ hp_R α 602 x = u ∧ ((w = x + 1 ∧ u = x + 460) ∨ (w = x + 460 ∧ u = x + 1)) ∧ WR α w f ∧ rG α w ∧ SHW α u ∧ rG α u ∧ ∀ i, i < 16 → 0 ≤ (hp_I α 301 (fzA u i + 1)).toInt ∧ (hp_I α 301 (fzA u i + 1)).toInt ≤ 64
theorem RWX_w {α β : hp_T} {x w u : Nat} {g : Nat → Int32} (hw : hp_R α 601 x = w) (hu : hp_R α 602 x = u) (hwu : (w = x + 1 ∧ u = x + 460) ∨ (w = x + 460 ∧ u = x + 1)) (hS : SHW α u) (hGu : rG α u) (hX : ∀ i, i < 16 → 0 ≤ (hp_I α 301 (fzA u i + 1)).toInt ∧ (hp_I α 301 (fzA u i + 1)).toInt ≤ 64) (h : WR β w g) (hG : rG β w) (hf : wfr w α β) : RWX β x g := by
  obtain ⟨f1, f2, f3, f4, f5, f6⟩ := hf
  refine ⟨w, u, by rw [f1]; exact hw, by rw [f1]; exact hu, hwu, h, hG, SHW_e hS f1 f3, ?_, fun i hi => ?_⟩
  · unfold rG
    rw [f5 301 _ (by omega)]
    exact hGu
  · rw [f5 301 _ (by unfold fzA; omega)]; exact hX i hi
theorem RWX_st {α : hp_T} {x : Nat} {f : Nat → Int32} (hC : rC f) (h : RWX α x f) (v : Int32) : RWX (hp_sI α 600 x v) x f := by
  obtain ⟨w, u, h1, h2, h3, h4, h5, h6, h7, h8⟩ := h
  have q : ∀ φ b, φ ≠ 600 → hp_I (hp_sI α 600 x v) φ b = hp_I α φ b := fun φ b e => by rw [hI_sI, if_neg (fun k => e k.1)]
  refine ⟨w, u, h1, h2, h3, WR_f2 h4 hC rfl rfl (fun φ b _ _ e => q φ b (by omega)) (fun _ _ _ _ _ _ => rfl), ?_, SHW_e h6 rfl rfl, ?_, fun i hi => ?_⟩
  · unfold rG; rw [q 301 _ (by decide)]; exact h5
  · unfold rG; rw [q 301 _ (by decide)]; exact h7
  · rw [q 301 _ (by decide)]; exact h8 i hi
/-- nothing outside the record's worlds changes, but for the status -/
def wfs (x : Nat) (α β : hp_T) : Prop := hp_R β = hp_R α ∧ hp_K β = hp_K α ∧ hp_Q β = hp_Q α ∧ hp_N β = hp_N α ∧ (∀ φ b, (b ≤ x ∨ x + 919 ≤ b) → ¬ (φ = 600 ∧ b = x) → hp_I β φ b = hp_I α φ b) ∧ ∀ κ b j, (b ≤ x ∨ x + 919 ≤ b) → hp_E β κ b j = hp_E α κ b j
theorem wfs_st {α : hp_T} {x : Nat} (v : Int32) : wfs x α (hp_sI α 600 x v) := ⟨rfl, rfl, rfl, rfl, fun φ b _ h => by rw [hI_sI, if_neg h], fun _ _ _ _ => rfl⟩
theorem wfs_w {α β : hp_T} {x w : Nat} (hw : w = x + 1 ∨ w = x + 460) (h : wfr w α β) (v : Int32) : wfs x α (hp_sI β 600 x v) := by
  obtain ⟨f1, f2, f3, f4, f5, f6⟩ := h
  exact ⟨f1, f2, f3, f4, fun φ b hb h => by rw [hI_sI, if_neg h]; exact f5 φ b (by omega), fun κ b j hb => f6 κ b j (by omega)⟩
/-- what freeze answers, and what it leaves -/
def fzA1 (f : Nat → Int32) (a : Int32) : Int32 := if (0 ≤ a.toInt ∧ a.toInt < (f 0).toInt) ∧ (f 3).toInt < 16 then f 3 else -1
def fzG (f : Nat → Int32) (a : Int32) (g : Nat → Int32) : Prop := if (0 ≤ a.toInt ∧ a.toInt < (f 0).toInt) ∧ (f 3).toInt < 16 then frF f a.toInt.toNat (f 3).toInt.toNat g else g = f
theorem v_freeze (n : Nat) (σ : ms_T) (hC : rC (ms_E σ 40)) (a : Int32) : pr (f_X12_freeze n σ a) (fun res => res.1 = fzA1 (ms_E σ 40) a ∧ fzG (ms_E σ 40) a (ms_E res.2 40)) := by
  have b16 := hC.2.2.2.1
  unfold f_X12_freeze f_X12_freeze_J14
  have his : ∀ (σ : ms_T) (v : Int32), pr (f_X12_is n σ v) (fun res => bo res.1 (v = 0) ∧ res.2 = ms_sI (ms_sI σ 653 0) 652 v) := by
    intro σ v
    unfold f_X12_is
    exact pr_l (pr_l (pr_i (fun e => pr_s ⟨Or.inl ⟨rfl, e⟩, rfl⟩) (fun e => pr_s ⟨Or.inr ⟨rfl, e⟩, rfl⟩)))
  refine pr_bo (pr_w (s_isRecord hC a)) (fun h0 => ?_) (fun h1 => ?_)
  · refine pr_c (his σ 2) (fun v τ hv => pr_i (fun _ => pr_s ⟨?_, ?_⟩) (fun e => ?_))
    · unfold fzA1; rw [if_neg (fun h => h0 h.1)]
    · unfold fzG; rw [if_neg (fun h => h0 h.1)]
      have e9 : τ = ms_sI (ms_sI σ 653 0) 652 2 := hv.2
      show ms_E τ 40 = _
      rw [e9]; rfl
    · rcases hv.1 with ⟨_, h⟩ | ⟨h, _⟩
      · exact absurd h (by decide)
      · exact absurd h e
  · refine pr_c (his σ 0) (fun v τ hv => pr_i (fun e => ?_) (fun _ => ?_))
    · rcases hv.1 with ⟨h, _⟩ | ⟨_, h⟩
      · exact absurd (h.symm.trans e) (by decide)
      · exact absurd rfl h
    · have hτ : ms_E τ 40 = ms_E σ 40 := by have e9 : τ = ms_sI (ms_sI σ 653 0) 652 0 := hv.2; rw [e9]; rfl
      refine pr_c (v_freezes n τ (by rw [hτ]; exact hC) a.toInt.toNat (by rw [hτ]; omega) a (by omega)) (fun y υ hy => pr_s ?_)
      rw [hτ] at hy
      unfold fzA1 fzG
      by_cases hc : (ms_E σ 40 3).toInt < 16
      · rw [if_pos ⟨h1, hc⟩, if_pos ⟨h1, hc⟩]
        exact ⟨(hy.2 hc).1, (hy.2 hc).2.1⟩
      · rw [if_neg (fun h => hc h.2), if_neg (fun h => hc h.2)]
        have h3 := hy.1 (by omega)
        refine ⟨h3.1, ?_⟩
        have := h3.2
        show ms_E υ 40 = _
        rw [show υ = ms_sI τ 652 3 from this]
        exact hτ
theorem k_freeze (n : Nat) (hn : 70000 ≤ n) (α : hp_T) (x : Nat) (f : Nat → Int32) (hC : rC f) (h : RWX α x f) (a : Int32) : ws (f_X11_freeze n α x a) (fun res => res.1 = fzA1 f a ∧ (∀ g, rC g → fzG f a g → RWX res.2 x g) ∧ wfs x α res.2) := by
  have b16 := hC.2.2.2.1
  have L16 := t_16
  obtain ⟨w, u, h1, h2, h3, h4, h5, h6, h7, h8⟩ := id h
  unfold f_X11_freeze
  refine ws_l ?_
  rw [h1]
  refine ws_b (k_logAt n h4 hC a) (fun o ho => ?_)
  by_cases hr : 0 ≤ a.toInt ∧ a.toInt < (f 0).toInt
  · rw [if_pos hr] at ho
    subst ho
    refine ws_hS (ws_l (ws_l ?_))
    rw [h4.2.1.2.2.1]
    unfold fzA1 fzG
    refine ws_lt (fun e => ws_l ?_) (fun e => ?_)
    · rw [L16] at e
      rw [if_pos ⟨hr, e⟩]
      refine ws_hc (k_freezeHead n hn α w f h4 hC a.toInt.toNat (by omega) e a (by omega)) (fun y β hy => ws_hc (k_answer n β x y) (fun z γ hz => ws_s ⟨?_, fun g hCg hg => ?_, by rw [show γ = hp_sI β 600 x 0 from hz.2]; exact wfs_w (by omega) hy.2.2.1 0⟩))
      · exact hz.1.trans hy.1
      · rw [if_pos ⟨hr, e⟩] at hg
        have hγ : γ = hp_sI β 600 x 0 := hz.2
        rw [hγ]
        exact RWX_st hCg (RWX_w h1 h2 h3 h6 h7 h8 (hy.2.1 g hg) (by unfold rG; rw [hy.2.2.2]; exact h5) hy.2.2.1) 0
    · rw [L16] at e
      rw [if_neg (fun q => by omega)]
      refine ws_hc (k_refuse n α x 3) (fun z γ hz => ws_s ⟨hz.1, fun g hCg hg => ?_, by rw [show γ = hp_sI α 600 x 3 from hz.2]; exact wfs_st 3⟩)
      rw [if_neg (fun q => by omega)] at hg
      have hγ : γ = hp_sI α 600 x 3 := hz.2
      rw [hγ, hg]
      exact RWX_st hC h 3
  · rw [if_neg hr] at ho
    subst ho
    unfold fzA1 fzG
    rw [if_neg (fun q => hr q.1)]
    refine ws_hN ?_
    refine ws_hc (k_refuse n α x 2) (fun z γ hz => ws_s ⟨hz.1, fun g hCg hg => ?_, by rw [show γ = hp_sI α 600 x 2 from hz.2]; exact wfs_st 2⟩)
    rw [if_neg (fun q => hr q.1)] at hg
    have hγ : γ = hp_sI α 600 x 2 := hz.2
    rw [hγ, hg]
    exact RWX_st hC h 2
/-! ===== the call show ===== -/
theorem v_is2 (n : Nat) (σ : ms_T) (v : Int32) : pr (f_X12_is n σ v) (fun res => bo res.1 (v = 0) ∧ res.2 = ms_sI (ms_sI σ 653 0) 652 v) := by
  unfold f_X12_is
  exact pr_l (pr_l (pr_i (fun e => pr_s ⟨Or.inl ⟨rfl, e⟩, rfl⟩) (fun e => pr_s ⟨Or.inr ⟨rfl, e⟩, rfl⟩)))
theorem v_is0 {R : Type} {P : R → Prop} (n : Nat) (σ : ms_T) {k : ms_T → Option R} {l : ms_T → Option R} (h : pr (l (ms_sI (ms_sI σ 653 0) 652 0)) P) : pr (ms_c (f_X12_is n σ 0) fun r τ => if r = 0 then k τ else l τ) P := by
  refine pr_c (v_is2 n σ 0) (fun v τ hv => pr_i (fun e => ?_) (fun _ => ?_))
  · rcases hv.1 with ⟨h, _⟩ | ⟨_, h⟩
    · exact absurd (h.symm.trans e) (by decide)
    · exact absurd rfl h
  · have e9 : τ = ms_sI (ms_sI σ 653 0) 652 0 := hv.2
    rw [e9]; exact h
theorem v_is1 {R : Type} {P : R → Prop} (n : Nat) (σ : ms_T) (v : Int32) (hv0 : ¬ v = 0) {k : ms_T → Option R} {l : ms_T → Option R} (h : pr (k (ms_sI (ms_sI σ 653 0) 652 v)) P) : pr (ms_c (f_X12_is n σ v) fun r τ => if r = 0 then k τ else l τ) P := by
  refine pr_c (v_is2 n σ v) (fun y τ hv => pr_i (fun _ => ?_) (fun e => ?_))
  · have e9 : τ = ms_sI (ms_sI σ 653 0) 652 v := hv.2
    rw [e9]; exact h
  · rcases hv.1 with ⟨_, h⟩ | ⟨h, _⟩
    · exact absurd h hv0
    · exact absurd h e
abbrev shOK (f : Nat → Int32) (a b c : Int32) : Prop := 0 ≤ c.toInt ∧ (0 ≤ a.toInt ∧ a.toInt ≤ 3) ∧ (0 ≤ b.toInt ∧ b.toInt < (f 0).toInt) ∧ c.toInt ≤ (f (72 + b.toInt.toNat)).toInt
def shA (f : Nat → Int32) (a b c : Int32) : Int32 := if shOK f a b c then shW f a.toInt.toNat b.toInt.toNat c.toInt.toNat else -1
def shG (f : Nat → Int32) (a b c : Int32) (g : Nat → Int32) : Prop := if shOK f a b c then shF f a.toInt.toNat b.toInt.toNat c.toInt.toNat g else g = f
theorem v_show (n : Nat) (σ : ms_T) (hC : rC (ms_E σ 40)) (a b c : Int32) : pr (f_X12_show n σ a b c) (fun res => res.1 = shA (ms_E σ 40) a b c ∧ shG (ms_E σ 40) a b c (ms_E res.2 40)) := by
  have h4 := hC.1
  have bad : ∀ v : Int32, ¬ v = 0 → ¬ shOK (ms_E σ 40) a b c → pr (f_X12_show_J42 n σ a b c v) (fun res => res.1 = shA (ms_E σ 40) a b c ∧ shG (ms_E σ 40) a b c (ms_E res.2 40)) := by
    intro v hv hn
    unfold f_X12_show_J42 shA shG
    rw [if_neg hn]
    refine v_is1 n σ v hv (pr_s ⟨rfl, ?_⟩)
    rw [if_neg hn]; rfl
  unfold f_X12_show f_X12_show_J24
  refine pr_le (fun h0 => ?_) (fun h0 => bad 1 (by decide) (fun q => by rw [lt0] at h0; have := q.1; omega))
  rw [lt0] at h0
  refine pr_bo (pr_w (s_isWatcher n a)) (fun h1 => bad 2 (by decide) (fun q => h1 q.2.1)) (fun h1 => pr_bo (pr_w (s_isRecord hC b)) (fun h2 => bad 2 (by decide) (fun q => h2 q.2.2.1)) (fun h2 => ?_))
  refine pr_b (v_sizeOf n σ b.toInt.toNat (by omega) b (by omega)) (fun s hs => pr_le (fun h3 => ?_) (fun h3 => bad 5 (by decide) (fun q => by rw [hs] at h3; have := q.2.2.2; omega)))
  rw [hs] at h3
  have ok : shOK (ms_E σ 40) a b c := ⟨h0, h1, h2, h3⟩
  unfold f_X12_show_J42 shA shG
  rw [if_pos ok]
  refine v_is0 n σ ?_
  have hE : ms_E (ms_sI (ms_sI σ 653 0) 652 0) = ms_E σ := rfl
  refine pr_c (v_shows n (ms_sI (ms_sI σ 653 0) 652 0) (by rw [hE]; exact hC) a.toInt.toNat b.toInt.toNat c.toInt.toNat (by omega) (by omega) (by rw [hE]; omega) a b c (by omega) (by omega) (by omega)) (fun y τ hy => pr_s ?_)
  rw [hE] at hy
  rw [if_pos ok]
  exact ⟨hy.1, hy.2.1⟩
theorem k_watcherAt2 (n : Nat) {α : hp_T} {w : Nat} (h : SHW α w) (a : Int32) : ws (f_X10_watcherAt n α w a) (fun o => o = if 0 ≤ a.toInt ∧ a.toInt ≤ 3 then some (wtA w a.toInt.toNat) else none) := by
  have L4 := t_4
  by_cases hc : 0 ≤ a.toInt ∧ a.toInt ≤ 3
  · rw [if_pos hc]
    exact k_watcherAt n h a.toInt.toNat (by omega) a (by omega)
  · rw [if_neg hc]
    unfold f_X10_watcherAt
    refine ws_lt (fun _ => ws_s rfl) (fun e => ws_l (ws_le (fun _ => ws_s rfl) (fun e2 => ?_)))
    rw [lt0] at e
    omega
theorem k_show (n : Nat) (hn : 70000 ≤ n) (α : hp_T) (x : Nat) (f : Nat → Int32) (hC : rC f) (hA : AL01 f) (h : RWX α x f) (a b c : Int32) : ws (f_X11_show n α x a b c) (fun res => res.1 = shA f a b c ∧ (∀ g, rC g → shG f a b c g → RWX res.2 x g) ∧ wfs x α res.2) := by
  have b4 := hC.1
  obtain ⟨w, u, h1, h2, h3, h4, h5, h6, h7, h8⟩ := id h
  have bad : ∀ v : Int32, ¬ shOK f a b c → ws (hq_c (f_X11_refuse n α x v) fun r β => some (r, β)) (fun res => res.1 = shA f a b c ∧ (∀ g, rC g → shG f a b c g → RWX res.2 x g) ∧ wfs x α res.2) := by
    intro v hno
    unfold shA shG
    rw [if_neg hno]
    refine ws_hc (k_refuse n α x v) (fun z γ hz => ws_s ⟨hz.1, fun g hCg hg => ?_, by rw [show γ = hp_sI α 600 x v from hz.2]; exact wfs_st v⟩)
    rw [if_neg hno] at hg
    have hγ : γ = hp_sI α 600 x v := hz.2
    rw [hγ, hg]
    exact RWX_st hC h v
  unfold f_X11_show f_X11_show_J40
  refine ws_le (fun h0 => ws_l ?_) (fun h0 => bad 1 (fun q => by rw [lt0] at h0; have := q.1; omega))
  rw [lt0] at h0
  rw [h1]
  refine ws_b (k_watcherAt2 n h4.1 a) (fun o ho => ?_)
  by_cases hw : 0 ≤ a.toInt ∧ a.toInt ≤ 3
  · rw [if_pos hw] at ho
    subst ho
    refine ws_hS (ws_l (ws_b (k_logAt n h4 hC b) (fun o ho => ?_)))
    by_cases hr : 0 ≤ b.toInt ∧ b.toInt < (f 0).toInt
    · rw [if_pos hr] at ho
      subst ho
      refine ws_hS (ws_l ?_)
      rw [(h4.2.2.1 b.toInt.toNat (by omega)).1]
      refine ws_le (fun e => ws_l ?_) (fun e => bad 5 (fun q => by have := q.2.2.2; omega))
      have ok : shOK f a b c := ⟨h0, hw, hr, e⟩
      refine ws_hc (k_showTo n hn α w f h4 hC hA h5 a.toInt.toNat b.toInt.toNat c.toInt.toNat (by omega) (by omega) (by omega) c (by omega)) (fun y β hy => ws_hc (k_answer n β x y) (fun z γ hz => ws_s ⟨?_, fun g hCg hg => ?_, by rw [show γ = hp_sI β 600 x 0 from hz.2]; exact wfs_w (by omega) hy.2.2.1 0⟩))
      · unfold shA
        rw [if_pos ok]
        exact hz.1.trans hy.1
      · unfold shG at hg
        rw [if_pos ok] at hg
        have hγ : γ = hp_sI β 600 x 0 := hz.2
        rw [hγ]
        exact RWX_st hCg (RWX_w h1 h2 h3 h6 h7 h8 (hy.2.1 g hg) hy.2.2.2 hy.2.2.1) 0
    · rw [if_neg hr] at ho
      subst ho
      exact ws_hN (bad 2 (fun q => hr q.2.2.1))
  · rw [if_neg hw] at ho
    subst ho
    refine ws_hN (ws_l (ws_b (k_logAt n h4 hC b) (fun o ho => ?_)))
    cases o with
    | none => exact ws_hN (bad 2 (fun q => hw q.2.1))
    | some l => exact ws_hS (bad 2 (fun q => hw q.2.1))
theorem AL_sh {f g : Nat → Int32} {a b c : Int32} (hC : rC f) (h : AL01 f) (hg : shG f a b c g) : AL01 g := by
  unfold shG at hg
  by_cases ok : shOK f a b c
  · rw [if_pos ok] at hg
    obtain ⟨-, g2, -, -, g5⟩ := hg
    have h4 := hC.1
    have ha3 := ok.2.1
    refine ⟨?_, FRI_e hC h.2 (by rw [g5 0 (by omega) (by omega)]; omega) (g5 3 (by omega) (by omega)) (fun r hr => by rw [g5 (72 + r) (by omega) (by omega)]; omega) (fun i hi => ⟨g5 _ (by omega) (by omega), g5 _ (by omega) (by omega)⟩)⟩
    intro v hv
    by_cases hva : v = a.toInt.toNat
    · rw [hva, g2]
      split
      · have := ok.2.1
        exact h.1 a.toInt.toNat (by omega)
      · exact Or.inr rfl
    · rw [g5 _ (by omega) (by omega)]; exact h.1 v hv
  · rw [if_neg ok] at hg
    rw [hg]; exact h
/-! ===== the call meet ===== -/
abbrev meOK (f : Nat → Int32) (a b c : Int32) : Prop := (0 ≤ a.toInt ∧ a.toInt ≤ 3) ∧ (0 ≤ b.toInt ∧ b.toInt ≤ 3) ∧ (0 ≤ c.toInt ∧ c.toInt < (f 0).toInt)
def meA (f : Nat → Int32) (a b c : Int32) : Int32 := if meOK f a b c then (if (f (76 + 4 * b.toInt.toNat)).toInt < (f (76 + 4 * a.toInt.toNat)).toInt then meW f b.toInt.toNat a.toInt.toNat c.toInt.toNat else meW f a.toInt.toNat b.toInt.toNat c.toInt.toNat) else -1
def meG (f : Nat → Int32) (a b c : Int32) (g : Nat → Int32) : Prop := if meOK f a b c then (if (f (76 + 4 * b.toInt.toNat)).toInt < (f (76 + 4 * a.toInt.toNat)).toInt then meF f b.toInt.toNat a.toInt.toNat c.toInt.toNat g else meF f a.toInt.toNat b.toInt.toNat c.toInt.toNat g) else g = f
theorem v_meet (n : Nat) (σ : ms_T) (hC : rC (ms_E σ 40)) (a b c : Int32) : pr (f_X12_meet n σ a b c) (fun res => res.1 = meA (ms_E σ 40) a b c ∧ meG (ms_E σ 40) a b c (ms_E res.2 40)) := by
  have h4 := hC.1
  have bad : ∀ v : Int32, ¬ v = 0 → ¬ meOK (ms_E σ 40) a b c → pr (f_X12_meet_J28 n σ a b c v) (fun res => res.1 = meA (ms_E σ 40) a b c ∧ meG (ms_E σ 40) a b c (ms_E res.2 40)) := by
    intro v hv hn
    unfold f_X12_meet_J28 meA meG
    rw [if_neg hn]
    refine v_is1 n σ v hv (pr_s ⟨rfl, ?_⟩)
    rw [if_neg hn]; rfl
  unfold f_X12_meet f_X12_meet_J27
  refine pr_bo (pr_w (s_isWatcher n a)) (fun h1 => bad 2 (by decide) (fun q => h1 q.1)) (fun h1 => pr_bo (pr_w (s_isWatcher n b)) (fun h2 => bad 2 (by decide) (fun q => h2 q.2.1)) (fun h2 => pr_bo (pr_w (s_isRecord hC c)) (fun h3 => bad 2 (by decide) (fun q => h3 q.2.2)) (fun h3 => ?_)))
  have ok : meOK (ms_E σ 40) a b c := ⟨h1, h2, h3⟩
  unfold f_X12_meet_J28 meA meG
  rw [if_pos ok]
  refine v_is0 n σ ?_
  have hE : ms_E (ms_sI (ms_sI σ 653 0) 652 0) = ms_E σ := rfl
  refine pr_b (v_trust n _ a.toInt.toNat (by omega) a (by omega) 0 (by decide) 0 rfl) (fun s hs => pr_b (v_trust n _ b.toInt.toNat (by omega) b (by omega) 0 (by decide) 0 rfl) (fun t ht => ?_))
  rw [hE, Nat.add_zero] at hs ht
  refine pr_lt (fun e => ?_) (fun e => ?_)
  · rw [hs, ht] at e
    rw [if_pos e]
    refine pr_m (v_m56 n (ms_sI (ms_sI σ 653 0) 652 0) (by rw [hE]; exact hC) a.toInt.toNat b.toInt.toNat c.toInt.toNat (by omega) (by omega) (by omega) a b c 0 (by omega) (by omega) (by omega) (by rw [hE, if_pos e])) (fun res hr => ?_)
    rw [hE] at hr
    rw [if_pos ok, if_pos e]
    exact hr.1 e
  · rw [hs, ht] at e
    rw [if_neg (show ¬ (ms_E σ 40 (76 + 4 * b.toInt.toNat)).toInt < (ms_E σ 40 (76 + 4 * a.toInt.toNat)).toInt by omega)]
    refine pr_m (v_m56 n (ms_sI (ms_sI σ 653 0) 652 0) (by rw [hE]; exact hC) a.toInt.toNat b.toInt.toNat c.toInt.toNat (by omega) (by omega) (by omega) a b c 1 (by omega) (by omega) (by omega) (by rw [hE, if_neg (by omega)])) (fun res hr => ?_)
    rw [hE] at hr
    rw [if_pos ok, if_neg (show ¬ (ms_E σ 40 (76 + 4 * b.toInt.toNat)).toInt < (ms_E σ 40 (76 + 4 * a.toInt.toNat)).toInt by omega)]
    exact hr.2.1 e
theorem k_meet (n : Nat) (hn : 70000 ≤ n) (α : hp_T) (x : Nat) (f : Nat → Int32) (hC : rC f) (hA : AL01 f) (h : RWX α x f) (a b c : Int32) : ws (f_X11_meet n α x a b c) (fun res => res.1 = meA f a b c ∧ (∀ g, rC g → meG f a b c g → RWX res.2 x g) ∧ wfs x α res.2) := by
  have b4 := hC.1
  obtain ⟨w, u, h1, h2, h3, h4, h5, h6, h7, h8⟩ := id h
  have bad : ¬ meOK f a b c → ws (f_X11_meet_J45 n x α) (fun res => res.1 = meA f a b c ∧ (∀ g, rC g → meG f a b c g → RWX res.2 x g) ∧ wfs x α res.2) := by
    intro hno
    unfold meA meG f_X11_meet_J45
    rw [if_neg hno]
    refine ws_hc (k_refuse n α x 2) (fun z γ hz => ws_s ⟨hz.1, fun g hCg hg => ?_, by rw [show γ = hp_sI α 600 x 2 from hz.2]; exact wfs_st 2⟩)
    rw [if_neg hno] at hg
    have hγ : γ = hp_sI α 600 x 2 := hz.2
    rw [hγ, hg]
    exact RWX_st hC h 2
  have bad2 : ¬ meOK f a b c → ∀ {k : Nat → Option (Int32 × hp_T)}, (∀ l, k l = f_X11_meet_J45 n x α) → ws (ms_b (f_X10_logAt n α w c) fun o => hq_m o (f_X11_meet_J45 n x α) k) (fun res => res.1 = meA f a b c ∧ (∀ g, rC g → meG f a b c g → RWX res.2 x g) ∧ wfs x α res.2) := by
    intro hno k hk
    refine ws_b (k_logAt n h4 hC c) (fun o _ => ?_)
    cases o with
    | none => exact ws_hN (bad hno)
    | some l => exact ws_hS (by rw [hk]; exact bad hno)
  unfold f_X11_meet
  refine ws_l ?_
  rw [h1]
  refine ws_b (k_watcherAt2 n h4.1 a) (fun o ho => ?_)
  by_cases ha : 0 ≤ a.toInt ∧ a.toInt ≤ 3
  · rw [if_pos ha] at ho
    subst ho
    refine ws_hS (ws_l (ws_b (k_watcherAt2 n h4.1 b) (fun o ho => ?_)))
    by_cases hb : 0 ≤ b.toInt ∧ b.toInt ≤ 3
    · rw [if_pos hb] at ho
      subst ho
      refine ws_hS (ws_l (ws_b (k_logAt n h4 hC c) (fun o ho => ?_)))
      by_cases hc : 0 ≤ c.toInt ∧ c.toInt < (f 0).toInt
      · rw [if_pos hc] at ho
        subst ho
        have ok : meOK f a b c := ⟨ha, hb, hc⟩
        refine ws_hS (ws_l (ws_hc (k_meetBy n hn α w f h4 hC hA h5 a.toInt.toNat b.toInt.toNat c.toInt.toNat (by omega) (by omega) (by omega)) (fun y β hy => ws_hc (k_answer n β x y) (fun z γ hz => ws_s ⟨?_, fun g hCg hg => ?_, by rw [show γ = hp_sI β 600 x 0 from hz.2]; exact wfs_w (by omega) hy.2.2.1 0⟩))))
        · unfold meA
          rw [if_pos ok]
          by_cases e : (f (76 + 4 * b.toInt.toNat)).toInt < (f (76 + 4 * a.toInt.toNat)).toInt
          · rw [if_pos e]; exact hz.1.trans (hy.1 e).1
          · rw [if_neg e]; exact hz.1.trans (hy.2.1 (by omega)).1
        · unfold meG at hg
          rw [if_pos ok] at hg
          have hγ : γ = hp_sI β 600 x 0 := hz.2
          rw [hγ]
          refine RWX_st hCg (RWX_w h1 h2 h3 h6 h7 h8 ?_ hy.2.2.2 hy.2.2.1) 0
          by_cases e : (f (76 + 4 * b.toInt.toNat)).toInt < (f (76 + 4 * a.toInt.toNat)).toInt
          · rw [if_pos e] at hg; exact (hy.1 e).2 g hg
          · rw [if_neg e] at hg; exact (hy.2.1 (by omega)).2 g hg
      · rw [if_neg hc] at ho
        subst ho
        exact ws_hN (bad (fun q => hc q.2.2))
    · rw [if_neg hb] at ho
      subst ho
      exact ws_hN (ws_l (bad2 (fun q => hb q.2.1) (fun _ => rfl)))
  · rw [if_neg ha] at ho
    subst ho
    refine ws_hN (ws_l (ws_b (k_watcherAt2 n h4.1 b) (fun o _ => ?_)))
    cases o with
    | none => exact ws_hN (ws_l (bad2 (fun q => ha q.1) (fun _ => rfl)))
    | some l => exact ws_hS (ws_l (bad2 (fun q => ha q.1) (fun _ => rfl)))
