/-! ===== the class's ways ===== -/
def WC (α : hp_T) (a : Nat) (l : List (Nat × Nat × Bool)) : Prop := (hp_I α 453 a).toInt = (l.length : Int) ∧ ∀ (k : Nat) (q : Nat × Nat × Bool), l[k]? = some q → (hp_E α 21 (hp_R α 450 a) k).toInt = (q.1 : Int) ∧ (hp_E α 22 (hp_R α 451 a) k).toInt = (q.2.1 : Int) ∧ hp_E α 23 (hp_R α 452 a) k = if q.2.2 then 1 else 0
/-- what a way's own methods leave as it is -/
def wf (a : Nat) (α β : hp_T) : Prop := hp_R β = hp_R α ∧ hp_K β = hp_K α ∧ hp_Q β = hp_Q α ∧ hp_N β = hp_N α ∧ (∀ φ b, ¬ (b = a ∧ (φ = 453 ∨ φ = 454)) → hp_I β φ b = hp_I α φ b) ∧ ∀ κ b j, ¬ ((κ = 21 ∧ b = hp_R α 450 a) ∨ (κ = 22 ∧ b = hp_R α 451 a) ∨ (κ = 23 ∧ b = hp_R α 452 a)) → hp_E β κ b j = hp_E α κ b j
theorem wf_rf {a : Nat} {α : hp_T} : wf a α α := ⟨rfl, rfl, rfl, rfl, fun _ _ _ => rfl, fun _ _ _ _ => rfl⟩
theorem wf_tr {a : Nat} {α β γ : hp_T} (h : wf a α β) (g : wf a β γ) : wf a α γ := by
  obtain ⟨h1, h2, h3, h4, h5, h6⟩ := h
  obtain ⟨g1, g2, g3, g4, g5, g6⟩ := g
  rw [h1] at g6
  exact ⟨g1.trans h1, g2.trans h2, g3.trans h3, g4.trans h4, fun φ b q => (g5 φ b q).trans (h5 φ b q), fun κ b j q => (g6 κ b j q).trans (h6 κ b j q)⟩
theorem wf_sI {a φ : Nat} {α : hp_T} {v : Int32} (h : φ = 453 ∨ φ = 454) : wf a α (hp_sI α φ a v) :=
  ⟨rfl, rfl, rfl, rfl, fun ψ b q => by rw [hI_sI, if_neg (fun (e : ψ = φ ∧ b = a) => q ⟨e.2, by rw [e.1]; exact h⟩)], fun _ _ _ _ => rfl⟩
theorem wf_sE {a κ b j : Nat} {α : hp_T} {v : Int32} (h : (κ = 21 ∧ b = hp_R α 450 a) ∨ (κ = 22 ∧ b = hp_R α 451 a) ∨ (κ = 23 ∧ b = hp_R α 452 a)) : wf a α (hp_sE α κ b j v) :=
  ⟨rfl, rfl, rfl, rfl, fun _ _ _ => rfl, fun κ' b' j' q => by rw [hE_sE, if_neg (fun e => q (by rw [e.1, e.2.1]; exact h))]⟩
theorem k_put8 (n : Nat) (α : hp_T) (a : Nat) (l : List (Nat × Nat × Bool)) (h : WC α a l) (hl : l.length < 64) (q : Nat × Nat × Bool) (f m b : Int32) (hf : f.toInt = (q.1 : Int)) (hm : m.toInt = (q.2.1 : Int)) (hb : b = if q.2.2 then 1 else 0) : ws (f_X8_put n α a f m b) (fun β => WC β a (l ++ [q]) ∧ wf a α β) := by
  have L64 := t_64
  unfold f_X8_put
  obtain ⟨h1, h2⟩ := h
  have hc : (hp_I α 453 a).toNatClampNeg = l.length := cl_n h1
  refine ws_l (ws_lt (fun e => by rw [lt0] at e; omega) (fun _ => ws_l (ws_le (fun e => by omega) (fun _ => ws_l (ws_l (ws_g (by omega) (by omega) (ws_l (ws_l (ws_l (ws_g (by show 0 ≤ (hp_I α 453 a).toInt; omega) (by show (hp_I α 453 a).toInt < _; omega) (ws_l (ws_l (ws_l (ws_g (by show 0 ≤ (hp_I α 453 a).toInt; omega) (by show (hp_I α 453 a).toInt < _; omega) (ws_l (ws_l ?_))))))))))))))))
  have e5 : (hp_I α 453 a + 1).toInt = (l.length : Int) + 1 := by rw [ii_add (by rw [lt1]; omega) (by rw [lt1]; omega), h1, lt1]
  refine ws_g (by show 0 ≤ (hp_I α 453 a + 1).toInt; omega) (by show (hp_I α 453 a + 1).toInt < _; omega) (ws_l (ws_s ⟨⟨?_, fun k r hk => ?_⟩, ?_⟩))
  · rw [hI_sI, if_pos ⟨rfl, rfl⟩]
    show (hp_I α 453 a + 1).toInt = _
    rw [e5, List.length_append]; rfl
  · simp only [hI_sE, hc, hE_sI, hR_sI, hR_sE, hE_sE]
    have hb1 : b &&& 1 = b := by subst hb; split <;> rfl
    rw [hb1]
    rcases ap_get hk with ⟨g1, g2⟩ | ⟨g1, g2⟩
    · have hne : ¬ k = l.length := by omega
      simpa [hne] using h2 k r g2
    · subst g1; subst g2
      simpa using ⟨hf, hm, hb⟩
  · exact wf_tr (wf_tr (wf_tr (wf_sE (Or.inl ⟨rfl, rfl⟩)) (wf_sE (Or.inr (Or.inl ⟨rfl, rfl⟩)))) (wf_sE (Or.inr (Or.inr ⟨rfl, rfl⟩)))) (wf_sI (Or.inl rfl))
def sw (L v k : Nat) : Nat := if k < v ∨ L - v ≤ k then L - 1 - k else k
theorem sw_step {A : Type} (g : Nat → A) {L v k : Nat} (h : 2 * v + 1 < L) (hk : k < L) : (if k = L - 1 - v then g (sw L v v) else if k = v then g (sw L v (L - 1 - v)) else g (sw L v k)) = g (sw L (v + 1) k) := by
  unfold sw
  split
  · rw [if_neg (by omega), if_pos (by omega)]; congr 1; omega
  · split
    · rw [if_neg (by omega), if_pos (by omega)]; congr 1; omega
    · by_cases hq : k < v ∨ L - v ≤ k
      · rw [if_pos hq, if_pos (by omega)]
      · rw [if_neg hq, if_neg (by omega)]
theorem k_turn_L (n : Nat) (a : Nat) (α : hp_T) (l : List (Nat × Nat × Bool)) (h : WC α a l) (hl : l.length ≤ 64) : ∀ (k : Nat) (β : hp_T) (v : Nat) (vI : Int32), vI.toInt = (v : Int) → v ≤ 32 → 33 - v ≤ k → wf a α β → (hp_I β 453 a).toInt = (l.length : Int) → (∀ j, j < l.length → hp_E β 21 (hp_R α 450 a) j = hp_E α 21 (hp_R α 450 a) (sw l.length v j) ∧ hp_E β 22 (hp_R α 451 a) j = hp_E α 22 (hp_R α 451 a) (sw l.length v j) ∧ hp_E β 23 (hp_R α 452 a) j = hp_E α 23 (hp_R α 452 a) (sw l.length v j)) → ws (f_X8_turnRound_L2 n a k β vI) (fun β => WC β a l.reverse ∧ wf a α β) := by
  intro k
  induction k with
  | zero => intro β v vI h1 h2 h3; omega
  | succ k ih =>
    intro β v vI h1 h2 h3 hw hc he
    rw [f_X8_turnRound_L2.eq_2]
    have L2 := t_2
    have L64 := t_64
    have hR : hp_R β = hp_R α := hw.1
    have h01 : ∀ j, j < l.length → (hp_E α 23 (hp_R α 452 a) j) &&& 1 = hp_E α 23 (hp_R α 452 a) j := by
      intro j hj
      rw [(h.2 j l[j] (List.getElem?_eq_getElem hj)).2.2]
      split <;> rfl
    refine ws_l (ws_le (fun hd => ?_) (fun hd => ?_))
    · rw [ii_div (by omega) (by decide), hc, L2] at hd
      refine ws_s ⟨⟨by rw [hc, List.length_reverse], fun j q hj => ?_⟩, hw⟩
      have hj2 : j < l.length := by
        have := (List.getElem?_eq_some_iff.mp hj).1
        rwa [List.length_reverse] at this
      rw [List.getElem?_reverse hj2] at hj
      have := h.2 _ q hj
      rw [hR, (he j hj2).1, (he j hj2).2.1, (he j hj2).2.2]
      have es : sw l.length v j = l.length - 1 - j := by unfold sw; split <;> omega
      rw [es]
      exact this
    · rw [ii_div (by omega) (by decide), hc, L2] at hd
      have hvl : 2 * v + 1 < l.length := by omega
      have e1 : (hp_I β 453 a - 1).toInt = (l.length : Int) - 1 := by rw [ii_sub (by rw [lt1]; omega) (by rw [lt1]; omega), hc, lt1]
      have e2 : ((hp_I β 453 a - 1) - vI).toInt = ((l.length - 1 - v : Nat) : Int) := by rw [ii_sub (by omega) (by omega), e1]; omega
      obtain ⟨eI, hE⟩ : ∃ eI, eI = (hp_I β 453 a - 1) - vI := ⟨_, rfl⟩
      rw [← hE] at e2
      refine ws_l (ws_l ?_)
      rw [← hE]
      have g1 : 0 ≤ eI.toInt := by omega
      have g2 : eI.toInt < ((64 : Nat) : Int) := by omega
      have g3 : 0 ≤ vI.toInt := by omega
      have g4 : vI.toInt < ((64 : Nat) : Int) := by omega
      have cE : eI.toNatClampNeg = l.length - 1 - v := cl_n e2
      have cV : vI.toNatClampNeg = v := cl_n h1
      refine ws_lt (fun e => by rw [lt0] at e; omega) (fun _ => ws_le (fun e => by omega) (fun _ => ws_lt (fun _ => ?_) (fun e => by omega)))
      refine ws_l (ws_g g3 g4 (ws_l (ws_l (ws_l (ws_g g1 g2 (ws_g g3 g4 (ws_l (ws_l (ws_g g1 g2 (ws_l ?_))))))))))
      refine ws_l (ws_g g3 g4 (ws_l (ws_l (ws_l (ws_g g1 g2 (ws_g g3 g4 (ws_l (ws_l (ws_g g1 g2 (ws_l ?_))))))))))
      refine ws_l (ws_g g3 g4 (ws_l (ws_l (ws_l (ws_g g1 g2 (ws_g g3 g4 (ws_l (ws_l (ws_g g1 g2 (ws_l (ws_l ?_)))))))))))
      refine ih _ (v + 1) _ ?_ (by omega) (by omega) ?_ ?_ ?_
      · rw [ii_add (by rw [lt1]; omega) (by rw [lt1]; omega), h1, lt1]; omega
      · refine wf_tr hw ?_
        exact wf_tr (wf_tr (wf_tr (wf_tr (wf_tr (wf_sE (Or.inl ⟨rfl, rfl⟩)) (wf_sE (Or.inl ⟨rfl, rfl⟩))) (wf_sE (Or.inr (Or.inl ⟨rfl, rfl⟩)))) (wf_sE (Or.inr (Or.inl ⟨rfl, rfl⟩)))) (wf_sE (Or.inr (Or.inr ⟨rfl, rfl⟩)))) (wf_sE (Or.inr (Or.inr ⟨rfl, rfl⟩)))
      · exact hc
      · intro j hj
        have n1 : ¬ v = l.length - 1 - v := by omega
        have n2 : ¬ l.length - 1 - v = v := by omega
        simp only [hR_sE, hE_sE, hR, cE, cV, n1, n2, Nat.reduceEqDiff, false_and, true_and, and_true, and_false, if_false, if_true, reduceIte]
        have hv1 := he v (by omega)
        have hv2 := he (l.length - 1 - v) (by omega)
        have hj1 := he j hj
        rw [hv1.1, hv1.2.1, hv1.2.2, hv2.1, hv2.2.1, hv2.2.2, hj1.1, hj1.2.1, hj1.2.2]
        have hs1 : sw l.length v v < l.length := by unfold sw; split <;> omega
        have hs2 : sw l.length v (l.length - 1 - v) < l.length := by unfold sw; split <;> omega
        rw [h01 _ hs1, h01 _ hs2]
        exact ⟨sw_step (fun k => hp_E α 21 (hp_R α 450 a) k) hvl hj, sw_step (fun k => hp_E α 22 (hp_R α 451 a) k) hvl hj, sw_step (fun k => hp_E α 23 (hp_R α 452 a) k) hvl hj⟩
theorem k_turn (n : Nat) (hn : 70000 ≤ n) (a : Nat) (α : hp_T) (l : List (Nat × Nat × Bool)) (h : WC α a l) (hl : l.length ≤ 64) : ws (f_X8_turnRound n α a) (fun β => WC β a l.reverse ∧ wf a α β) := by
  unfold f_X8_turnRound
  refine k_turn_L n a α l h hl n α 0 0 rfl (by omega) (by omega) wf_rf h.1 (fun j hj => ?_)
  have : sw l.length 0 j = j := by unfold sw; rw [if_neg (by omega)]
  rw [this]
  exact ⟨rfl, rfl, rfl⟩
theorem k_toThing_L (n : Nat) (hn : 70000 ≤ n) (a : Nat) (α0 : hp_T) : ∀ (k e : Nat) (α : hp_T) (l : List (Nat × Nat × Bool)) (f i m : Nat) (iI fI mI dI : Int32), wf a α0 α → WC α a l → l.length + e ≤ 64 → 0 ≤ dI.toInt → dI.toInt + e ≤ 40 → e + 1 ≤ k → fI.toInt = (f : Int) → iI.toInt = (f : Int) + i → mI.toInt = (m : Int) → i < m → m ≤ 2 ^ e → f + m ≤ 2147483647 → ws (f_X8_toThing_L12 n a k α iI fI mI dI) (fun β => WC β a (l ++ wyT e i f m).reverse ∧ wf a α0 β) := by
  intro k
  induction k with
  | zero => intro e α l f i m iI fI mI dI hw hW hl hd0 hd hk hf hi hm him hme hfm; omega
  | succ k ih =>
    intro e α l f i m iI fI mI dI hw hW hl hd0 hd hk hf hi hm him hme hfm
    rw [f_X8_toThing_L12.eq_2]
    have L40 : (40 : Int32).toInt = 40 := by decide
    have hJ : m ≤ 1 → ws (f_X8_toThing_J87 n a α) (fun β => WC β a (l ++ wyT e i f m).reverse ∧ wf a α0 β) := by
      intro h1
      have e1 : wyT e i f m = [] := by cases e <;> simp [wyT, h1]
      rw [e1, List.append_nil]
      unfold f_X8_toThing_J87
      exact ws_b (k_turn n hn a α l hW (by omega)) (fun β hβ => ws_s ⟨hβ.1, wf_tr hw hβ.2⟩)
    cases e with
    | zero =>
      have hm1 : m ≤ 1 := by simpa using hme
      exact ws_le (fun _ => hJ hm1) (fun _ => ws_le (fun _ => hJ hm1) (fun h => by rw [lt1] at h; omega))
    | succ e =>
    refine ws_le (fun h => by omega) (fun _ => ws_le (fun h => hJ (by rw [lt1] at h; omega)) (fun h => ?_))
    rw [lt1, hm] at h
    have hm2 : 2 ≤ m := by omega
    have hp1 := p0_lt hm2
    have hp2 := p0_le (m := m)
    have hp3 := p0_pos m
    have hp4 := p0_dn hm2 hme
    have e1 : wyT (e + 1) i f m = if i < p0 m then (f + p0 m, m - p0 m, false) :: wyT e i f (p0 m) else (f, p0 m, true) :: wyT e (i - p0 m) (f + p0 m) (m - p0 m) := by rw [wyT, if_neg (by omega)]
    rw [e1]
    have hdI : (dI + 1).toInt = dI.toInt + 1 := by rw [ii_add (by rw [lt1]; omega) (by rw [lt1]; omega), lt1]
    have hif : (iI - fI).toInt = (i : Int) := by rw [ii_sub (by omega) (by omega)]; omega
    refine ws_b (k_first n mI (by omega)) (fun r hr => ?_)
    rw [hm, Int.toNat_natCast] at hr
    refine ws_le (fun h2 => ?_) (fun h2 => ?_)
    · rw [if_neg (by omega)]
      refine ws_b (k_put8 n α a l hW (by omega) (f, p0 m, true) fI r 1 hf hr rfl) (fun β hβ => ws_l (ws_l ?_))
      unfold f_X8_toThing_J81
      have := ih e β (l ++ [(f, p0 m, true)]) (f + p0 m) (i - p0 m) (m - p0 m) iI (fI + r) (mI - r) (dI + 1) (wf_tr hw hβ.2) hβ.1 (by rw [List.length_append]; simp; omega) (by omega) (by omega) (by omega) (by rw [ii_add (by omega) (by omega)]; omega) (by omega) (by rw [ii_sub (by omega) (by omega)]; omega) (by omega) (by omega) (by omega)
      rw [List.append_assoc, List.singleton_append] at this
      exact ws_l this
    · rw [if_pos (by omega)]
      refine ws_b (k_put8 n α a l hW (by omega) (f + p0 m, m - p0 m, false) (fI + r) (mI - r) 0 (by show _ = ((f + p0 m : Nat) : Int); rw [ii_add (by omega) (by omega)]; omega) (by show _ = ((m - p0 m : Nat) : Int); rw [ii_sub (by omega) (by omega)]; omega) rfl) (fun β hβ => ?_)
      unfold f_X8_toThing_J81
      have := ih e β (l ++ [(f + p0 m, m - p0 m, false)]) f i (p0 m) iI fI r (dI + 1) (wf_tr hw hβ.2) hβ.1 (by rw [List.length_append]; simp; omega) (by omega) (by omega) (by omega) hf hi hr (by omega) hp4 (by omega)
      rw [List.append_assoc, List.singleton_append] at this
      exact ws_l this
theorem k_clear (n : Nat) (α : hp_T) (a : Nat) : ws (f_X8_clear n α a) (fun β => WC β a [] ∧ wf a α β) := by
  unfold f_X8_clear
  refine ws_l (ws_l (ws_s ⟨⟨?_, fun k q h => by simp at h⟩, wf_tr (wf_sI (Or.inl rfl)) (wf_sI (Or.inr rfl))⟩))
  rw [hI_sI, if_neg (fun h => absurd h.1 (by decide)), hI_sI, if_pos ⟨rfl, rfl⟩]
  rfl
theorem k_toThing (n : Nat) (hn : 70000 ≤ n) (α : hp_T) (a : Nat) (i m : Int32) (h0 : 0 ≤ i.toInt) (h1 : i.toInt < m.toInt) : ws (f_X8_toThing n α a i m) (fun β => WC β a (wyT 31 i.toInt.toNat 0 m.toInt.toNat).reverse ∧ wf a α β) := by
  have hm := ib_hi m
  unfold f_X8_toThing
  refine ws_b (k_clear n α a) (fun β hβ => ?_)
  have := k_toThing_L n hn a α n 31 β [] 0 i.toInt.toNat m.toInt.toNat i 0 m 0 hβ.2 hβ.1 (by decide) (by decide) (by decide) (by omega) rfl (by omega) (by omega) (by omega) (by omega) (by omega)
  rw [List.nil_append] at this
  exact this
theorem k_toGrowth_J (n : Nat) (hn : 70000 ≤ n) (a : Nat) (α0 α : hp_T) (l : List (Nat × Nat × Bool)) (hw : wf a α0 α) (hW : WC α a l) (hl : l.length < 64) (f m : Nat) (fI mI wI : Int32) (w : Bool) (hf : fI.toInt = (f : Int)) (hm : mI.toInt = (m : Int)) (hwI : wI = if w then 1 else 0) : ws (f_X8_toGrowth_J100 n a α fI mI wI) (fun β => WC β a (l ++ (if w then [] else [(f, m, false)])).reverse ∧ wf a α0 β) := by
  unfold f_X8_toGrowth_J100 f_X8_toGrowth_J118
  cases w with
  | true =>
    subst hwI
    refine ws_i (fun h => absurd h (by decide)) (fun _ => ?_)
    exact ws_b (k_turn n hn a α l hW (by omega)) (fun β hβ => ws_s ⟨by simpa using hβ.1, wf_tr hw hβ.2⟩)
  | false =>
    subst hwI
    refine ws_i (fun _ => ?_) (fun h => absurd rfl h)
    refine ws_b (k_put8 n α a l hW hl (f, m, false) fI mI 0 hf hm rfl) (fun β hβ => ws_l ?_)
    have hW2 : WC (hp_sI β 454 a 1) a (l ++ [(f, m, false)]) := ⟨by rw [hI_sI, if_neg (fun h => absurd h.1 (by decide))]; exact hβ.1.1, hβ.1.2⟩
    exact ws_b (k_turn n hn a _ _ hW2 (by rw [List.length_append]; simp; omega)) (fun γ hγ => ws_s ⟨by simpa using hγ.1, wf_tr hw (wf_tr hβ.2 (wf_tr (wf_sI (Or.inr rfl)) hγ.2))⟩)
theorem k_toGrowth_L (n : Nat) (hn : 70000 ≤ n) (a : Nat) (α0 : hp_T) : ∀ (k e : Nat) (α : hp_T) (l : List (Nat × Nat × Bool)) (f i m : Nat) (iI fI mI wI dI : Int32) (w : Bool), wf a α0 α → WC α a l → l.length + e < 64 → 0 ≤ dI.toInt → dI.toInt + e < 40 → e + 1 ≤ k → fI.toInt = (f : Int) → iI.toInt = (f : Int) + i → mI.toInt = (m : Int) → 1 ≤ i → i ≤ m → m ≤ 2 ^ e → f + m ≤ 2147483647 → wI = (if w then 1 else 0) → ws (f_X8_toGrowth_L20 n a k α iI fI mI wI dI) (fun β => WC β a (l ++ wyG (e + 1) i f m w).reverse ∧ wf a α0 β) := by
  intro k
  induction k with
  | zero => intro e α l f i m iI fI mI wI dI w hw hW hl hd0 hd hk hf hi hm hi1 him hme hfm hwI; omega
  | succ k ih =>
    intro e α l f i m iI fI mI wI dI w hw hW hl hd0 hd hk hf hi hm hi1 him hme hfm hwI
    rw [f_X8_toGrowth_L20.eq_2]
    have L40 : (40 : Int32).toInt = 40 := by decide
    have hif : (iI - fI).toInt = (i : Int) := by rw [ii_sub (by omega) (by omega)]; omega
    refine ws_le (fun h => by omega) (fun _ => ws_e (fun h => ?_) (fun h => ?_))
    · have hq : i = m := by rw [h, hm] at hif; omega
      have e0 : wyG (e + 1) i f m w = (if w then [] else [(f, m, false)]) := by rw [wyG, if_pos hq]
      rw [e0]
      exact k_toGrowth_J n hn a α0 α l hw hW (by omega) f m fI mI wI w hf hm hwI
    · rw [hif, hm] at h
      have hm2 : 2 ≤ m := by omega
      cases e with
      | zero => simp at hme; omega
      | succ e =>
      have hp1 := p0_lt hm2
      have hp2 := p0_le (m := m)
      have hp3 := p0_pos m
      have hp4 := p0_dn hm2 hme
      have e1 : wyG (e + 1 + 1) i f m w = if i ≤ p0 m then (f + p0 m, m - p0 m, false) :: wyG (e + 1) i f (p0 m) w else (f, p0 m, true) :: wyG (e + 1) (i - p0 m) (f + p0 m) (m - p0 m) false := by rw [wyG, if_neg (by omega)]
      rw [e1]
      have hdI : (dI + 1).toInt = dI.toInt + 1 := by rw [ii_add (by rw [lt1]; omega) (by rw [lt1]; omega), lt1]
      refine ws_b (k_first n mI (by omega)) (fun r hr => ?_)
      rw [hm, Int.toNat_natCast] at hr
      refine ws_lt (fun h2 => ?_) (fun h2 => ?_)
      · rw [if_neg (by omega)]
        refine ws_b (k_put8 n α a l hW (by omega) (f, p0 m, true) fI r 1 hf hr rfl) (fun β hβ => ws_l (ws_l ?_))
        unfold f_X8_toGrowth_J94
        have := ih e β (l ++ [(f, p0 m, true)]) (f + p0 m) (i - p0 m) (m - p0 m) iI (fI + r) (mI - r) 0 (dI + 1) false (wf_tr hw hβ.2) hβ.1 (by rw [List.length_append]; simp; omega) (by omega) (by omega) (by omega) (by rw [ii_add (by omega) (by omega)]; omega) (by omega) (by rw [ii_sub (by omega) (by omega)]; omega) (by omega) (by omega) (by omega) (by omega) rfl
        rw [List.append_assoc, List.singleton_append] at this
        exact ws_l this
      · rw [if_pos (by omega)]
        refine ws_b (k_put8 n α a l hW (by omega) (f + p0 m, m - p0 m, false) (fI + r) (mI - r) 0 (by show _ = ((f + p0 m : Nat) : Int); rw [ii_add (by omega) (by omega)]; omega) (by show _ = ((m - p0 m : Nat) : Int); rw [ii_sub (by omega) (by omega)]; omega) rfl) (fun β hβ => ?_)
        unfold f_X8_toGrowth_J94
        have := ih e β (l ++ [(f + p0 m, m - p0 m, false)]) f i (p0 m) iI fI r wI (dI + 1) w (wf_tr hw hβ.2) hβ.1 (by rw [List.length_append]; simp; omega) (by omega) (by omega) (by omega) hf hi hr hi1 (by omega) hp4 (by omega) hwI
        rw [List.append_assoc, List.singleton_append] at this
        exact ws_l this
theorem k_toGrowth (n : Nat) (hn : 70000 ≤ n) (α : hp_T) (a : Nat) (i m : Int32) (h0 : 0 ≤ i.toInt) (h1 : i.toInt ≤ m.toInt) : ws (f_X8_toGrowth n α a i m) (fun β => WC β a (wyH i.toInt.toNat m.toInt.toNat).reverse ∧ wf a α β) := by
  have hm := ib_hi m
  unfold f_X8_toGrowth wyH
  refine ws_b (k_clear n α a) (fun β hβ => ws_e (fun h => ?_) (fun h => ?_))
  · rw [if_pos (by rw [h]; rfl)]
    exact ws_s hβ
  · rw [lt0] at h
    rw [if_neg (by omega)]
    have := k_toGrowth_L n hn a α n 31 β [] 0 i.toInt.toNat m.toInt.toNat i 0 m 1 0 true hβ.2 hβ.1 (by decide) (by decide) (by decide) (by omega) rfl (by omega) (by omega) (by omega) (by omega) (by omega) (by omega) rfl
    rw [List.nil_append] at this
    exact this
