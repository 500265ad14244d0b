section JN9_0
/-! ===== the class's ways ===== -/
def WC (α : hp_T) (a : Nat) (l : List (Nat × Nat × Bool)) : Prop := (hp_I α 453 a).toInt = (l.length : Int) ∧ ∀ (k : Nat) (q : Nat × Nat × Bool), l[k]? = some q → (hp_E α 21 (hp_R α 450 a) k).toInt = (q.1 : Int) ∧ (hp_E α 22 (hp_R α 451 a) k).toInt = (q.2.1 : Int) ∧ hp_E α 23 (hp_R α 452 a) k = if q.2.2 then 1 else 0
/-- what a way's own methods leave as it is -/
def wf (a : Nat) (α β : hp_T) : Prop := hp_R β = hp_R α ∧ hp_K β = hp_K α ∧ hp_Q β = hp_Q α ∧ hp_N β = hp_N α ∧ (∀ φ b, ¬ (b = a ∧ (φ = 453 ∨ φ = 454)) → hp_I β φ b = hp_I α φ b) ∧ ∀ κ b j, ¬ ((κ = 21 ∧ b = hp_R α 450 a) ∨ (κ = 22 ∧ b = hp_R α 451 a) ∨ (κ = 23 ∧ b = hp_R α 452 a)) → hp_E β κ b j = hp_E α κ b j
theorem wf_rf {a : Nat} {α : hp_T} : wf a α α := ⟨rfl, rfl, rfl, rfl, fun _ _ _ => rfl, fun _ _ _ _ => rfl⟩
theorem wf_tr {a : Nat} {α β γ : hp_T} (h : wf a α β) (g : wf a β γ) : wf a α γ := by
  obtain ⟨h1, h2, h3, h4, h5, h6⟩ := h
  obtain ⟨g1, g2, g3, g4, g5, g6⟩ := g
  rw [h1] at g6
  exact ⟨g1.trans h1, g2.trans h2, g3.trans h3, g4.trans h4, fun φ b q => (g5 φ b q).trans (h5 φ b q), fun κ b j q => (g6 κ b j q).trans (h6 κ b j q)⟩
theorem wf_sI {a φ : Nat} {α : hp_T} {v : Int32} (h : φ = 453 ∨ φ = 454) : wf a α (hp_sI α φ a v) :=
  ⟨rfl, rfl, rfl, rfl, fun ψ b q => by rw [hI_sI, if_neg (fun (e : ψ = φ ∧ b = a) => q ⟨e.2, by rw [e.1]; exact h⟩)], fun _ _ _ _ => rfl⟩
theorem wf_sE {a κ b j : Nat} {α : hp_T} {v : Int32} (h : (κ = 21 ∧ b = hp_R α 450 a) ∨ (κ = 22 ∧ b = hp_R α 451 a) ∨ (κ = 23 ∧ b = hp_R α 452 a)) : wf a α (hp_sE α κ b j v) :=
  ⟨rfl, rfl, rfl, rfl, fun _ _ _ => rfl, fun κ' b' j' q => by rw [hE_sE, if_neg (fun e => q (by rw [e.1, e.2.1]; exact h))]⟩
theorem k_put8 (n : Nat) (α : hp_T) (a : Nat) (l : List (Nat × Nat × Bool)) (h : WC α a l) (hl : l.length < 64) (q : Nat × Nat × Bool) (f m b : Int32) (hf : f.toInt = (q.1 : Int)) (hm : m.toInt = (q.2.1 : Int)) (hb : b = if q.2.2 then 1 else 0) : ws (f_X8_put n α a f m b) (fun β => WC β a (l ++ [q]) ∧ wf a α β) := by
  have L64 := t_64
  unfold f_X8_put
  obtain ⟨h1, h2⟩ := h
  have hc : (hp_I α 453 a).toNatClampNeg = l.length := cl_n h1
  refine ws_l (ws_lt (fun e => by rw [lt0] at e; omega) (fun _ => ws_l (ws_le (fun e => by omega) (fun _ => ws_l (ws_l (ws_g (by omega) (by omega) (ws_l (ws_l (ws_l (ws_g (by show 0 ≤ (hp_I α 453 a).toInt; omega) (by show (hp_I α 453 a).toInt < _; omega) (ws_l (ws_l (ws_l (ws_g (by show 0 ≤ (hp_I α 453 a).toInt; omega) (by show (hp_I α 453 a).toInt < _; omega) (ws_l (ws_l ?_))))))))))))))))
  have e5 : (hp_I α 453 a + 1).toInt = (l.length : Int) + 1 := by rw [ii_add (by rw [lt1]; omega) (by rw [lt1]; omega), h1, lt1]
  refine ws_g (by show 0 ≤ (hp_I α 453 a + 1).toInt; omega) (by show (hp_I α 453 a + 1).toInt < _; omega) (ws_l (ws_s ⟨⟨?_, fun k r hk => ?_⟩, ?_⟩))
  · rw [hI_sI, if_pos ⟨rfl, rfl⟩]
    show (hp_I α 453 a + 1).toInt = _
    rw [e5, List.length_append]; rfl
  · simp only [hI_sE, hc, hE_sI, hR_sI, hR_sE, hE_sE]
    have hb1 : b &&& 1 = b := by subst hb; split <;> rfl
    rw [hb1]
    rcases ap_get hk with ⟨g1, g2⟩ | ⟨g1, g2⟩
    · have hne : ¬ k = l.length := by omega
      simpa [hne] using h2 k r g2
    · subst g1; subst g2
      simpa using ⟨hf, hm, hb⟩
  · exact wf_tr (wf_tr (wf_tr (wf_sE (Or.inl ⟨rfl, rfl⟩)) (wf_sE (Or.inr (Or.inl ⟨rfl, rfl⟩)))) (wf_sE (Or.inr (Or.inr ⟨rfl, rfl⟩)))) (wf_sI (Or.inl rfl))
def sw (L v k : Nat) : Nat := if k < v ∨ L - v ≤ k then L - 1 - k else k
theorem sw_step {A : Type} (g : Nat → A) {L v k : Nat} (h : 2 * v + 1 < L) (hk : k < L) : (if k = L - 1 - v then g (sw L v v) else if k = v then g (sw L v (L - 1 - v)) else g (sw L v k)) = g (sw L (v + 1) k) := by
  unfold sw
  split
  · rw [if_neg (by omega), if_pos (by omega)]; congr 1; omega
  · split
    · rw [if_neg (by omega), if_pos (by omega)]; congr 1; omega
    · by_cases hq : k < v ∨ L - v ≤ k
      · rw [if_pos hq, if_pos (by omega)]
      · rw [if_neg hq, if_neg (by omega)]
theorem k_turn_L (n : Nat) (a : Nat) (α : hp_T) (l : List (Nat × Nat × Bool)) (h : WC α a l) (hl : l.length ≤ 64) : ∀ (k : Nat) (β : hp_T) (v : Nat) (vI : Int32), vI.toInt = (v : Int) → v ≤ 32 → 33 - v ≤ k → wf a α β → (hp_I β 453 a).toInt = (l.length : Int) → (∀ j, j < l.length → hp_E β 21 (hp_R α 450 a) j = hp_E α 21 (hp_R α 450 a) (sw l.length v j) ∧ hp_E β 22 (hp_R α 451 a) j = hp_E α 22 (hp_R α 451 a) (sw l.length v j) ∧ hp_E β 23 (hp_R α 452 a) j = hp_E α 23 (hp_R α 452 a) (sw l.length v j)) → ws (f_X8_turnRound_L2 n a k β vI) (fun β => WC β a l.reverse ∧ wf a α β) := by
  intro k
  induction k with
  | zero => intro β v vI h1 h2 h3; omega
  | succ k ih =>
    intro β v vI h1 h2 h3 hw hc he
    rw [f_X8_turnRound_L2.eq_2]
    have L2 := t_2
    have L64 := t_64
    have hR : hp_R β = hp_R α := hw.1
    have h01 : ∀ j, j < l.length → (hp_E α 23 (hp_R α 452 a) j) &&& 1 = hp_E α 23 (hp_R α 452 a) j := by
      intro j hj
      rw [(h.2 j l[j] (List.getElem?_eq_getElem hj)).2.2]
      split <;> rfl
    refine ws_l (ws_le (fun hd => ?_) (fun hd => ?_))
    · rw [ii_div (by omega) (by decide), hc, L2] at hd
      refine ws_s ⟨⟨by rw [hc, List.length_reverse], fun j q hj => ?_⟩, hw⟩
      have hj2 : j < l.length := by
        have := (List.getElem?_eq_some_iff.mp hj).1
        rwa [List.length_reverse] at this
      rw [List.getElem?_reverse hj2] at hj
      have := h.2 _ q hj
      rw [hR, (he j hj2).1, (he j hj2).2.1, (he j hj2).2.2]
      have es : sw l.length v j = l.length - 1 - j := by unfold sw; split <;> omega
      rw [es]
      exact this
    · rw [ii_div (by omega) (by decide), hc, L2] at hd
      have hvl : 2 * v + 1 < l.length := by omega
      have e1 : (hp_I β 453 a - 1).toInt = (l.length : Int) - 1 := by rw [ii_sub (by rw [lt1]; omega) (by rw [lt1]; omega), hc, lt1]
      have e2 : ((hp_I β 453 a - 1) - vI).toInt = ((l.length - 1 - v : Nat) : Int) := by rw [ii_sub (by omega) (by omega), e1]; omega
      obtain ⟨eI, hE⟩ : ∃ eI, eI = (hp_I β 453 a - 1) - vI := ⟨_, rfl⟩
      rw [← hE] at e2
      refine ws_l (ws_l ?_)
      rw [← hE]
      have g1 : 0 ≤ eI.toInt := by omega
      have g2 : eI.toInt < ((64 : Nat) : Int) := by omega
      have g3 : 0 ≤ vI.toInt := by omega
      have g4 : vI.toInt < ((64 : Nat) : Int) := by omega
      have cE : eI.toNatClampNeg = l.length - 1 - v := cl_n e2
      have cV : vI.toNatClampNeg = v := cl_n h1
      refine ws_lt (fun e => by rw [lt0] at e; omega) (fun _ => ws_le (fun e => by omega) (fun _ => ws_lt (fun _ => ?_) (fun e => by omega)))
      refine ws_l (ws_g g3 g4 (ws_l (ws_l (ws_l (ws_g g1 g2 (ws_g g3 g4 (ws_l (ws_l (ws_g g1 g2 (ws_l ?_))))))))))
      refine ws_l (ws_g g3 g4 (ws_l (ws_l (ws_l (ws_g g1 g2 (ws_g g3 g4 (ws_l (ws_l (ws_g g1 g2 (ws_l ?_))))))))))
      refine ws_l (ws_g g3 g4 (ws_l (ws_l (ws_l (ws_g g1 g2 (ws_g g3 g4 (ws_l (ws_l (ws_g g1 g2 (ws_l (ws_l ?_)))))))))))
      refine ih _ (v + 1) _ ?_ (by omega) (by omega) ?_ ?_ ?_
      · rw [ii_add (by rw [lt1]; omega) (by rw [lt1]; omega), h1, lt1]; omega
      · refine wf_tr hw ?_
        exact wf_tr (wf_tr (wf_tr (wf_tr (wf_tr (wf_sE (Or.inl ⟨rfl, rfl⟩)) (wf_sE (Or.inl ⟨rfl, rfl⟩))) (wf_sE (Or.inr (Or.inl ⟨rfl, rfl⟩)))) (wf_sE (Or.inr (Or.inl ⟨rfl, rfl⟩)))) (wf_sE (Or.inr (Or.inr ⟨rfl, rfl⟩)))) (wf_sE (Or.inr (Or.inr ⟨rfl, rfl⟩)))
      · exact hc
      · intro j hj
        have n1 : ¬ v = l.length - 1 - v := by omega
        have n2 : ¬ l.length - 1 - v = v := by omega
        simp only [hR_sE, hE_sE, hR, cE, cV, n1, n2, Nat.reduceEqDiff, false_and, true_and, and_true, and_false, if_false, if_true, reduceIte]
        have hv1 := he v (by omega)
        have hv2 := he (l.length - 1 - v) (by omega)
        have hj1 := he j hj
        rw [hv1.1, hv1.2.1, hv1.2.2, hv2.1, hv2.2.1, hv2.2.2, hj1.1, hj1.2.1, hj1.2.2]
        have hs1 : sw l.length v v < l.length := by unfold sw; split <;> omega
        have hs2 : sw l.length v (l.length - 1 - v) < l.length := by unfold sw; split <;> omega
        rw [h01 _ hs1, h01 _ hs2]
        exact ⟨sw_step (fun k => hp_E α 21 (hp_R α 450 a) k) hvl hj, sw_step (fun k => hp_E α 22 (hp_R α 451 a) k) hvl hj, sw_step (fun k => hp_E α 23 (hp_R α 452 a) k) hvl hj⟩
theorem k_turn (n : Nat) (hn : 70000 ≤ n) (a : Nat) (α : hp_T) (l : List (Nat × Nat × Bool)) (h : WC α a l) (hl : l.length ≤ 64) : ws (f_X8_turnRound n α a) (fun β => WC β a l.reverse ∧ wf a α β) := by
  unfold f_X8_turnRound
  refine k_turn_L n a α l h hl n α 0 0 rfl (by omega) (by omega) wf_rf h.1 (fun j hj => ?_)
  have : sw l.length 0 j = j := by unfold sw; rw [if_neg (by omega)]
  rw [this]
  exact ⟨rfl, rfl, rfl⟩
theorem k_toThing_L (n : Nat) (hn : 70000 ≤ n) (a : Nat) (α0 : hp_T) : ∀ (k e : Nat) (α : hp_T) (l : List (Nat × Nat × Bool)) (f i m : Nat) (iI fI mI dI : Int32), wf a α0 α → WC α a l → l.length + e ≤ 64 → 0 ≤ dI.toInt → dI.toInt + e ≤ 40 → e + 1 ≤ k → fI.toInt = (f : Int) → iI.toInt = (f : Int) + i → mI.toInt = (m : Int) → i < m → m ≤ 2 ^ e → f + m ≤ 2147483647 → ws (f_X8_toThing_L12 n a k α iI fI mI dI) (fun β => WC β a (l ++ wyT e i f m).reverse ∧ wf a α0 β) := by
  intro k
  induction k with
  | zero => intro e α l f i m iI fI mI dI hw hW hl hd0 hd hk hf hi hm him hme hfm; omega
  | succ k ih =>
    intro e α l f i m iI fI mI dI hw hW hl hd0 hd hk hf hi hm him hme hfm
    rw [f_X8_toThing_L12.eq_2]
    have L40 : (40 : Int32).toInt = 40 := by decide
    have hJ : m ≤ 1 → ws (f_X8_toThing_J87 n a α) (fun β => WC β a (l ++ wyT e i f m).reverse ∧ wf a α0 β) := by
      intro h1
      have e1 : wyT e i f m = [] := by cases e <;> simp [wyT, h1]
      rw [e1, List.append_nil]
      unfold f_X8_toThing_J87
      exact ws_b (k_turn n hn a α l hW (by omega)) (fun β hβ => ws_s ⟨hβ.1, wf_tr hw hβ.2⟩)
    cases e with
    | zero =>
      have hm1 : m ≤ 1 := by simpa using hme
      exact ws_le (fun _ => hJ hm1) (fun _ => ws_le (fun _ => hJ hm1) (fun h => by rw [lt1] at h; omega))
    | succ e =>
    refine ws_le (fun h => by omega) (fun _ => ws_le (fun h => hJ (by rw [lt1] at h; omega)) (fun h => ?_))
    rw [lt1, hm] at h
    have hm2 : 2 ≤ m := by omega
    have hp1 := p0_lt hm2
    have hp2 := p0_le (m := m)
    have hp3 := p0_pos m
    have hp4 := p0_dn hm2 hme
    have e1 : wyT (e + 1) i f m = if i < p0 m then (f + p0 m, m - p0 m, false) :: wyT e i f (p0 m) else (f, p0 m, true) :: wyT e (i - p0 m) (f + p0 m) (m - p0 m) := by rw [wyT, if_neg (by omega)]
    rw [e1]
    have hdI : (dI + 1).toInt = dI.toInt + 1 := by rw [ii_add (by rw [lt1]; omega) (by rw [lt1]; omega), lt1]
    have hif : (iI - fI).toInt = (i : Int) := by rw [ii_sub (by omega) (by omega)]; omega
    refine ws_b (k_first n mI (by omega)) (fun r hr => ?_)
    rw [hm, Int.toNat_natCast] at hr
    refine ws_le (fun h2 => ?_) (fun h2 => ?_)
    · rw [if_neg (by omega)]
      refine ws_b (k_put8 n α a l hW (by omega) (f, p0 m, true) fI r 1 hf hr rfl) (fun β hβ => ws_l (ws_l ?_))
      unfold f_X8_toThing_J81
      have := ih e β (l ++ [(f, p0 m, true)]) (f + p0 m) (i - p0 m) (m - p0 m) iI (fI + r) (mI - r) (dI + 1) (wf_tr hw hβ.2) hβ.1 (by rw [List.length_append]; simp; omega) (by omega) (by omega) (by omega) (by rw [ii_add (by omega) (by omega)]; omega) (by omega) (by rw [ii_sub (by omega) (by omega)]; omega) (by omega) (by omega) (by omega)
      rw [List.append_assoc, List.singleton_append] at this
      exact ws_l this
    · rw [if_pos (by omega)]
      refine ws_b (k_put8 n α a l hW (by omega) (f + p0 m, m - p0 m, false) (fI + r) (mI - r) 0 (by show _ = ((f + p0 m : Nat) : Int); rw [ii_add (by omega) (by omega)]; omega) (by show _ = ((m - p0 m : Nat) : Int); rw [ii_sub (by omega) (by omega)]; omega) rfl) (fun β hβ => ?_)
      unfold f_X8_toThing_J81
      have := ih e β (l ++ [(f + p0 m, m - p0 m, false)]) f i (p0 m) iI fI r (dI + 1) (wf_tr hw hβ.2) hβ.1 (by rw [List.length_append]; simp; omega) (by omega) (by omega) (by omega) hf hi hr (by omega) hp4 (by omega)
      rw [List.append_assoc, List.singleton_append] at this
      exact ws_l this
theorem k_clear (n : Nat) (α : hp_T) (a : Nat) : ws (f_X8_clear n α a) (fun β => WC β a [] ∧ wf a α β) := by
  unfold f_X8_clear
  refine ws_l (ws_l (ws_s ⟨⟨?_, fun k q h => by simp at h⟩, wf_tr (wf_sI (Or.inl rfl)) (wf_sI (Or.inr rfl))⟩))
  rw [hI_sI, if_neg (fun h => absurd h.1 (by decide)), hI_sI, if_pos ⟨rfl, rfl⟩]
  rfl
theorem k_toThing (n : Nat) (hn : 70000 ≤ n) (α : hp_T) (a : Nat) (i m : Int32) (h0 : 0 ≤ i.toInt) (h1 : i.toInt < m.toInt) : ws (f_X8_toThing n α a i m) (fun β => WC β a (wyT 31 i.toInt.toNat 0 m.toInt.toNat).reverse ∧ wf a α β) := by
  have hm := ib_hi m
  unfold f_X8_toThing
  refine ws_b (k_clear n α a) (fun β hβ => ?_)
  have := k_toThing_L n hn a α n 31 β [] 0 i.toInt.toNat m.toInt.toNat i 0 m 0 hβ.2 hβ.1 (by decide) (by decide) (by decide) (by omega) rfl (by omega) (by omega) (by omega) (by omega) (by omega)
  rw [List.nil_append] at this
  exact this
end JN9_0
section JN9_1
theorem k_answer (n : Nat) (α : hp_T) (a : Nat) (v : Int32) : ws (f_X11_answer n α a v) (fun res => res.1 = v ∧ res.2 = hp_sI α 600 a 0) := by
  unfold f_X11_answer
  exact ws_l (ws_s ⟨rfl, rfl⟩)
theorem k_refuse (n : Nat) (α : hp_T) (a : Nat) (v : Int32) : ws (f_X11_refuse n α a v) (fun res => res.1 = -1 ∧ res.2 = hp_sI α 600 a v) := by
  unfold f_X11_refuse
  exact ws_l (ws_s ⟨rfl, rfl⟩)
section BO
variable {R : Type} {P : Prop} {Q : R → Prop} {a b : Option R}
end BO
theorem WC_n {α : hp_T} {a : Nat} {l : List (Nat × Nat × Bool)} (h : WC α a l.reverse) : hp_I α 453 a = Int32.ofNat l.length := i_ofN (by rw [h.1, List.length_reverse])
theorem WS_n {σ : ms_T} {l : List (Nat × Nat × Bool)} (h : WS σ l.reverse) : ms_I σ 657 = Int32.ofNat l.length := i_ofN (by rw [h.1, List.length_reverse])
end JN9_1
section JN9_2
set_option maxRecDepth 100000
/-! ===== is, with one answer or another ===== -/
theorem v_is2 (n : Nat) (σ : ms_T) (v : Int32) : pr (f_X12_is n σ v) (fun res => bo res.1 (v = 0) ∧ res.2 = ms_sI (ms_sI σ 653 0) 652 v) := by
  unfold f_X12_is
  exact pr_l (pr_l (pr_i (fun e => pr_s ⟨Or.inl ⟨rfl, e⟩, rfl⟩) (fun e => pr_s ⟨Or.inr ⟨rfl, e⟩, rfl⟩)))
theorem v_is0 {R : Type} {P : R → Prop} (n : Nat) (σ : ms_T) {k : ms_T → Option R} {l : ms_T → Option R} (h : pr (l (ms_sI (ms_sI σ 653 0) 652 0)) P) : pr (ms_c (f_X12_is n σ 0) fun r τ => if r = 0 then k τ else l τ) P := by
  refine pr_c (v_is2 n σ 0) (fun v τ hv => pr_i (fun e => ?_) (fun _ => ?_))
  · rcases hv.1 with ⟨h, _⟩ | ⟨_, h⟩
    · exact absurd (h.symm.trans e) (by decide)
    · exact absurd rfl h
  · have e9 : τ = ms_sI (ms_sI σ 653 0) 652 0 := hv.2
    rw [e9]; exact h
theorem v_is1 {R : Type} {P : R → Prop} (n : Nat) (σ : ms_T) (v : Int32) (hv0 : ¬ v = 0) {k : ms_T → Option R} {l : ms_T → Option R} (h : pr (k (ms_sI (ms_sI σ 653 0) 652 v)) P) : pr (ms_c (f_X12_is n σ v) fun r τ => if r = 0 then k τ else l τ) P := by
  refine pr_c (v_is2 n σ v) (fun y τ hv => pr_i (fun _ => ?_) (fun e => ?_))
  · have e9 : τ = ms_sI (ms_sI σ 653 0) 652 v := hv.2
    rw [e9]; exact h
  · rcases hv.1 with ⟨_, h⟩ | ⟨h, _⟩
    · exact absurd h hv0
    · exact absurd h e
/-! ===== BUNDLES: a set is a number ===== -/
theorem shk : ∀ k, k < 31 → (((Int32.ofNat k) &&& 31).toBitVec.smod 32).toNat = k := by decide +kernel
theorem uhk : ∀ k, k < 31 → (UInt32.mod (Int32.toUInt32 (Int32.ofNat k) &&& Int32.toUInt32 31) 32).toBitVec.toNat = k := by decide +kernel
theorem msk : ∀ m, m < 31 → (((1 : Int32) <<< ((Int32.ofNat m) &&& 31)) - 1).toBitVec.toNat = 2 ^ m - 1 := by decide +kernel
theorem onk : ∀ m, m < 31 → ((1 : Int32) <<< ((Int32.ofNat m) &&& 31)).toInt = ((2 ^ m : Nat) : Int) := by decide +kernel
theorem S_nat {s : Int32} (hs : 0 ≤ s.toInt) : s.toBitVec.msb = false ∧ s.toBitVec.toNat = s.toInt.toNat := by
  have h3 : s.toBitVec.toInt = s.toInt := rfl
  have h1 : s.toBitVec.msb = false := by
    rw [BitVec.msb_eq_toInt, h3, decide_eq_false_iff_not]
    omega
  have h2 := BitVec.toInt_eq_toNat_of_msb h1
  exact ⟨h1, by omega⟩
theorem bt_ref {s v : Int32} {k : Nat} (hs : 0 ≤ s.toInt) (hv : v.toInt = (k : Int)) (hk : k < 31) : (((s >>> (v &&& 31)) &&& (1 : Int32)) = 1) ↔ s.toInt.toNat.testBit k = true := by
  obtain ⟨h1, h2⟩ := S_nat hs
  have ev := i_ofN hv
  subst ev
  have hX : (s >>> ((Int32.ofNat k) &&& 31)).toBitVec.toNat = s.toInt.toNat / 2 ^ k := by
    show (s.toBitVec.sshiftRight (((Int32.ofNat k) &&& 31).toBitVec.smod 32).toNat).toNat = _
    rw [shk k hk, BitVec.sshiftRight_eq_of_msb_false h1, BitVec.toNat_ushiftRight, h2, Nat.shiftRight_eq_div_pow]
  rw [← Int32.toBitVec_inj, ← BitVec.toNat_inj]
  show ((s >>> ((Int32.ofNat k) &&& 31)).toBitVec &&& (1 : Int32).toBitVec).toNat = 1 ↔ _
  rw [BitVec.toNat_and, hX, show ((1 : Int32).toBitVec).toNat = 1 from rfl, Nat.and_one_is_mod, Nat.testBit_eq_decide_div_mod_eq, decide_eq_true_iff]
/-- whether a set has one of m things from f on -/
def hasB (S f m : Nat) : Bool := decide (S / 2 ^ f % 2 ^ m ≠ 0)
theorem hasB_iff (S f m : Nat) : hasB S f m = true ↔ ∃ j, f ≤ j ∧ j < f + m ∧ S.testBit j = true := by
  unfold hasB
  rw [decide_eq_true_iff]
  constructor
  · intro h
    obtain ⟨i, hi⟩ := Nat.exists_testBit_of_ne_zero h
    rw [Nat.testBit_mod_two_pow, Bool.and_eq_true, decide_eq_true_iff, ← Nat.shiftRight_eq_div_pow, Nat.testBit_shiftRight] at hi
    exact ⟨f + i, by omega, by omega, hi.2⟩
  · intro ⟨j, h1, h2, h3⟩ h
    have : (S / 2 ^ f % 2 ^ m).testBit (j - f) = true := by
      rw [Nat.testBit_mod_two_pow, Bool.and_eq_true, decide_eq_true_iff, ← Nat.shiftRight_eq_div_pow, Nat.testBit_shiftRight]
      exact ⟨by omega, by rw [show f + (j - f) = j by omega]; exact h3⟩
    rw [h, Nat.zero_testBit] at this
    cases this
theorem bit30 {S j : Nat} (hS : S < 2 ^ 30) (h : S.testBit j = true) : j < 30 := by
  refine Nat.lt_of_not_le (fun h30 => ?_)
  have := Nat.testBit_lt_two_pow (Nat.lt_of_lt_of_le hS (Nat.pow_le_pow_right (by decide) h30))
  rw [h] at this
  cases this
theorem v_hasAny_L (n : Nat) {s : Int32} (hs : 0 ≤ s.toInt) {f m : Nat} {fI mI : Int32} (hf : fI.toInt = (f : Int)) (hm : mI.toInt = (m : Int)) : ∀ (d v : Nat) (vI : Int32), vI.toInt = (v : Int) → v ≤ 30 → (∀ j, j < v → ¬ (s.toInt.toNat.testBit j = true ∧ f ≤ j ∧ j < f + m)) → pr (f_X12_hasAny_L2 n d s fI mI vI) (fun r => (r = 1 ∧ ∃ j, f ≤ j ∧ j < f + m ∧ s.toInt.toNat.testBit j = true) ∨ (r = 0 ∧ ∀ j, j < 30 → ¬ (s.toInt.toNat.testBit j = true ∧ f ≤ j ∧ j < f + m))) := by
  intro d
  induction d with
  | zero => intro v vI _ _ _; rw [f_X12_hasAny_L2.eq_1]; exact pr_0
  | succ d ih =>
    intro v vI hv hv30 h
    have t30 : (30 : Int32).toInt = 30 := by decide
    rw [f_X12_hasAny_L2.eq_2]
    have e1 : (vI + 1).toInt = ((v + 1 : Nat) : Int) := by rw [iw_add, lt1]; omega
    refine pr_le (fun c => pr_s (Or.inr ⟨rfl, fun j hj => h j (by omega)⟩)) (fun c => ?_)
    rw [t30] at c
    have hJ : ¬ (s.toInt.toNat.testBit v = true ∧ f ≤ v ∧ v < f + m) → pr (f_X12_hasAny_J31 n (f_X12_hasAny_L2 n d) s fI mI vI) (fun r => (r = 1 ∧ ∃ j, f ≤ j ∧ j < f + m ∧ s.toInt.toNat.testBit j = true) ∨ (r = 0 ∧ ∀ j, j < 30 → ¬ (s.toInt.toNat.testBit j = true ∧ f ≤ j ∧ j < f + m))) := by
      intro hno
      unfold f_X12_hasAny_J31
      refine pr_l (ih (v + 1) (vI + 1) e1 (by omega) (fun j hj => ?_))
      by_cases ej : j = v
      · rw [ej]; exact hno
      · exact h j (by omega)
    refine pr_i (fun z => ?_) (fun z => hJ (fun q => z ((bt_ref hs hv (by omega)).mpr q.1)))
    have hb := (bt_ref hs hv (by omega)).mp z
    refine pr_lt (fun c1 => hJ (fun q => by omega)) (fun c1 => ?_)
    have hvf : (vI - fI).toInt = (v : Int) - f := by have := ib_hi fI; rw [ii_sub (by omega) (by omega)]; omega
    refine pr_le (fun c2 => hJ (fun q => by omega)) (fun c2 => pr_s (Or.inl ⟨rfl, v, by omega, by omega, hb⟩))
theorem v_hasAny (n : Nat) {s : Int32} (hs : 0 ≤ s.toInt) (hS : s.toInt.toNat < 2 ^ 30) {f m : Nat} {fI mI : Int32} (hf : fI.toInt = (f : Int)) (hm : mI.toInt = (m : Int)) : pr (f_X12_hasAny n s fI mI) (fun r => r = if hasB s.toInt.toNat f m = true then 1 else 0) := by
  unfold f_X12_hasAny
  refine pr_m (v_hasAny_L n hs hf hm n 0 0 (by decide) (by omega) (fun j hj => absurd hj (Nat.not_lt_zero _))) (fun r hr => ?_)
  rcases hr with ⟨h1, h2⟩ | ⟨h1, h2⟩
  · rw [if_pos ((hasB_iff _ _ _).mpr h2)]; exact h1
  · rw [if_neg (fun z => by obtain ⟨j, q1, q2, q3⟩ := (hasB_iff _ _ _).mp z; exact h2 j (bit30 hS q3) ⟨q3, q1, q2⟩)]; exact h1
theorem k_has (n : Nat) {s : Int32} (hs : 0 ≤ s.toInt) (hS : s.toInt.toNat < 2 ^ 30) {f m : Nat} {fI mI : Int32} (hf : fI.toInt = (f : Int)) (hm : mI.toInt = (m : Int)) : ws (f_X11_hasOneOf n s fI mI) (fun r => r = if hasB s.toInt.toNat f m = true then 1 else 0) := by
  have t30 : (30 : Int32).toInt = 30 := by decide
  obtain ⟨h1, h2⟩ := S_nat hs
  unfold f_X11_hasOneOf f_X11_hasOneOf_J37
  refine ws_lt (fun c => by rw [lt0] at c; omega) (fun _ => ws_le (fun c => ws_s ?_) (fun c => ?_))
  · rw [t30] at c
    have : s.toInt.toNat / 2 ^ f = 0 := Nat.div_eq_of_lt (Nat.lt_of_lt_of_le hS (Nat.pow_le_pow_right (by decide) (by omega)))
    unfold hasB
    rw [this, Nat.zero_mod]; rfl
  · rw [t30] at c
    refine ws_lt (fun c0 => ws_ln (fun x4 hx4 => ?_)) (fun c0 => ws_s ?_)
    · rw [lt0] at c0
      have ef := i_ofN hf
      have hX : x4.toBitVec.toNat = s.toInt.toNat / 2 ^ f := by
        rw [hx4, ef]
        show (s.toBitVec >>> (UInt32.mod (Int32.toUInt32 (Int32.ofNat f) &&& Int32.toUInt32 31) 32).toBitVec.toNat).toNat = _
        rw [uhk f (by omega), BitVec.toNat_ushiftRight, h2, Nat.shiftRight_eq_div_pow]
      have hz : ∀ y : Int32, y = 0 ↔ y.toBitVec.toNat = 0 := fun y => by
        rw [← Int32.toBitVec_inj, ← BitVec.toNat_inj]; rfl
      have fin : ∀ y : Int32, y.toBitVec.toNat = s.toInt.toNat / 2 ^ f % 2 ^ m → ws (if y = 0 then some (0 : Int32) else some (1 : Int32)) (fun r => r = if hasB s.toInt.toNat f m = true then 1 else 0) := fun y hy => by
        refine ws_i (fun z => ws_s ?_) (fun z => ws_s ?_)
        · rw [if_neg]
          unfold hasB
          rw [← hy, (hz y).mp z]; decide
        · rw [if_pos]
          unfold hasB
          rw [← hy, decide_eq_true_iff]
          exact fun q => z ((hz y).mpr q)
      refine ws_lt (fun c1 => fin _ ?_) (fun c1 => fin _ ?_)
      · rw [t30] at c1
        have em := i_ofN hm
        show (x4.toBitVec &&& (((1 : Int32) <<< (mI &&& 31)) - 1).toBitVec).toNat = _
        rw [BitVec.toNat_and, hX, em, msk m (by omega), Nat.and_two_pow_sub_one_eq_mod]
      · rw [t30] at c1
        rw [hX]
        refine (Nat.mod_eq_of_lt ?_).symm
        exact Nat.lt_of_le_of_lt (Nat.div_le_self _ _) (Nat.lt_of_lt_of_le hS (Nat.pow_le_pow_right (by decide) (by omega)))
    · rw [lt0] at c0
      have : m = 0 := by omega
      subst this
      unfold hasB
      rw [Nat.pow_zero, Nat.mod_one]; rfl
/-! its greatest trees without one of it -/
def buT (S : Nat) : Nat → Nat → Nat → List (Nat × Nat × Bool)
  | 0, f, m => if hasB S f m = true then [] else [(f, m, false)]
  | e + 1, f, m => if hasB S f m = true then (if m = 1 then [] else buT S e f (p0 m) ++ buT S e (f + p0 m) (m - p0 m)) else [(f, m, false)]
/-- how many of the set lie alone -/
def buM (S : Nat) : Nat → Nat → Nat → Nat
  | 0, f, m => if hasB S f m = true then 1 else 0
  | e + 1, f, m => if hasB S f m = true then (if m = 1 then 1 else buM S e f (p0 m) + buM S e (f + p0 m) (m - p0 m)) else 0
theorem buT_1 {S f : Nat} (h : hasB S f 1 = true) (e : Nat) : buT S e f 1 = [] := by
  cases e with
  | zero => rw [buT, if_pos h]
  | succ e => rw [buT, if_pos h, if_pos rfl]
theorem buT_F {S f m : Nat} (h : ¬ hasB S f m = true) (e : Nat) : buT S e f m = [(f, m, false)] := by
  cases e with
  | zero => rw [buT, if_neg h]
  | succ e => rw [buT, if_neg h]
theorem buM_1 {S f : Nat} (h : hasB S f 1 = true) (e : Nat) : buM S e f 1 = 1 := by
  cases e with
  | zero => rw [buM, if_pos h]
  | succ e => rw [buM, if_pos h, if_pos rfl]
theorem buM_F {S f m : Nat} (h : ¬ hasB S f m = true) (e : Nat) : buM S e f m = 0 := by
  cases e with
  | zero => rw [buM, if_neg h]
  | succ e => rw [buM, if_neg h]
theorem buM_le {S : Nat} (hS : S < 2 ^ 30) : ∀ (e f m : Nat), 1 ≤ m → m ≤ 2 ^ e → buM S e f m ≤ min (f + m) 30 - f := by
  intro e
  induction e with
  | zero =>
    intro f m h1 h2
    have : m = 1 := by simp at h2; omega
    subst this
    unfold buM
    by_cases h : hasB S f 1 = true
    · rw [if_pos h]
      obtain ⟨j, q1, q2, q3⟩ := (hasB_iff _ _ _).mp h
      have := bit30 hS q3
      omega
    · rw [if_neg h]; omega
  | succ e ih =>
    intro f m h1 h2
    unfold buM
    by_cases h : hasB S f m = true
    · rw [if_pos h]
      by_cases hm : m = 1
      · rw [if_pos hm]
        subst hm
        obtain ⟨j, q1, q2, q3⟩ := (hasB_iff _ _ _).mp h
        have := bit30 hS q3
        omega
      · rw [if_neg hm]
        have hm2 : 2 ≤ m := by omega
        have hp1 := p0_lt hm2
        have hp2 := p0_le (m := m)
        have hp3 := p0_pos m
        have hp4 := p0_dn hm2 h2
        have a1 := ih f (p0 m) hp3 hp4
        have a2 := ih (f + p0 m) (m - p0 m) (by omega) (by omega)
        omega
    · rw [if_neg h]; omega
theorem v_bundlesIn (n : Nat) {s : Int32} (hs : 0 ≤ s.toInt) (hS : s.toInt.toNat < 2 ^ 30) : ∀ (d e : Nat) (σ : ms_T) (l : List (Nat × Nat × Bool)) (f m : Nat) (fI mI : Int32), WS σ l → fI.toInt = (f : Int) → mI.toInt = (m : Int) → 1 ≤ m → m ≤ 2 ^ e → f + m ≤ 2147483647 → pr (f_X12_bundlesIn n d σ s fI mI) (fun τ => WS τ (l ++ buT s.toInt.toNat e f m)) := by
  intro d
  induction d with
  | zero => intro e σ l f m fI mI _ _ _ _ _ _; rw [f_X12_bundlesIn.eq_1]; exact pr_0
  | succ d ih =>
    intro e σ l f m fI mI hW hf hm hm1 hme hfm
    rw [f_X12_bundlesIn.eq_2]
    refine pr_b (v_hasAny n hs hS hf hm) (fun r hr => ?_)
    by_cases hh : hasB s.toInt.toNat f m = true
    · rw [if_pos hh] at hr
      subst hr
      refine pr_i (fun z => absurd z (by decide)) (fun _ => ?_)
      refine pr_e (fun h1 => pr_s ?_) (fun h1 => ?_)
      · have : m = 1 := by rw [h1, lt1] at hm; omega
        subst this
        have e1 : buT s.toInt.toNat e f 1 = [] := buT_1 hh e
        rw [e1, List.append_nil]
        exact hW
      · rw [lt1, hm] at h1
        have hm2 : 2 ≤ m := by omega
        cases e with
        | zero => simp at hme; omega
        | succ e =>
        have hp1 := p0_lt hm2
        have hp2 := p0_le (m := m)
        have hp3 := p0_pos m
        have hp4 := p0_dn hm2 hme
        have e1 : buT s.toInt.toNat (e + 1) f m = buT s.toInt.toNat e f (p0 m) ++ buT s.toInt.toNat e (f + p0 m) (m - p0 m) := by rw [buT, if_pos hh, if_neg (by omega)]
        rw [e1]
        refine pr_b (v_part0 n mI (by omega)) (fun r hr => ?_)
        rw [hm, Int.toNat_natCast] at hr
        refine pr_b (ih e σ l f (p0 m) _ _ hW hf hr hp3 hp4 (by omega)) (fun τ hτ => ?_)
        refine pr_b (ih e τ _ (f + p0 m) (m - p0 m) _ _ hτ (by rw [ii_add (by omega) (by omega)]; omega) (by rw [ii_sub (by omega) (by omega)]; omega) (by omega) (by omega) (by omega)) (fun υ hυ => pr_s ?_)
        rw [← List.append_assoc]
        exact hυ
    · rw [if_neg hh] at hr
      subst hr
      refine pr_i (fun _ => ?_) (fun z => absurd rfl z)
      have e1 : buT s.toInt.toNat e f m = [(f, m, false)] := buT_F hh e
      rw [e1]
      exact pr_b (v_asks n hW fI mI (f, m, false) hf hm) (fun τ hτ => pr_s hτ)
theorem v_bundleOf (n : Nat) (σ : ms_T) {s : Int32} (hs : 0 ≤ s.toInt) (hS : s.toInt.toNat < 2 ^ 30) (m : Int32) (hm : 1 ≤ m.toInt) : pr (f_X12_bundleOf n σ s m) (fun τ => WS τ (buT s.toInt.toNat 31 0 m.toInt.toNat)) := by
  have hb := ib_hi m
  have h31 : (2 : Nat) ^ 31 = 2147483648 := by decide
  unfold f_X12_bundleOf
  refine pr_l (pr_b (v_bundlesIn n hs hS 40 31 _ [] 0 m.toInt.toNat 0 m ⟨by rw [mI_sI, if_pos rfl]; rfl, fun k q h => by simp at h⟩ rfl (by omega) (by omega) (by omega) (by omega)) (fun τ hτ => pr_s ?_))
  simpa using hτ
/-- no more than 58 of them -/
theorem buT_len (n : Nat) (hn : 70000 ≤ n) (σ : ms_T) {s : Int32} (hs : 0 ≤ s.toInt) (hS : s.toInt.toNat < 2 ^ 30) (m : Int32) (hm : 1 ≤ m.toInt) : (buT s.toInt.toNat 31 0 m.toInt.toNat).length ≤ 58 := by
  obtain ⟨τ, e, w, hw, hw58⟩ := s_bundleOf n hn σ s m hm
  have h1 := (v_bundleOf n σ hs hS m hm τ e).1
  have h2 := hw.2.1
  omega
theorem buT_in {S : Nat} : ∀ (e f m : Nat) {t b : Nat} {c : Bool}, (t, b, c) ∈ buT S e f m → 1 ≤ m → m ≤ 2 ^ e → f ≤ t ∧ t + b ≤ f + m ∧ 1 ≤ b ∧ c = false := by
  intro e
  induction e with
  | zero =>
    intro f m t b c h h1 h2
    unfold buT at h
    by_cases hh : hasB S f m = true
    · rw [if_pos hh] at h; cases h
    · rw [if_neg hh, List.mem_singleton] at h
      cases h
      exact ⟨Nat.le_refl _, Nat.le_refl _, h1, rfl⟩
  | succ e ih =>
    intro f m t b c h h1 h2
    unfold buT at h
    by_cases hh : hasB S f m = true
    · rw [if_pos hh] at h
      by_cases hm : m = 1
      · rw [if_pos hm] at h; cases h
      · rw [if_neg hm] at h
        have hm2 : 2 ≤ m := by omega
        have hp1 := p0_lt hm2
        have hp2 := p0_le (m := m)
        have hp3 := p0_pos m
        have hp4 := p0_dn hm2 h2
        rcases List.mem_append.mp h with q | q
        · have := ih f (p0 m) q hp3 hp4
          exact ⟨by omega, by omega, by omega, this.2.2.2⟩
        · have := ih (f + p0 m) (m - p0 m) q (by omega) (by omega)
          exact ⟨by omega, by omega, by omega, this.2.2.2⟩
    · rw [if_neg hh, List.mem_singleton] at h
      cases h
      exact ⟨Nat.le_refl _, Nat.le_refl _, h1, rfl⟩
/-! the class's way to them -/
theorem k_pgw (n : Nat) (w : Nat) {s : Int32} (hs : 0 ≤ s.toInt) (hS : s.toInt.toNat < 2 ^ 30) (l : List (Nat × Nat × Bool)) (hl : l.length < 64) (α : hp_T) (hW : WC α w l) (t m : Nat) (tI : Int32) (ht : tI.toInt = (t : Int)) : ∀ (e d a b : Nat) (aI bI dI : Int32), (t, m, false) ∈ buT s.toInt.toNat e a b → aI.toInt = (a : Int) → bI.toInt = (b : Int) → 1 ≤ b → b ≤ 2 ^ e → a + b ≤ 2147483647 → 0 ≤ dI.toInt → dI.toInt + e ≤ 39 → e + 1 ≤ d → ws (f_X8_putGreatestWithout_L9 n w d α s tI aI bI dI) (fun r => r.1.toInt = (m : Int) ∧ WC r.2 w (l ++ [(t, m, false)]) ∧ wf w α r.2) := by
  intro e
  have t40 : (40 : Int32).toInt = 40 := by decide
  induction e with
  | zero =>
    intro d a b aI bI dI hmem ha hb hb1 hbe hab hd0 hd hdd
    cases d with
    | zero => omega
    | succ d =>
    rw [f_X8_putGreatestWithout_L9.eq_2]
    by_cases hh : hasB s.toInt.toNat a b = true
    · rw [buT, if_pos hh] at hmem; cases hmem
    · rw [buT, if_neg hh, List.mem_singleton] at hmem
      obtain ⟨rfl, rfl⟩ : t = a ∧ m = b := by cases hmem; exact ⟨rfl, rfl⟩
      refine ws_le (fun c => by rw [t40] at c; omega) (fun _ => ws_e (fun _ => ?_) (fun z => by omega))
      refine ws_b (k_has n hs hS ha hb) (fun r hr => ?_)
      rw [if_neg hh] at hr
      subst hr
      refine ws_i (fun _ => ?_) (fun z => absurd rfl z)
      unfold f_X8_putGreatestWithout_J76
      exact ws_b (k_put8 n α w l hW hl (t, m, false) aI bI 0 ha hb rfl) (fun β hβ => ws_s ⟨hb, hβ.1, hβ.2⟩)
  | succ e ih =>
    intro d a b aI bI dI hmem ha hb hb1 hbe hab hd0 hd hdd
    cases d with
    | zero => omega
    | succ d =>
    rw [f_X8_putGreatestWithout_L9.eq_2]
    refine ws_le (fun c => by rw [t40] at c; omega) (fun _ => ?_)
    by_cases hh : hasB s.toInt.toNat a b = true
    · rw [buT, if_pos hh] at hmem
      by_cases hb2 : b = 1
      · rw [if_pos hb2] at hmem; cases hmem
      rw [if_neg hb2] at hmem
      have hm2 : 2 ≤ b := by omega
      have hp1 := p0_lt hm2
      have hp2 := p0_le (m := b)
      have hp3 := p0_pos b
      have hp4 := p0_dn hm2 hbe
      have hdI : (dI + 1).toInt = dI.toInt + 1 := by rw [ii_add (by rw [lt1]; omega) (by rw [lt1]; omega), lt1]
      have hJ : ws (f_X8_putGreatestWithout_J33 n w (f_X8_putGreatestWithout_L9 n w d) α s tI aI bI dI) (fun r => r.1.toInt = (m : Int) ∧ WC r.2 w (l ++ [(t, m, false)]) ∧ wf w α r.2) := by
        unfold f_X8_putGreatestWithout_J33 f_X8_putGreatestWithout_J70
        refine ws_b (k_first n bI (by omega)) (fun r hr => ?_)
        rw [hb, Int.toNat_natCast] at hr
        rcases List.mem_append.mp hmem with hm | hm
        · have hin := buT_in _ _ _ hm hp3 hp4
          have hta : (tI - aI).toInt = (t : Int) - a := by have := ib_hi aI; have := ib_hi tI; rw [ii_sub (by omega) (by omega)]; omega
          refine ws_le (fun c => by omega) (fun c => ws_l ?_)
          exact ih d a (p0 b) aI r (dI + 1) hm ha hr hp3 hp4 (by omega) (by omega) (by omega) (by omega)
        · have hin := buT_in _ _ _ hm (by omega) (by omega)
          have hta : (tI - aI).toInt = (t : Int) - a := by have := ib_hi aI; have := ib_hi tI; rw [ii_sub (by omega) (by omega)]; omega
          refine ws_le (fun c => ws_l (ws_l (ws_l ?_))) (fun c => by omega)
          exact ih d (a + p0 b) (b - p0 b) (aI + r) (bI - r) (dI + 1) hm (by rw [ii_add (by omega) (by omega)]; omega) (by rw [ii_sub (by omega) (by omega)]; omega) (by omega) (by omega) (by omega) (by omega) (by omega) (by omega)
      refine ws_e (fun _ => ?_) (fun _ => hJ)
      refine ws_b (k_has n hs hS ha hb) (fun r hr => ?_)
      rw [if_pos hh] at hr
      subst hr
      exact ws_i (fun z => absurd z (by decide)) (fun _ => hJ)
    · rw [buT, if_neg hh, List.mem_singleton] at hmem
      obtain ⟨rfl, rfl⟩ : t = a ∧ m = b := by cases hmem; exact ⟨rfl, rfl⟩
      refine ws_e (fun _ => ?_) (fun z => by omega)
      refine ws_b (k_has n hs hS ha hb) (fun r hr => ?_)
      rw [if_neg hh] at hr
      subst hr
      refine ws_i (fun _ => ?_) (fun z => absurd rfl z)
      unfold f_X8_putGreatestWithout_J76
      exact ws_b (k_put8 n α w l hW hl (t, m, false) aI bI 0 ha hb rfl) (fun β hβ => ws_s ⟨hb, hβ.1, hβ.2⟩)
theorem k_bun (n : Nat) (hn : 70000 ≤ n) (w : Nat) {s : Int32} (hs : 0 ≤ s.toInt) (hS : s.toInt.toNat < 2 ^ 30) (N : Nat) (NI : Int32) (hN : NI.toInt = (N : Int)) (hN1 : 1 ≤ N) (hNe : N ≤ 2 ^ 31) (α0 : hp_T) (Q : hp_T → Prop) : ∀ (e a b : Nat), 1 ≤ b → b ≤ 2 ^ e → a + b ≤ N → (∀ q, q ∈ buT s.toInt.toNat e a b → q ∈ buT s.toInt.toNat 31 0 N) → ∀ (l : List (Nat × Nat × Bool)) (α : hp_T) (r d : Nat) (aI rI : Int32), WC α w l → wf w α0 α → l.length + (buT s.toInt.toNat e a b).length ≤ 64 → aI.toInt = (a : Int) → rI.toInt = (r : Int) → r + ((buT s.toInt.toNat e a b).length + buM s.toInt.toNat e a b) ≤ 128 → (buT s.toInt.toNat e a b).length + buM s.toInt.toNat e a b ≤ d → (∀ (β : hp_T) (aI' rI' : Int32), WC β w (l ++ buT s.toInt.toNat e a b) → wf w α0 β → aI'.toInt = ((a + b : Nat) : Int) → rI'.toInt = ((r + ((buT s.toInt.toNat e a b).length + buM s.toInt.toNat e a b) : Nat) : Int) → ws (f_X8_toBundle_L9 n w (d - ((buT s.toInt.toNat e a b).length + buM s.toInt.toNat e a b)) β s NI aI' rI') Q) → ws (f_X8_toBundle_L9 n w d α s NI aI rI) Q := by
  intro e
  have t128 : (128 : Int32).toInt = 128 := by decide
  have hNb := ib_hi NI
  -- one tree, or one of the set
  have leafT : ∀ (e a b : Nat), hasB s.toInt.toNat a b = false → 1 ≤ b → a + b ≤ N → (∀ q, q ∈ buT s.toInt.toNat e a b → q ∈ buT s.toInt.toNat 31 0 N) → ∀ (l : List (Nat × Nat × Bool)) (α : hp_T) (r d : Nat) (aI rI : Int32), WC α w l → wf w α0 α → l.length + (buT s.toInt.toNat e a b).length ≤ 64 → aI.toInt = (a : Int) → rI.toInt = (r : Int) → r + ((buT s.toInt.toNat e a b).length + buM s.toInt.toNat e a b) ≤ 128 → (buT s.toInt.toNat e a b).length + buM s.toInt.toNat e a b ≤ d → (∀ (β : hp_T) (aI' rI' : Int32), WC β w (l ++ buT s.toInt.toNat e a b) → wf w α0 β → aI'.toInt = ((a + b : Nat) : Int) → rI'.toInt = ((r + ((buT s.toInt.toNat e a b).length + buM s.toInt.toNat e a b) : Nat) : Int) → ws (f_X8_toBundle_L9 n w (d - ((buT s.toInt.toNat e a b).length + buM s.toInt.toNat e a b)) β s NI aI' rI') Q) → ws (f_X8_toBundle_L9 n w d α s NI aI rI) Q := by
    intro e a b hh hb1 hab hsub l α r d aI rI hW hw hl ha hr hr128 hd K
    have hh' : ¬ hasB s.toInt.toNat a b = true := by rw [hh]; decide
    have e1 : buT s.toInt.toNat e a b = [(a, b, false)] := buT_F hh' e
    have e2 : buM s.toInt.toNat e a b = 0 := buM_F hh' e
    rw [e1, e2] at hr128 hd K
    rw [e1] at hsub hl
    simp only [List.length_singleton, Nat.add_zero] at hl hr128 hd K
    obtain ⟨d, rfl⟩ : ∃ k, d = k + 1 := ⟨d - 1, by omega⟩
    rw [f_X8_toBundle_L9.eq_2]
    refine ws_le (fun c => by rw [t128] at c; omega) (fun _ => ws_le (fun c => by omega) (fun _ => ?_))
    refine ws_b (k_has n hs hS ha (m := 1) (mI := 1) (by decide)) (fun v hv => ?_)
    have h1 : ¬ hasB s.toInt.toNat a 1 = true := fun q => by
      obtain ⟨j, q1, q2, q3⟩ := (hasB_iff _ _ _).mp q
      have : hasB s.toInt.toNat a b = true := (hasB_iff _ _ _).mpr ⟨j, q1, by omega, q3⟩
      rw [hh] at this; cases this
    rw [if_neg h1] at hv
    subst hv
    refine ws_i (fun _ => ?_) (fun z => absurd rfl z)
    unfold f_X8_putGreatestWithout
    refine ws_hc (k_pgw n w hs hS l (by omega) α hW a b aI ha 31 n 0 N 0 NI 0 (hsub _ List.mem_cons_self) rfl hN hN1 hNe (by omega) (by decide) (by decide) (by omega)) (fun v β hβ => ws_l ?_)
    obtain ⟨b1, b2, b3⟩ := hβ
    replace b1 : v.toInt = (b : Int) := b1
    unfold f_X8_toBundle_J47
    refine ws_l ?_
    exact K β _ _ b2 (wf_tr hw b3) (by rw [ii_add (by omega) (by omega)]; omega) (by rw [iw_add, lt1]; omega)
  have leafM : ∀ (e a : Nat), hasB s.toInt.toNat a 1 = true → a + 1 ≤ N → ∀ (l : List (Nat × Nat × Bool)) (α : hp_T) (r d : Nat) (aI rI : Int32), WC α w l → wf w α0 α → aI.toInt = (a : Int) → rI.toInt = (r : Int) → r + ((buT s.toInt.toNat e a 1).length + buM s.toInt.toNat e a 1) ≤ 128 → (buT s.toInt.toNat e a 1).length + buM s.toInt.toNat e a 1 ≤ d → (∀ (β : hp_T) (aI' rI' : Int32), WC β w (l ++ buT s.toInt.toNat e a 1) → wf w α0 β → aI'.toInt = ((a + 1 : Nat) : Int) → rI'.toInt = ((r + ((buT s.toInt.toNat e a 1).length + buM s.toInt.toNat e a 1) : Nat) : Int) → ws (f_X8_toBundle_L9 n w (d - ((buT s.toInt.toNat e a 1).length + buM s.toInt.toNat e a 1)) β s NI aI' rI') Q) → ws (f_X8_toBundle_L9 n w d α s NI aI rI) Q := by
    intro e a hh hab l α r d aI rI hW hw ha hr hr128 hd K
    have e1 : buT s.toInt.toNat e a 1 = [] := buT_1 hh e
    have e2 : buM s.toInt.toNat e a 1 = 1 := buM_1 hh e
    rw [e1, e2] at hr128 hd K
    simp only [List.length_nil, Nat.zero_add, List.append_nil] at hr128 hd K
    obtain ⟨d, rfl⟩ : ∃ k, d = k + 1 := ⟨d - 1, by omega⟩
    rw [f_X8_toBundle_L9.eq_2]
    refine ws_le (fun c => by rw [t128] at c; omega) (fun _ => ws_le (fun c => by omega) (fun _ => ?_))
    refine ws_b (k_has n hs hS ha (m := 1) (mI := 1) (by decide)) (fun v hv => ?_)
    rw [if_pos hh] at hv
    subst hv
    refine ws_i (fun z => absurd z (by decide)) (fun _ => ws_l ?_)
    unfold f_X8_toBundle_J47
    refine ws_l ?_
    exact K α _ _ hW hw (by rw [iw_add, lt1]; omega) (by rw [iw_add, lt1]; omega)
  induction e with
  | zero =>
    intro a b hb1 hbe hab hsub l α r d aI rI hW hw hl ha hr hr128 hd K
    have : b = 1 := by simp at hbe; omega
    subst this
    cases hh : hasB s.toInt.toNat a 1 with
    | true => exact leafM 0 a hh hab l α r d aI rI hW hw ha hr hr128 hd K
    | false => exact leafT 0 a 1 hh hb1 hab hsub l α r d aI rI hW hw hl ha hr hr128 hd K
  | succ e ih =>
    intro a b hb1 hbe hab hsub l α r d aI rI hW hw hl ha hr hr128 hd K
    cases hh : hasB s.toInt.toNat a b with
    | false => exact leafT (e + 1) a b hh hb1 hab hsub l α r d aI rI hW hw hl ha hr hr128 hd K
    | true =>
      by_cases hb2 : b = 1
      · subst hb2
        exact leafM (e + 1) a hh hab l α r d aI rI hW hw ha hr hr128 hd K
      have hm2 : 2 ≤ b := by omega
      have hp1 := p0_lt hm2
      have hp2 := p0_le (m := b)
      have hp3 := p0_pos b
      have hp4 := p0_dn hm2 hbe
      have e1 : buT s.toInt.toNat (e + 1) a b = buT s.toInt.toNat e a (p0 b) ++ buT s.toInt.toNat e (a + p0 b) (b - p0 b) := by rw [buT, if_pos hh, if_neg hb2]
      have e2 : buM s.toInt.toNat (e + 1) a b = buM s.toInt.toNat e a (p0 b) + buM s.toInt.toNat e (a + p0 b) (b - p0 b) := by rw [buM, if_pos hh, if_neg hb2]
      rw [e1] at hsub
      rw [e1, e2, List.length_append] at hr128 hd
      rw [e1, List.length_append] at hl
      rw [e1, e2, List.length_append] at K
      refine ih a (p0 b) hp3 hp4 (by omega) (fun q hq => hsub q (List.mem_append.mpr (Or.inl hq))) l α r d aI rI hW hw (by omega) ha hr (by omega) (by omega) (fun β aI' rI' hWβ hwβ ha' hr' => ?_)
      refine ih (a + p0 b) (b - p0 b) (by omega) (by omega) (by omega) (fun q hq => hsub q (List.mem_append.mpr (Or.inr hq))) _ β _ _ aI' rI' hWβ hwβ (by rw [List.length_append]; omega) ha' hr' (by omega) (by omega) (fun γ aI2 rI2 hWγ hwγ ha2 hr2 => ?_)
      have := K γ aI2 rI2 (by rw [← List.append_assoc]; exact hWγ) hwγ (by rw [ha2]; congr 1; omega) (by rw [hr2]; congr 1; omega)
      rw [show d - ((buT s.toInt.toNat e a (p0 b)).length + buM s.toInt.toNat e a (p0 b)) - ((buT s.toInt.toNat e (a + p0 b) (b - p0 b)).length + buM s.toInt.toNat e (a + p0 b) (b - p0 b)) = d - ((buT s.toInt.toNat e a (p0 b)).length + (buT s.toInt.toNat e (a + p0 b) (b - p0 b)).length + (buM s.toInt.toNat e a (p0 b) + buM s.toInt.toNat e (a + p0 b) (b - p0 b))) by omega]
      exact this
theorem k_toBundle (n : Nat) (hn : 70000 ≤ n) (α : hp_T) (w : Nat) {s : Int32} (hs : 0 ≤ s.toInt) (hS : s.toInt.toNat < 2 ^ 30) (NI : Int32) (hN1 : 1 ≤ NI.toInt) (hlen : (buT s.toInt.toNat 31 0 NI.toInt.toNat).length ≤ 58) : ws (f_X8_toBundle n α w s NI) (fun β => WC β w (buT s.toInt.toNat 31 0 NI.toInt.toNat) ∧ wf w α β) := by
  have hb := ib_hi NI
  have h31 : (2 : Nat) ^ 31 = 2147483648 := by decide
  have hM := buM_le hS 31 0 NI.toInt.toNat (by omega) (by omega)
  unfold f_X8_toBundle
  refine ws_b (k_clear n α w) (fun β hβ => ?_)
  refine k_bun n hn w hs hS NI.toInt.toNat NI (by omega) (by omega) (by omega) α _ 31 0 NI.toInt.toNat (by omega) (by omega) (by omega) (fun _ q => q) [] β 0 n 0 0 hβ.1 hβ.2 (by rw [List.length_nil]; omega) rfl rfl (by omega) (by omega) (fun γ aI' rI' h1 h2 h3 h4 => ?_)
  rw [List.nil_append] at h1
  obtain ⟨d, hd⟩ : ∃ k, n - ((buT s.toInt.toNat 31 0 NI.toInt.toNat).length + buM s.toInt.toNat 31 0 NI.toInt.toNat) = k + 1 := ⟨n - ((buT s.toInt.toNat 31 0 NI.toInt.toNat).length + buM s.toInt.toNat 31 0 NI.toInt.toNat) - 1, by omega⟩
  rw [hd, f_X8_toBundle_L9.eq_2]
  exact ws_le (fun _ => ws_s ⟨h1, h2⟩) (fun _ => ws_le (fun _ => ws_s ⟨h1, h2⟩) (fun c => by omega))
/-! which sets may be asked for -/
abbrev seOK (s m : Int32) : Prop := 0 < s.toInt ∧ 0 ≤ m.toInt ∧ s.toInt.toNat < 2 ^ (min m.toInt.toNat 30)
theorem seOK_S {s m : Int32} (h : seOK s m) : 0 ≤ s.toInt ∧ s.toInt.toNat < 2 ^ 30 ∧ 1 ≤ m.toInt := by
  obtain ⟨h1, h2, h3⟩ := h
  refine ⟨by omega, Nat.lt_of_lt_of_le h3 (Nat.pow_le_pow_right (by decide) (Nat.min_le_right _ _)), ?_⟩
  refine Classical.byContradiction (fun q => ?_)
  have : m.toInt.toNat = 0 := by omega
  rw [this, Nat.zero_min, Nat.pow_zero] at h3
  omega
theorem k_isSet (n : Nat) (s : Int32) : ws (f_X11_isSet n s) (fun r => bo r (0 < s.toInt)) := by
  unfold f_X11_isSet
  exact ws_le (fun c => ws_s (Or.inr ⟨rfl, by rw [lt0] at c; omega⟩)) (fun c => ws_s (Or.inl ⟨rfl, by rw [lt0] at c; omega⟩))
theorem k_lieBelow (n : Nat) (s m : Int32) (hs : 0 < s.toInt) : ws (f_X11_lieBelow n s m) (fun r => bo r (seOK s m)) := by
  have t30 : (30 : Int32).toInt = 30 := by decide
  unfold f_X11_lieBelow
  refine ws_b (k_hob n s (by omega)) (fun r hr => ?_)
  have hmin : ws (f_J9_min_7cf53 n m 30) (fun v => v.toInt = min m.toInt 30) := by
    unfold f_J9_min_7cf53
    exact ws_lt (fun c => ws_s (by rw [t30] at c ⊢; omega)) (fun c => ws_s (by rw [t30] at c; omega))
  refine ws_b hmin (fun v hv => ?_)
  have hmax : ws (f_J9_max_7cf53 n 0 v) (fun u => u.toInt = max 0 v.toInt) := by
    unfold f_J9_max_7cf53
    exact ws_lt (fun c => ws_s (by rw [lt0] at c; omega)) (fun c => ws_s (by rw [lt0] at c ⊢; omega))
  refine ws_b hmax (fun u hu => ?_)
  have hu2 : u.toInt = ((max 0 (min m.toInt 30)).toNat : Int) := by omega
  have eu := i_ofN hu2
  have hsh : ((1 : Int32) <<< (u &&& 31)).toInt = ((2 ^ (max 0 (min m.toInt 30)).toNat : Nat) : Int) := by
    rw [eu]; exact onk _ (by omega)
  have hlog : p0 (s.toInt.toNat + 1) = 2 ^ Nat.log2 s.toInt.toNat := by unfold p0; rw [Nat.add_sub_cancel]
  have hs0 : s.toInt.toNat ≠ 0 := by omega
  have hkey : ∀ k : Nat, 2 ^ k ≤ 2 ^ Nat.log2 s.toInt.toNat ↔ 2 ^ k ≤ s.toInt.toNat := fun k => by
    rw [Nat.pow_le_pow_iff_right (by decide), Nat.le_log2 hs0]
  have hk : (0 ≤ m.toInt ∧ s.toInt.toNat < 2 ^ (min m.toInt.toNat 30)) ↔ s.toInt.toNat < 2 ^ (max 0 (min m.toInt 30)).toNat := by
    by_cases h0 : 0 ≤ m.toInt
    · rw [show (max 0 (min m.toInt 30)).toNat = min m.toInt.toNat 30 by omega]
      exact ⟨fun h => h.2, fun h => ⟨h0, h⟩⟩
    · rw [show (max 0 (min m.toInt 30)).toNat = 0 by omega]
      exact ⟨fun h => absurd h.1 h0, fun h => by rw [Nat.pow_zero] at h; omega⟩
  refine ws_le (fun c => ws_s (Or.inr ⟨rfl, fun q => ?_⟩)) (fun c => ws_s (Or.inl ⟨rfl, hs, hk.mpr ?_⟩))
  · rw [hsh, hr, hlog] at c
    have h1 := (hkey _).mp (by exact_mod_cast c)
    have h2 := hk.mp q.2
    omega
  · rw [hsh, hr, hlog] at c
    refine Nat.lt_of_not_le (fun q => ?_)
    have := (hkey _).mpr q
    omega
theorem v_isBeyond_L (n : Nat) {s m : Int32} (hs : 0 < s.toInt) : ∀ (d v : Nat) (vI : Int32), vI.toInt = (v : Int) → v ≤ 31 → (∀ j, j < v → s.toInt.toNat.testBit j = true → (j : Int) < m.toInt ∧ j < 30) → pr (f_X12_isBeyond_L2 n d s m vI) (fun r => (r = 1 ∧ ∃ j, s.toInt.toNat.testBit j = true ∧ ¬ ((j : Int) < m.toInt ∧ j < 30)) ∨ (r = 0 ∧ ∀ j, j < 31 → s.toInt.toNat.testBit j = true → (j : Int) < m.toInt ∧ j < 30)) := by
  intro d
  induction d with
  | zero => intro v vI _ _ _; rw [f_X12_isBeyond_L2.eq_1]; exact pr_0
  | succ d ih =>
    intro v vI hv hv31 h
    have t31 : (31 : Int32).toInt = 31 := by decide
    have t30 : (30 : Int32).toInt = 30 := by decide
    rw [f_X12_isBeyond_L2.eq_2]
    have e1 : (vI + 1).toInt = ((v + 1 : Nat) : Int) := by rw [iw_add, lt1]; omega
    refine pr_le (fun c => pr_s (Or.inr ⟨rfl, fun j hj => h j (by rw [t31] at c; omega)⟩)) (fun c => ?_)
    rw [t31] at c
    have hJ : (s.toInt.toNat.testBit v = true → (v : Int) < m.toInt ∧ v < 30) → pr (f_X12_isBeyond_J30 n (f_X12_isBeyond_L2 n d) s m vI) (fun r => (r = 1 ∧ ∃ j, s.toInt.toNat.testBit j = true ∧ ¬ ((j : Int) < m.toInt ∧ j < 30)) ∨ (r = 0 ∧ ∀ j, j < 31 → s.toInt.toNat.testBit j = true → (j : Int) < m.toInt ∧ j < 30)) := by
      intro hno
      unfold f_X12_isBeyond_J30
      refine pr_l (ih (v + 1) (vI + 1) e1 (by omega) (fun j hj hb => ?_))
      by_cases ej : j = v
      · rw [ej] at hb ⊢; exact hno hb
      · exact h j (by omega) hb
    refine pr_i (fun z => ?_) (fun z => hJ (fun q => absurd ((bt_ref (by omega) hv (by omega)).mpr q) z))
    have hb := (bt_ref (by omega) hv (by omega)).mp z
    refine pr_le (fun c1 => pr_s (Or.inl ⟨rfl, v, hb, fun q => by omega⟩)) (fun c1 => pr_lt (fun c2 => hJ (fun _ => by rw [t30] at c2; omega)) (fun c2 => pr_s (Or.inl ⟨rfl, v, hb, fun q => by rw [t30] at c2; omega⟩)))
theorem v_isBeyond (n : Nat) {s m : Int32} (hs : 0 < s.toInt) : pr (f_X12_isBeyond n s m) (fun r => bo r (¬ seOK s m)) := by
  have hb := ib_hi s
  unfold f_X12_isBeyond
  refine pr_m (v_isBeyond_L n hs n 0 0 (by decide) (by omega) (fun j hj => absurd hj (Nat.not_lt_zero _))) (fun r hr => ?_)
  rcases hr with ⟨h1, j, h2, h3⟩ | ⟨h1, h2⟩
  · refine Or.inl ⟨h1, fun q => h3 ?_⟩
    have : j < min m.toInt.toNat 30 := by
      refine Nat.lt_of_not_le (fun h => ?_)
      have := Nat.testBit_lt_two_pow (Nat.lt_of_lt_of_le q.2.2 (Nat.pow_le_pow_right (by decide) h))
      rw [h2] at this; cases this
    have h0 := q.2.1
    omega
  · refine Or.inr ⟨h1, fun q => q ⟨hs, ?_⟩⟩
    have h31 : (2 : Nat) ^ 31 = 2147483648 := by decide
    have hlt : s.toInt.toNat < 2 ^ (min m.toInt.toNat 30) := by
      refine Nat.lt_pow_two_of_testBit _ (fun i hi => ?_)
      cases hti : s.toInt.toNat.testBit i with
      | false => rfl
      | true =>
        have hi31 : i < 31 := by
          refine Nat.lt_of_not_le (fun h => ?_)
          have := Nat.testBit_lt_two_pow (x := s.toInt.toNat) (i := i) (Nat.lt_of_lt_of_le (show s.toInt.toNat < 2 ^ 31 by omega) (Nat.pow_le_pow_right (by decide) h))
          rw [hti] at this; cases this
        have := h2 i hi31 hti
        omega
    refine ⟨?_, hlt⟩
    refine Classical.byContradiction (fun h0 => ?_)
    have : m.toInt.toNat = 0 := by omega
    rw [this, Nat.zero_min, Nat.pow_zero] at hlt
    omega
/-! ===== saves ===== -/
theorem bt_ref0 {s v : Int32} {k : Nat} (hs : 0 ≤ s.toInt) (hv : v.toInt = (k : Int)) (hk : k < 31) : (((s >>> (v &&& 31)) &&& (1 : Int32)) = 0) ↔ s.toInt.toNat.testBit k = false := by
  obtain ⟨h1, h2⟩ := S_nat hs
  have ev := i_ofN hv
  subst ev
  have hX : (s >>> ((Int32.ofNat k) &&& 31)).toBitVec.toNat = s.toInt.toNat / 2 ^ k := by
    show (s.toBitVec.sshiftRight (((Int32.ofNat k) &&& 31).toBitVec.smod 32).toNat).toNat = _
    rw [shk k hk, BitVec.sshiftRight_eq_of_msb_false h1, BitVec.toNat_ushiftRight, h2, Nat.shiftRight_eq_div_pow]
  rw [← Int32.toBitVec_inj, ← BitVec.toNat_inj]
  show ((s >>> ((Int32.ofNat k) &&& 31)).toBitVec &&& (1 : Int32).toBitVec).toNat = 0 ↔ _
  rw [BitVec.toNat_and, hX, show ((1 : Int32).toBitVec).toNat = 1 from rfl, Nat.and_one_is_mod, Nat.testBit_eq_decide_div_mod_eq, decide_eq_false_iff_not]
  omega
theorem hasB_1 (S k : Nat) : hasB S k 1 = S.testBit k := by
  cases h : S.testBit k with
  | true => exact (hasB_iff S k 1).mpr ⟨k, by omega, by omega, h⟩
  | false =>
    cases hh : hasB S k 1 with
    | false => rfl
    | true =>
      obtain ⟨j, q1, q2, q3⟩ := (hasB_iff S k 1).mp hh
      have : j = k := by omega
      rw [this, h] at q3; cases q3
/-- MARKS of all INCLUSIONS together, from a thing on -/
def svI (S N : Nat) : Nat → Nat → Int32 → Int32
  | 0, _, a => a
  | d + 1, k, a => if S.testBit k = true then svI S N d (k + 1) (a + Int32.ofNat (wyT 31 k 0 N).length) else svI S N d (k + 1) a
def svA (s m : Int32) : Int32 := if seOK s m then svI s.toInt.toNat m.toInt.toNat 30 0 0 - Int32.ofNat (buT s.toInt.toNat 31 0 m.toInt.toNat).length else -1
theorem se_lt {s m : Int32} (h : seOK s m) {k : Nat} (hb : s.toInt.toNat.testBit k = true) : (k : Int) < m.toInt := by
  have : k < min m.toInt.toNat 30 := by
    refine Nat.lt_of_not_le (fun h2 => ?_)
    have := Nat.testBit_lt_two_pow (Nat.lt_of_lt_of_le h.2.2 (Nat.pow_le_pow_right (by decide) h2))
    rw [hb] at this; cases this
  have := h.2.1
  omega
theorem v_saves_L (n : Nat) {s m : Int32} (h : seOK s m) : ∀ (d k : Nat) (σ : ms_T) (aI kI : Int32), kI.toInt = (k : Int) → k ≤ 30 → pr (f_X12_saves_L31 n d σ s m aI kI) (fun res => res.1 = svI s.toInt.toNat m.toInt.toNat (30 - k) k aI - Int32.ofNat (buT s.toInt.toNat 31 0 m.toInt.toNat).length) := by
  obtain ⟨q1, q2, q3⟩ := seOK_S h
  intro d
  induction d with
  | zero => intro k σ aI kI _ _; rw [f_X12_saves_L31.eq_1]; exact pr_0
  | succ d ih =>
    intro k σ aI kI hk hk30
    have t30 : (30 : Int32).toInt = 30 := by decide
    rw [f_X12_saves_L31.eq_2]
    have e1 : (kI + 1).toInt = ((k + 1 : Nat) : Int) := by rw [iw_add, lt1]; omega
    unfold f_X12_saves_J64
    refine pr_le (fun c => ?_) (fun c => ?_)
    · rw [t30] at c
      have : k = 30 := by omega
      subst this
      refine pr_b (v_bundleOf n σ q1 q2 m q3) (fun τ hτ => pr_s ?_)
      show aI - ms_I τ 657 = svI _ _ 0 30 aI - _
      rw [i_ofN hτ.1]; rfl
    · rw [t30] at c
      have ek : 30 - k = (30 - (k + 1)) + 1 := by omega
      refine pr_i (fun z => pr_l ?_) (fun z => ?_)
      · have hf := (bt_ref0 q1 hk (by omega)).mp z
        rw [ek, svI, if_neg (by rw [hf]; decide)]
        exact ih (k + 1) σ aI _ e1 (by omega)
      · have ht : s.toInt.toNat.testBit k = true := by
          cases hb : s.toInt.toNat.testBit k with
          | true => rfl
          | false => exact absurd ((bt_ref0 q1 hk (by omega)).mpr hb) z
        have hlt := se_lt h ht
        rw [ek, svI, if_pos ht]
        refine pr_b (v_inclusion n σ kI m (by omega) (by omega)) (fun τ hτ => pr_l (pr_l ?_))
        have hn : ms_I τ 657 = Int32.ofNat (wyT 31 k 0 m.toInt.toNat).length := by
          rw [WS_n hτ, show kI.toInt.toNat = k by omega]
        rw [hn]
        exact ih (k + 1) τ _ _ e1 (by omega)
theorem v_saves (n : Nat) (σ : ms_T) (s m : Int32) : pr (f_X12_saves n σ s m) (fun res => res.1 = svA s m) := by
  have bad : ¬ seOK s m → pr (f_X12_saves_J18 n σ s m 1) (fun res => res.1 = svA s m) := fun no => by
    unfold f_X12_saves_J18 svA
    rw [if_neg no]
    exact v_is1 n σ 1 (by decide) (pr_s rfl)
  unfold f_X12_saves f_X12_saves_J13
  refine pr_le (fun c => bad (fun q => by rw [lt0] at c; have := q.1; omega)) (fun c => ?_)
  rw [lt0] at c
  refine pr_b (v_isBeyond n (m := m) c) (fun r hr => ?_)
  rcases hr with ⟨rfl, hno⟩ | ⟨rfl, hyes⟩
  · exact pr_i (fun z => absurd z (by decide)) (fun _ => bad hno)
  · refine pr_i (fun _ => ?_) (fun z => absurd rfl z)
    have ok : seOK s m := Classical.not_not.mp hyes
    unfold f_X12_saves_J18 svA
    rw [if_pos ok]
    exact v_is0 n σ (v_saves_L n ok n 0 _ 0 0 rfl (by omega))
theorem k_saves_L (n : Nat) (hn : 70000 ≤ n) (x : Nat) (σ : ms_T) {s m : Int32} (h : seOK s m) : ∀ (d k : Nat) (α : hp_T) (aI kI : Int32), kI.toInt = (k : Int) → k ≤ 30 → 31 - k ≤ d → ws (f_X11_saves_L26 n x d α s m aI kI) (fun res => res.1 = svI s.toInt.toNat m.toInt.toNat (30 - k) k aI - Int32.ofNat (buT s.toInt.toNat 31 0 m.toInt.toNat).length) := by
  obtain ⟨q1, q2, q3⟩ := seOK_S h
  have hlen := buT_len n hn σ q1 q2 m q3
  intro d
  induction d with
  | zero => intro k α aI kI _ hk hd; omega
  | succ d ih =>
    intro k α aI kI hk hk30 hd
    have t30 : (30 : Int32).toInt = 30 := by decide
    rw [f_X11_saves_L26.eq_2]
    have e1 : (kI + 1).toInt = ((k + 1 : Nat) : Int) := by rw [iw_add, lt1]; omega
    unfold f_X11_saves_J63
    refine ws_le (fun c => ws_l ?_) (fun c => ?_)
    · rw [t30] at c
      have : k = 30 := by omega
      subst this
      refine ws_b (k_toBundle n hn α _ q1 q2 m q3 hlen) (fun β hβ => ws_l (ws_l ?_))
      rw [hβ.2.1, i_ofN hβ.1.1]
      exact ws_hc (k_answer n β x _) (fun z γ hz => ws_s hz.1)
    · rw [t30] at c
      have ek : 30 - k = (30 - (k + 1)) + 1 := by omega
      refine ws_b (k_has n q1 q2 hk (m := 1) (mI := 1) (by decide)) (fun r hr => ?_)
      rw [hasB_1] at hr
      rw [ek, svI]
      cases hb : s.toInt.toNat.testBit k with
      | false =>
        rw [hb, if_neg (by decide)] at hr
        subst hr
        refine ws_i (fun _ => ws_l ?_) (fun z => absurd rfl z)
        rw [if_neg (show ¬ false = true by decide)]
        exact ih (k + 1) α aI _ e1 (by omega) (by omega)
      | true =>
        rw [hb, if_pos rfl] at hr
        subst hr
        refine ws_i (fun z => absurd z (by decide)) (fun _ => ws_l ?_)
        rw [if_pos (show true = true from rfl)]
        have hlt := se_lt h hb
        refine ws_b (k_toThing n hn α _ kI m (by omega) (by omega)) (fun β hβ => ws_l (ws_l (ws_l (ws_l ?_))))
        have hn' : hp_I β 453 (hp_R β 612 x) = Int32.ofNat (wyT 31 k 0 m.toInt.toNat).length := by
          rw [hβ.2.1, WC_n hβ.1, show kI.toInt.toNat = k by omega]
        rw [hn']
        exact ih (k + 1) β _ _ e1 (by omega) (by omega)
theorem k_saves (n : Nat) (hn : 70000 ≤ n) (α : hp_T) (x : Nat) (σ : ms_T) (s m : Int32) : ws (f_X11_saves n α x s m) (fun res => res.1 = svA s m) := by
  have bad : ¬ seOK s m → ws (f_X11_saves_J15 n x α) (fun res => res.1 = svA s m) := fun no => by
    unfold f_X11_saves_J15 svA
    rw [if_neg no]
    exact ws_hc (k_refuse n α x 1) (fun z γ hz => ws_s hz.1)
  unfold f_X11_saves
  refine ws_b (k_isSet n s) (fun r hr => ?_)
  rcases hr with ⟨rfl, hs⟩ | ⟨rfl, hs⟩
  · refine ws_i (fun z => absurd z (by decide)) (fun _ => ws_b (k_lieBelow n s m hs) (fun r hr2 => ?_))
    rcases hr2 with ⟨rfl, hse⟩ | ⟨rfl, hse⟩
    · refine ws_i (fun z => absurd z (by decide)) (fun _ => ?_)
      unfold svA
      rw [if_pos hse]
      exact k_saves_L n hn x σ hse n 0 α 0 0 rfl (by omega) (by omega)
    · exact ws_i (fun _ => bad hse) (fun z => absurd rfl z)
  · exact ws_i (fun _ => bad (fun q => hs q.1)) (fun z => absurd rfl z)
end JN9_2
