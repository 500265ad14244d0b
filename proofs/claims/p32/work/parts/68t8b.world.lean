set_option maxRecDepth 100000
/-! ===== the loops of a world's constructor ===== -/
def LGQ (β : hp_T) (L : Nat) : Prop := hp_R β 150 L = L + 1 ∧ hp_R β 151 L = L + 2 ∧ hp_I β 152 L = 0 ∧ ∀ i, i < 48 → hp_Q β 28 (L + 1) i = some (L + 3 + 2 * i) ∧ hp_R β 500 (L + 3 + 2 * i) = L + 3 + 2 * i + 1
theorem LGQ_sa {β γ : hp_T} {L : Nat} (h : LGQ β L) (s : ∀ b, L ≤ b → b < L + 99 → sa β γ b) : LGQ γ L := by
  obtain ⟨h1, h2, h3, h4⟩ := h
  have sL := s L (by omega) (by omega)
  refine ⟨(sL.2.2.2.1 150).trans h1, (sL.2.2.2.1 151).trans h2, (sL.2.1 152).trans h3, fun i hi => ⟨?_, ?_⟩⟩
  · rw [(s (L + 1) (by omega) (by omega)).2.2.2.2.2.2.2 28 i]; exact (h4 i hi).1
  · rw [(s (L + 3 + 2 * i) (by omega) (by omega)).2.2.2.1 500]; exact (h4 i hi).2
def WI (α : hp_T) (h a T jl jf jw : Nat) (β : hp_T) : Prop := (∀ b, b ≠ a → b < h ∨ h + T ≤ b → sa α β b) ∧ (hp_N β 551 a = some h ∧ hp_N β 553 a = some (h + 1) ∧ hp_N β 555 a = some (h + 2) ∧ hp_N β 557 a = some (h + 3) ∧ hp_N β 558 a = some (h + 4) ∧ hp_N β 559 a = some (h + 6)) ∧ (hp_I β 550 a = 65521 ∧ hp_I β 552 a = 1 ∧ hp_I β 554 a = 0 ∧ hp_I β 556 a = 0) ∧ (hp_R β 300 (h + 4) = h + 5 ∧ hp_R β 450 (h + 6) = h + 7 ∧ hp_R β 451 (h + 6) = h + 8 ∧ hp_R β 452 (h + 6) = h + 9) ∧ (∀ r, r < jl → hp_Q β 30 h r = some (h + (10 + 99 * r)) ∧ LGQ β (h + (10 + 99 * r))) ∧ (∀ i, i < jf → hp_Q β 31 (h + 1) i = some (h + (406 + 3 * i)) ∧ hp_R β 104 (h + (406 + 3 * i)) = h + (406 + 3 * i) + 1 ∧ hp_R β 300 (h + (406 + 3 * i) + 1) = h + (406 + 3 * i) + 2) ∧ ∀ i, i < jw → hp_Q β 32 (h + 2) i = some (h + (454 + i)) ∧ hp_I β 400 (h + (454 + i)) = 0 ∧ hp_I β 401 (h + (454 + i)) = 0 ∧ hp_I β 402 (h + (454 + i)) = 0 ∧ hp_I β 403 (h + (454 + i)) = 0
theorem WI_step {α β γ : hp_T} {h a T T' jl jf jw row κ j : Nat} (ha : a < h) (g : WI α h a T jl jf jw β) (hT : T ≤ T') (h10 : 10 ≤ T) (hl : ∀ r, r < jl → 109 + 99 * r ≤ T) (hf : ∀ i, i < jf → 409 + 3 * i ≤ T) (hw : ∀ i, i < jw → 455 + i ≤ T) (hr1 : h ≤ row) (hr2 : row ≤ h + 2) (k30 : ∀ r, r < jl → row = h → ¬ (30 = κ ∧ r = j)) (k31 : ∀ r, r < jf → row = h + 1 → ¬ (31 = κ ∧ r = j)) (k32 : ∀ r, r < jw → row = h + 2 → ¬ (32 = κ ∧ r = j)) (s1 : ∀ b, b ≠ row → b < h + T ∨ h + T' ≤ b → sa β γ b) (s2 : ∀ κ' i, ¬ (κ' = κ ∧ i = j) → hp_Q γ κ' row i = hp_Q β κ' row i) : WI α h a T' jl jf jw γ := by
  have sA := s1 a (by omega) (Or.inl (by omega))
  have s4 := s1 (h + 4) (by omega) (Or.inl (by omega))
  have s6 := s1 (h + 6) (by omega) (Or.inl (by omega))
  have sO : ∀ b, b ≠ a → b < h ∨ h + T' ≤ b → (b < h ∨ h + T ≤ b) ∧ sa β γ b := fun b hb hq => by
    rcases hq with q | q
    · exact ⟨Or.inl q, s1 b (by omega) (Or.inl (by omega))⟩
    · exact ⟨Or.inr (by omega), s1 b (by omega) (Or.inr q)⟩
  have sL : ∀ b, h + 3 ≤ b → b < h + T → sa β γ b := fun b p q => s1 b (by omega) (Or.inl q)
  have q30 : ∀ r, r < jl → hp_Q γ 30 h r = hp_Q β 30 h r := fun r hr => by
    by_cases e : row = h
    · have := s2 30 r (k30 r hr e); rw [e] at this; exact this
    · exact (s1 h (fun z => e z.symm) (Or.inl (by omega))).2.2.2.2.2.2.2 30 r
  have q31 : ∀ r, r < jf → hp_Q γ 31 (h + 1) r = hp_Q β 31 (h + 1) r := fun r hr => by
    by_cases e : row = h + 1
    · have := s2 31 r (k31 r hr e); rw [e] at this; exact this
    · exact (s1 (h + 1) (fun z => e z.symm) (Or.inl (by omega))).2.2.2.2.2.2.2 31 r
  have q32 : ∀ r, r < jw → hp_Q γ 32 (h + 2) r = hp_Q β 32 (h + 2) r := fun r hr => by
    by_cases e : row = h + 2
    · have := s2 32 r (k32 r hr e); rw [e] at this; exact this
    · exact (s1 (h + 2) (fun z => e z.symm) (Or.inl (by omega))).2.2.2.2.2.2.2 32 r
  have lL : ∀ r, r < jl → ∀ b, h + (10 + 99 * r) ≤ b → b < h + (10 + 99 * r) + 99 → sa β γ b := fun r hr b p q => sL b (by omega) (by have := hl r hr; omega)
  have lF : ∀ r, r < jf → ∀ b, h + (406 + 3 * r) ≤ b → b < h + (406 + 3 * r) + 3 → sa β γ b := fun r hr b p q => sL b (by omega) (by have := hf r hr; omega)
  have lW : ∀ r, r < jw → sa β γ (h + (454 + r)) := fun r hr => sL _ (by omega) (by have := hw r hr; omega)
  clear s1 s2 k30 k31 k32 hl hf hw sL
  obtain ⟨g1, ⟨n1, n2, n3, n4, n5, n6⟩, ⟨i1, i2, i3, i4⟩, ⟨r1, r2, r3, r4⟩, gl, gf, gw⟩ := g
  have N := sA.2.2.2.2.1
  have I := sA.2.1
  refine ⟨fun b hb hq => sa_tr (g1 b hb (sO b hb hq).1) (sO b hb hq).2, ⟨(N 551).trans n1, (N 553).trans n2, (N 555).trans n3, (N 557).trans n4, (N 558).trans n5, (N 559).trans n6⟩, ⟨(I 550).trans i1, (I 552).trans i2, (I 554).trans i3, (I 556).trans i4⟩, ⟨(s4.2.2.2.1 300).trans r1, (s6.2.2.2.1 450).trans r2, (s6.2.2.2.1 451).trans r3, (s6.2.2.2.1 452).trans r4⟩, fun r hr => ⟨(q30 r hr).trans (gl r hr).1, LGQ_sa (gl r hr).2 (lL r hr)⟩, fun i hi => ⟨(q31 i hi).trans (gf i hi).1, ?_, ?_⟩, fun i hi => ?_⟩
  · exact ((lF i hi (h + (406 + 3 * i)) (Nat.le_refl _) (Nat.lt_add_of_pos_right (by decide))).2.2.2.1 104).trans (gf i hi).2.1
  · exact ((lF i hi (h + (406 + 3 * i) + 1) (Nat.le_succ _) (Nat.add_lt_add_left (by decide) _)).2.2.2.1 300).trans (gf i hi).2.2
  · obtain ⟨q1, q2, q3, q4, q5⟩ := gw i hi
    have sw := lW i hi
    exact ⟨(q32 i hi).trans q1, (sw.2.1 400).trans q2, (sw.2.1 401).trans q3, (sw.2.1 402).trans q4, (sw.2.1 403).trans q5⟩
theorem sQ_o {α : hp_T} {κ a j κ' b i : Nat} {v : Option Nat} (h : ¬ (κ' = κ ∧ i = j)) : hp_Q (hp_sQ α κ a j v) κ' b i = hp_Q α κ' b i := by
  simp only [hp_Q, hp_sQ, hp_uq]
  rw [if_neg (fun q => h ⟨q.1, q.2.2⟩)]
theorem WI_0 (α : hp_T) (h a : Nat) (ha : a < h) : WI α h a 10 0 0 0 (F_X10_init_18 α h a) :=
  ⟨fun b hb hq => fr18 α h a ha b hb hq, ⟨f18_551 α h a ha, f18_553 α h a ha, f18_555 α h a ha, f18_557 α h a ha, f18_558 α h a ha, f18_559 α h a ha⟩, ⟨f18_550 α h a ha, f18_552 α h a ha, f18_554 α h a ha, f18_556 α h a ha⟩, ⟨f18_300 α h a ha, f18_450 α h a ha, f18_451 α h a ha, f18_452 α h a ha⟩, fun r hr => by omega, fun i hi => by omega, fun i hi => by omega⟩
theorem WI_l (α : hp_T) (h a : Nat) (ha : a < h) : ∀ j, WI α h a (10 + 99 * j) j 0 0 (FL_X10_init_82 α h a j) := by
  intro j
  induction j with
  | zero =>
    rw [FL_X10_init_82]
    exact WI_0 α h a ha
  | succ j ih =>
    obtain ⟨β, hβ⟩ : ∃ β, β = FL_X10_init_82 α h a j := ⟨_, rfl⟩
    rw [← hβ] at ih
    have hF : FL_X10_init_82 α h a (j + 1) = hp_sQ (F_X2_init (hp_nw β (h + (10 + 99 * j)) 103) (h + (10 + 99 * j + 1)) (h + (10 + 99 * j))) 30 h j (some (h + (10 + 99 * j))) := by
      rw [FL_X10_init_82, ← hβ, ih.2.1.1]; rfl
    obtain ⟨l1, l2, l3, l4, l5⟩ := LG_f (hp_nw β (h + (10 + 99 * j)) 103) (h + (10 + 99 * j + 1)) (h + (10 + 99 * j)) (by omega)
    obtain ⟨γ, hγ⟩ : ∃ γ, γ = F_X2_init (hp_nw β (h + (10 + 99 * j)) 103) (h + (10 + 99 * j + 1)) (h + (10 + 99 * j)) := ⟨_, rfl⟩
    rw [← hγ] at l1 l2 l3 l4 l5 hF
    rw [hF]
    have s0 : ∀ b, b < h + (10 + 99 * j) ∨ h + (10 + 99 * (j + 1)) ≤ b → sa β γ b := fun b hb => sa_tr (sa_nw (by omega)) (l1 b (by omega) (by omega))
    have hs := WI_step (γ := hp_sQ γ 30 h j (some (h + (10 + 99 * j)))) (T' := 10 + 99 * (j + 1)) (row := h) (κ := 30) (j := j) ha ih (by omega) (by omega) (fun r hr => by omega) (fun r hr => absurd hr (Nat.not_lt_zero r)) (fun r hr => absurd hr (Nat.not_lt_zero r)) (Nat.le_refl _) (by omega) (fun r hr _ q => by omega) (fun r hr => absurd hr (Nat.not_lt_zero r)) (fun r hr => absurd hr (Nat.not_lt_zero r)) (fun b h1 h2 => sa_tr (s0 b (by omega)) (sa_sQ h1)) (fun κ' i hq => by rw [sQ_o hq, (s0 h (by omega)).2.2.2.2.2.2.2 κ' i])
    obtain ⟨a1, a2, a3, a4, a5, a6, a7⟩ := hs
    refine ⟨a1, a2, a3, a4, fun r hr => ?_, a6, a7⟩
    by_cases e : r = j
    · subst e
      refine ⟨sQ_at, ?_, ?_, ?_, fun i hi => ⟨?_, ?_⟩⟩
      · show hp_R γ 150 _ = _
        rw [l2]; omega
      · show hp_R γ 151 _ = _
        rw [l3]; omega
      · exact l4
      · rw [sQ_o (by omega)]
        have := (l5 i hi).1
        rw [show h + (10 + 99 * r + 1) = h + (10 + 99 * r) + 1 by omega, show h + (10 + 99 * r) + 1 + (2 + 2 * i) = h + (10 + 99 * r) + 3 + 2 * i by omega] at this
        exact this
      · show hp_R γ 500 _ = _
        have := (l5 i hi).2
        rw [show h + (10 + 99 * r + 1) + (2 + 2 * i) = h + (10 + 99 * r) + 3 + 2 * i by omega] at this
        exact this
    · exact a5 r (by omega)
theorem WI_f (α : hp_T) (h a : Nat) (ha : a < h) : ∀ j, WI α h a (406 + 3 * j) 4 j 0 (FL_X10_init_112 α h a j) := by
  intro j
  induction j with
  | zero =>
    rw [FL_X10_init_112]
    have q := WI_l α h a ha 4
    generalize FL_X10_init_82 α h a 4 = β at q ⊢
    exact q
  | succ j ih =>
    obtain ⟨β, hβ⟩ : ∃ β, β = FL_X10_init_112 α h a j := ⟨_, rfl⟩
    rw [← hβ] at ih
    have hF : FL_X10_init_112 α h a (j + 1) = hp_sQ (F_X1_init (hp_nw β (h + (406 + 3 * j)) 102) (h + (406 + 3 * j + 1)) (h + (406 + 3 * j))) 31 (h + 1) j (some (h + (406 + 3 * j))) := by
      rw [FL_X10_init_112, ← hβ, ih.2.1.2.1]; rfl
    have l1 := fr_X1 (hp_nw β (h + (406 + 3 * j)) 102) (h + (406 + 3 * j + 1)) (h + (406 + 3 * j)) (by omega)
    have l2 := fd_X1_104 (hp_nw β (h + (406 + 3 * j)) 102) (h + (406 + 3 * j + 1)) (h + (406 + 3 * j)) (by omega)
    have l3 := in_X1_300 (hp_nw β (h + (406 + 3 * j)) 102) (h + (406 + 3 * j + 1)) (h + (406 + 3 * j)) (by omega)
    obtain ⟨γ, hγ⟩ : ∃ γ, γ = F_X1_init (hp_nw β (h + (406 + 3 * j)) 102) (h + (406 + 3 * j + 1)) (h + (406 + 3 * j)) := ⟨_, rfl⟩
    rw [← hγ] at l1 l2 l3 hF
    rw [hF]
    have s0 : ∀ b, b < h + (406 + 3 * j) ∨ h + (406 + 3 * (j + 1)) ≤ b → sa β γ b := fun b hb => sa_tr (sa_nw (by omega)) (l1 b (by omega) (by omega))
    have hs := WI_step (γ := hp_sQ γ 31 (h + 1) j (some (h + (406 + 3 * j)))) (T' := 406 + 3 * (j + 1)) (row := h + 1) (κ := 31) (j := j) ha ih (by omega) (by omega) (fun r hr => by omega) (fun r hr => by omega) (fun r hr => absurd hr (Nat.not_lt_zero r)) (by omega) (by omega) (fun r hr _ q => absurd q.1 (by decide)) (fun r hr _ q => by omega) (fun r hr => absurd hr (Nat.not_lt_zero r)) (fun b h1 h2 => sa_tr (s0 b (by omega)) (sa_sQ h1)) (fun κ' i hq => by rw [sQ_o hq, (s0 (h + 1) (by omega)).2.2.2.2.2.2.2 κ' i])
    obtain ⟨a1, a2, a3, a4, a5, a6, a7⟩ := hs
    refine ⟨a1, a2, a3, a4, a5, fun i hi => ?_, a7⟩
    by_cases e : i = j
    · subst e
      refine ⟨sQ_at, ?_, ?_⟩
      · show hp_R γ 104 _ = _
        rw [l2]; omega
      · show hp_R γ 300 _ = _
        rw [show h + (406 + 3 * i) + 1 = h + (406 + 3 * i + 1) + 0 by omega, l3]; omega
    · exact a6 i (by omega)
theorem WI_w (α : hp_T) (h a : Nat) (ha : a < h) : ∀ j, WI α h a (454 + j) 4 16 j (FL_X10_init_142 α h a j) := by
  intro j
  induction j with
  | zero =>
    rw [FL_X10_init_142]
    have q := WI_f α h a ha 16
    generalize FL_X10_init_112 α h a 16 = β at q ⊢
    exact q
  | succ j ih =>
    obtain ⟨β, hβ⟩ : ∃ β, β = FL_X10_init_142 α h a j := ⟨_, rfl⟩
    rw [← hβ] at ih
    have hF : FL_X10_init_142 α h a (j + 1) = hp_sQ (F_X7_init (hp_nw β (h + (454 + 1 * j)) 108) (h + (454 + 1 * j + 1)) (h + (454 + 1 * j))) 32 (h + 2) j (some (h + (454 + 1 * j))) := by
      rw [FL_X10_init_142, ← hβ, ih.2.1.2.2.1]; rfl
    rw [Nat.one_mul] at hF
    have l1 := fr_X7 (hp_nw β (h + (454 + j)) 108) (h + (454 + j + 1)) (h + (454 + j)) (by omega)
    have i0 := fd_X7_400 (hp_nw β (h + (454 + j)) 108) (h + (454 + j + 1)) (h + (454 + j)) (by omega)
    have i1 := fd_X7_401 (hp_nw β (h + (454 + j)) 108) (h + (454 + j + 1)) (h + (454 + j)) (by omega)
    have i2 := fd_X7_402 (hp_nw β (h + (454 + j)) 108) (h + (454 + j + 1)) (h + (454 + j)) (by omega)
    have i3 := fd_X7_403 (hp_nw β (h + (454 + j)) 108) (h + (454 + j + 1)) (h + (454 + j)) (by omega)
    obtain ⟨γ, hγ⟩ : ∃ γ, γ = F_X7_init (hp_nw β (h + (454 + j)) 108) (h + (454 + j + 1)) (h + (454 + j)) := ⟨_, rfl⟩
    rw [← hγ] at l1 i0 i1 i2 i3 hF
    rw [hF]
    have s0 : ∀ b, b ≠ h + (454 + j) → sa β γ b := fun b hb => sa_tr (sa_nw hb) (l1 b hb (by omega))
    have hs := WI_step (γ := hp_sQ γ 32 (h + 2) j (some (h + (454 + j)))) (T' := 454 + (j + 1)) (row := h + 2) (κ := 32) (j := j) ha ih (by omega) (by omega) (fun r hr => by omega) (fun r hr => by omega) (fun r hr => by omega) (by omega) (by omega) (fun r hr _ q => absurd q.1 (by decide)) (fun r hr _ q => absurd q.1 (by decide)) (fun r hr _ q => by omega) (fun b h1 h2 => sa_tr (s0 b (by omega)) (sa_sQ h1)) (fun κ' i hq => by rw [sQ_o hq, (s0 (h + 2) (by omega)).2.2.2.2.2.2.2 κ' i])
    obtain ⟨a1, a2, a3, a4, a5, a6, a7⟩ := hs
    refine ⟨a1, a2, a3, a4, a5, a6, fun i hi => ?_⟩
    by_cases e : i = j
    · subst e
      exact ⟨sQ_at, i0, i1, i2, i3⟩
    · exact a7 i (by omega)
theorem fr_X10 (α : hp_T) (h a : Nat) (ha : a < h) (b : Nat) (hb : b ≠ a) (hq : b < h ∨ h + 458 ≤ b) : sa α (F_X10_init α h a) b :=
  sa_tr ((WI_w α h a ha 4).1 b hb (by omega)) (sa_cv hb)
theorem hI_cv {α : hp_T} {a κ φ b : Nat} : hp_I (hp_cv α a κ) φ b = hp_I α φ b := rfl
/-- a new world -/
def NW (β : hp_T) (w : Nat) : Prop := SHW β w ∧ (hp_I β 550 w = 65521 ∧ hp_I β 552 w = 1 ∧ hp_I β 554 w = 0 ∧ hp_I β 556 w = 0) ∧ hp_I β 152 (lpA w 0) = 0 ∧ ∀ i, i < 4 → hp_I β 400 (wtA w i) = 0 ∧ hp_I β 401 (wtA w i) = 0 ∧ hp_I β 402 (wtA w i) = 0 ∧ hp_I β 403 (wtA w i) = 0
theorem NW_0 (α : hp_T) (w : Nat) : NW (F_X10_init α (w + 1) w) w := by
  obtain ⟨g1, ⟨n1, n2, n3, n4, n5, n6⟩, ⟨i1, i2, i3, i4⟩, ⟨r1, r2, r3, r4⟩, gl, gf, gw⟩ := WI_w α (w + 1) w (by omega) 4
  have c : ∀ b, b ≠ w → sa (FL_X10_init_142 α (w + 1) w 4) (F_X10_init α (w + 1) w) b := fun b hb => sa_cv hb
  refine ⟨⟨cv_R n1, cv_R n2, cv_R n3, cv_R n4, cv_R n5, cv_R n6, fun r hr => ?_, fun i hi => ?_, fun i hi => ?_, ?_, ⟨?_, ?_, ?_⟩, fun r hr => ?_, fun i hi => ?_⟩, ⟨hI_cv.trans i1, hI_cv.trans i2, hI_cv.trans i3, hI_cv.trans i4⟩, ?_, fun i hi => ?_⟩
  · have := (gl r hr).1
    rw [show w + 1 + (10 + 99 * r) = lpA w r by unfold lpA; omega] at this
    rw [(c (w + 1) (by omega)).2.2.2.2.2.2.2 30 r]; exact this
  · have := (gf i hi).1
    rw [show w + 1 + (406 + 3 * i) = fzA w i by unfold fzA; omega] at this
    rw [(c (w + 2) (by omega)).2.2.2.2.2.2.2 31 i]; exact this
  · have := (gw i hi).1
    rw [show w + 1 + (454 + i) = wtA w i by unfold wtA; omega] at this
    rw [(c (w + 3) (by omega)).2.2.2.2.2.2.2 32 i]; exact this
  · rw [(c (w + 5) (by omega)).2.2.2.1 300]; exact r1
  · rw [(c (w + 7) (by omega)).2.2.2.1 450]; exact r2
  · rw [(c (w + 7) (by omega)).2.2.2.1 451]; exact r3
  · rw [(c (w + 7) (by omega)).2.2.2.1 452]; exact r4
  · have hL := (gl r hr).2
    rw [show w + 1 + (10 + 99 * r) = lpA w r by unfold lpA; omega] at hL
    obtain ⟨q1, q2, q3, q4⟩ := LGQ_sa hL (fun b p q => c b (by unfold lpA at p; omega))
    refine ⟨q1, q2, fun i hi => ?_⟩
    have q5 := q4 i hi
    rw [show lpA w r + 3 + 2 * i = wdA w r i by unfold lpA wdA; omega] at q5
    exact q5
  · have hz := gf i hi
    rw [show w + 1 + (406 + 3 * i) = fzA w i by unfold fzA; omega] at hz
    exact ⟨((c (fzA w i) (by unfold fzA; omega)).2.2.2.1 104).trans hz.2.1, ((c (fzA w i + 1) (by unfold fzA; omega)).2.2.2.1 300).trans hz.2.2⟩
  · have hL := (gl 0 (by omega)).2
    rw [show w + 1 + (10 + 99 * 0) = lpA w 0 by unfold lpA; omega] at hL
    exact hI_cv.trans hL.2.2.1
  · have hz := gw i hi
    rw [show w + 1 + (454 + i) = wtA w i by unfold wtA; omega] at hz
    exact ⟨hI_cv.trans hz.2.1, hI_cv.trans hz.2.2.1, hI_cv.trans hz.2.2.2.1, hI_cv.trans hz.2.2.2.2⟩
theorem NW_sa {β γ : hp_T} {w : Nat} (h : NW β w) (s : ∀ b, w ≤ b → b < w + 459 → sa β γ b) : NW γ w := by
  obtain ⟨h1, ⟨i1, i2, i3, i4⟩, h3, h4⟩ := h
  have sw := s w (by omega) (by omega)
  refine ⟨SHW_z h1 (fun φ b p q _ => (s b p q).2.2.2.1 φ) (fun κ b j p q => (s b p q).2.2.2.2.2.2.2 κ j), ⟨(sw.2.1 550).trans i1, (sw.2.1 552).trans i2, (sw.2.1 554).trans i3, (sw.2.1 556).trans i4⟩, ((s _ (by unfold lpA; omega) (by unfold lpA; omega)).2.1 152).trans h3, fun i hi => ?_⟩
  have st := s (wtA w i) (by unfold wtA; omega) (by unfold wtA; omega)
  obtain ⟨q1, q2, q3, q4⟩ := h4 i hi
  exact ⟨(st.2.1 400).trans q1, (st.2.1 401).trans q2, (st.2.1 402).trans q3, (st.2.1 403).trans q4⟩
