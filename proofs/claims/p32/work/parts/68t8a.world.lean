set_option maxRecDepth 100000
/-! ===== what the constructors of records and worlds make ===== -/
theorem sQ_at {α : hp_T} {κ a j : Nat} {v : Option Nat} : hp_Q (hp_sQ α κ a j v) κ a j = v := by simp [hp_Q, hp_sQ, hp_uq]
theorem sQ_ne {α : hp_T} {κ a j i : Nat} {v : Option Nat} (h : i ≠ j) : hp_Q (hp_sQ α κ a j v) κ a i = hp_Q α κ a i := by simp [hp_Q, hp_sQ, hp_uq, h]
def LG (α : hp_T) (h a j : Nat) (β : hp_T) : Prop := (∀ b, b ≠ a → b < h ∨ h + (2 + 2 * j) ≤ b → sa α β b) ∧ hp_N β 150 a = some h ∧ hp_N β 151 a = some (h + 1) ∧ hp_I β 152 a = 0 ∧ ∀ i, i < j → hp_Q β 28 h i = some (h + (2 + 2 * i)) ∧ hp_R β 500 (h + (2 + 2 * i)) = h + (2 + 2 * i) + 1
theorem LG_0 (α : hp_T) (h a : Nat) (ha : a < h) : LG α h a 0 (FL_X2_init_28 α h a 0) := by
  show LG α h a 0 (F_X2_init_5 α h a)
  have n1 : sa α (F_X2_init_1 α h a) a := sa_nw (α := α) (h := h + 0) (κ := 28) (by omega)
  have n3 : sa (F_X2_init_2 α h a) (F_X2_init_3 α h a) a := sa_nw (h := h + 1) (κ := 29) (by omega)
  refine ⟨fun b hb hq => ?_, ?_, ?_, ?_, fun i hi => by omega⟩
  · exact sa_tr (sa_nw (α := α) (h := h + 0) (κ := 28) (by omega)) (sa_tr (sa_sN hb) (sa_tr (sa_nw (α := F_X2_init_2 α h a) (h := h + 1) (κ := 29) (by omega)) (sa_tr (sa_sN hb) (sa_sI hb))))
  · have e1 : hp_N (F_X2_init_5 α h a) 150 a = hp_N (F_X2_init_3 α h a) 150 a := hN_sI.trans (sN_ne (by decide))
    rw [e1, n3.2.2.2.2.1 150]
    exact sN_at
  · have e1 : hp_N (F_X2_init_5 α h a) 151 a = hp_N (F_X2_init_4 α h a) 151 a := hN_sI
    rw [e1]
    exact sN_at
  · exact hp_I_at
theorem LG_s (α : hp_T) (h a : Nat) (ha : a < h) (j : Nat) (g : LG α h a j (FL_X2_init_28 α h a j)) : LG α h a (j + 1) (FL_X2_init_28 α h a (j + 1)) := by
  obtain ⟨g1, g2, g3, g4, g5⟩ := g
  obtain ⟨β, hβ⟩ : ∃ β, β = FL_X2_init_28 α h a j := ⟨_, rfl⟩
  have hF : FL_X2_init_28 α h a (j + 1) = hp_sQ (F_X9_init (hp_nw β (h + (2 + 2 * j)) 110) (h + (2 + 2 * j + 1)) (h + (2 + 2 * j))) 28 h j (some (h + (2 + 2 * j))) := by
    rw [FL_X2_init_28, ← hβ]
    rw [← hβ] at g2
    rw [g2]; rfl
  rw [← hβ] at g1 g2 g3 g4 g5
  rw [hF]
  have s1 : ∀ b, b ≠ h + (2 + 2 * j) → b < h + (2 + 2 * j + 1) ∨ h + (2 + 2 * j + 1) + 1 ≤ b → sa β (F_X9_init (hp_nw β (h + (2 + 2 * j)) 110) (h + (2 + 2 * j + 1)) (h + (2 + 2 * j))) b := fun b h1 h2 => sa_tr (sa_nw h1) (fr_X9 _ _ _ (by omega) b h1 h2)
  have s2 : ∀ b, b ≠ h → b ≠ h + (2 + 2 * j) → b < h + (2 + 2 * j + 1) ∨ h + (2 + 2 * j + 1) + 1 ≤ b → sa β (hp_sQ (F_X9_init (hp_nw β (h + (2 + 2 * j)) 110) (h + (2 + 2 * j + 1)) (h + (2 + 2 * j))) 28 h j (some (h + (2 + 2 * j)))) b := fun b h0 h1 h2 => sa_tr (s1 b h1 h2) (sa_sQ h0)
  have sA := s2 a (by omega) (by omega) (by omega)
  refine ⟨fun b hb hq => sa_tr (g1 b hb (by omega)) (s2 b (by omega) (by omega) (by omega)), (sA.2.2.2.2.1 150).trans g2, (sA.2.2.2.2.1 151).trans g3, (sA.2.1 152).trans g4, fun i hi => ?_⟩
  by_cases e : i = j
  · subst e
    refine ⟨sQ_at, ?_⟩
    show hp_R (F_X9_init (hp_nw β (h + (2 + 2 * i)) 110) (h + (2 + 2 * i + 1)) (h + (2 + 2 * i))) 500 (h + (2 + 2 * i)) = _
    rw [fd_X9_500 _ _ _ (by omega)]; omega
  · obtain ⟨q1, q2⟩ := g5 i (by omega)
    refine ⟨?_, ?_⟩
    · rw [sQ_ne e, (s1 h (by omega) (by omega)).2.2.2.2.2.2.2 28 i]; exact q1
    · rw [(s2 (h + (2 + 2 * i)) (by omega) (by omega) (by omega)).2.2.2.1 500]; exact q2
theorem LG_a (α : hp_T) (h a : Nat) (ha : a < h) : ∀ j, LG α h a j (FL_X2_init_28 α h a j) := by
  intro j
  induction j with
  | zero => exact LG_0 α h a ha
  | succ j ih => exact LG_s α h a ha j ih
def LGF (α : hp_T) (h a : Nat) (β : hp_T) : Prop := (∀ b, b ≠ a → b < h ∨ h + 98 ≤ b → sa α β b) ∧ hp_R β 150 a = h ∧ hp_R β 151 a = h + 1 ∧ hp_I β 152 a = 0 ∧ ∀ i, i < 48 → hp_Q β 28 h i = some (h + (2 + 2 * i)) ∧ hp_R β 500 (h + (2 + 2 * i)) = h + (2 + 2 * i) + 1
theorem LG_f (α : hp_T) (h a : Nat) (ha : a < h) : LGF α h a (F_X2_init α h a) := by
  obtain ⟨g1, g2, g3, g4, g5⟩ := LG_a α h a ha 48
  have c : ∀ b, b ≠ a → sa (FL_X2_init_28 α h a 48) (F_X2_init α h a) b := fun b hb => sa_cv hb
  refine ⟨fun b hb hq => sa_tr (g1 b hb (by omega)) (c b hb), cv_R g2, cv_R g3, g4, fun i hi => ?_⟩
  obtain ⟨q1, q2⟩ := g5 i hi
  exact ⟨(c h (by omega)).2.2.2.2.2.2.2 28 i ▸ q1, ((c (h + (2 + 2 * i)) (by omega)).2.2.2.1 500).trans q2⟩
theorem so_X10_1 (α : hp_T) (h a b : Nat) (hb : b ≠ a)  : sa (F_X10_init_0 α h a) (F_X10_init_1 α h a) b := sa_sI hb
theorem ka_X10_2 (α : hp_T) (h a : Nat) (ha : a < h) (φ : Nat) : hp_N (F_X10_init_2 α h a) φ a = hp_N (F_X10_init_1 α h a) φ a ∧ hp_I (F_X10_init_2 α h a) φ a = hp_I (F_X10_init_1 α h a) φ a := by
  have q := sa_nw (α := (F_X10_init_1 α h a)) (h := h + (0)) (κ := 30) (b := a) (by omega)
  exact ⟨q.2.2.2.2.1 φ, q.2.1 φ⟩
theorem so_X10_2 (α : hp_T) (h a b : Nat) (hb : b ≠ a) (hb2 : b ≠ h + (0)) : sa (F_X10_init_1 α h a) (F_X10_init_2 α h a) b := sa_nw hb2
theorem ka_X10_3 (α : hp_T) (h a : Nat) (ha : a < h) (φ : Nat) (hφ : φ ≠ 551) : hp_N (F_X10_init_3 α h a) φ a = hp_N (F_X10_init_2 α h a) φ a ∧ hp_I (F_X10_init_3 α h a) φ a = hp_I (F_X10_init_2 α h a) φ a := ⟨sN_ne hφ, hI_sN⟩
theorem so_X10_3 (α : hp_T) (h a b : Nat) (hb : b ≠ a)  : sa (F_X10_init_2 α h a) (F_X10_init_3 α h a) b := sa_sN hb
theorem ka_X10_4 (α : hp_T) (h a : Nat) (ha : a < h) (φ : Nat) (hφ : φ ≠ 552) : hp_N (F_X10_init_4 α h a) φ a = hp_N (F_X10_init_3 α h a) φ a ∧ hp_I (F_X10_init_4 α h a) φ a = hp_I (F_X10_init_3 α h a) φ a := ⟨hN_sI, hp_I_ne hφ⟩
theorem so_X10_4 (α : hp_T) (h a b : Nat) (hb : b ≠ a)  : sa (F_X10_init_3 α h a) (F_X10_init_4 α h a) b := sa_sI hb
theorem ka_X10_5 (α : hp_T) (h a : Nat) (ha : a < h) (φ : Nat) : hp_N (F_X10_init_5 α h a) φ a = hp_N (F_X10_init_4 α h a) φ a ∧ hp_I (F_X10_init_5 α h a) φ a = hp_I (F_X10_init_4 α h a) φ a := by
  have q := sa_nw (α := (F_X10_init_4 α h a)) (h := h + (1)) (κ := 31) (b := a) (by omega)
  exact ⟨q.2.2.2.2.1 φ, q.2.1 φ⟩
theorem so_X10_5 (α : hp_T) (h a b : Nat) (hb : b ≠ a) (hb2 : b ≠ h + (1)) : sa (F_X10_init_4 α h a) (F_X10_init_5 α h a) b := sa_nw hb2
theorem ka_X10_6 (α : hp_T) (h a : Nat) (ha : a < h) (φ : Nat) (hφ : φ ≠ 553) : hp_N (F_X10_init_6 α h a) φ a = hp_N (F_X10_init_5 α h a) φ a ∧ hp_I (F_X10_init_6 α h a) φ a = hp_I (F_X10_init_5 α h a) φ a := ⟨sN_ne hφ, hI_sN⟩
theorem so_X10_6 (α : hp_T) (h a b : Nat) (hb : b ≠ a)  : sa (F_X10_init_5 α h a) (F_X10_init_6 α h a) b := sa_sN hb
theorem ka_X10_7 (α : hp_T) (h a : Nat) (ha : a < h) (φ : Nat) (hφ : φ ≠ 554) : hp_N (F_X10_init_7 α h a) φ a = hp_N (F_X10_init_6 α h a) φ a ∧ hp_I (F_X10_init_7 α h a) φ a = hp_I (F_X10_init_6 α h a) φ a := ⟨hN_sI, hp_I_ne hφ⟩
theorem so_X10_7 (α : hp_T) (h a b : Nat) (hb : b ≠ a)  : sa (F_X10_init_6 α h a) (F_X10_init_7 α h a) b := sa_sI hb
theorem ka_X10_8 (α : hp_T) (h a : Nat) (ha : a < h) (φ : Nat) : hp_N (F_X10_init_8 α h a) φ a = hp_N (F_X10_init_7 α h a) φ a ∧ hp_I (F_X10_init_8 α h a) φ a = hp_I (F_X10_init_7 α h a) φ a := by
  have q := sa_nw (α := (F_X10_init_7 α h a)) (h := h + (2)) (κ := 32) (b := a) (by omega)
  exact ⟨q.2.2.2.2.1 φ, q.2.1 φ⟩
theorem so_X10_8 (α : hp_T) (h a b : Nat) (hb : b ≠ a) (hb2 : b ≠ h + (2)) : sa (F_X10_init_7 α h a) (F_X10_init_8 α h a) b := sa_nw hb2
theorem ka_X10_9 (α : hp_T) (h a : Nat) (ha : a < h) (φ : Nat) (hφ : φ ≠ 555) : hp_N (F_X10_init_9 α h a) φ a = hp_N (F_X10_init_8 α h a) φ a ∧ hp_I (F_X10_init_9 α h a) φ a = hp_I (F_X10_init_8 α h a) φ a := ⟨sN_ne hφ, hI_sN⟩
theorem so_X10_9 (α : hp_T) (h a b : Nat) (hb : b ≠ a)  : sa (F_X10_init_8 α h a) (F_X10_init_9 α h a) b := sa_sN hb
theorem ka_X10_10 (α : hp_T) (h a : Nat) (ha : a < h) (φ : Nat) (hφ : φ ≠ 556) : hp_N (F_X10_init_10 α h a) φ a = hp_N (F_X10_init_9 α h a) φ a ∧ hp_I (F_X10_init_10 α h a) φ a = hp_I (F_X10_init_9 α h a) φ a := ⟨hN_sI, hp_I_ne hφ⟩
theorem so_X10_10 (α : hp_T) (h a b : Nat) (hb : b ≠ a)  : sa (F_X10_init_9 α h a) (F_X10_init_10 α h a) b := sa_sI hb
theorem ka_X10_11 (α : hp_T) (h a : Nat) (ha : a < h) (φ : Nat) : hp_N (F_X10_init_11 α h a) φ a = hp_N (F_X10_init_10 α h a) φ a ∧ hp_I (F_X10_init_11 α h a) φ a = hp_I (F_X10_init_10 α h a) φ a := by
  have q := sa_nw (α := (F_X10_init_10 α h a)) (h := h + (3)) (κ := 33) (b := a) (by omega)
  exact ⟨q.2.2.2.2.1 φ, q.2.1 φ⟩
theorem so_X10_11 (α : hp_T) (h a b : Nat) (hb : b ≠ a) (hb2 : b ≠ h + (3)) : sa (F_X10_init_10 α h a) (F_X10_init_11 α h a) b := sa_nw hb2
theorem ka_X10_12 (α : hp_T) (h a : Nat) (ha : a < h) (φ : Nat) (hφ : φ ≠ 557) : hp_N (F_X10_init_12 α h a) φ a = hp_N (F_X10_init_11 α h a) φ a ∧ hp_I (F_X10_init_12 α h a) φ a = hp_I (F_X10_init_11 α h a) φ a := ⟨sN_ne hφ, hI_sN⟩
theorem so_X10_12 (α : hp_T) (h a b : Nat) (hb : b ≠ a)  : sa (F_X10_init_11 α h a) (F_X10_init_12 α h a) b := sa_sN hb
theorem ka_X10_13 (α : hp_T) (h a : Nat) (ha : a < h) (φ : Nat) : hp_N (F_X10_init_13 α h a) φ a = hp_N (F_X10_init_12 α h a) φ a ∧ hp_I (F_X10_init_13 α h a) φ a = hp_I (F_X10_init_12 α h a) φ a := by
  have q := sa_nw (α := (F_X10_init_12 α h a)) (h := h + (4)) (κ := 106) (b := a) (by omega)
  exact ⟨q.2.2.2.2.1 φ, q.2.1 φ⟩
theorem so_X10_13 (α : hp_T) (h a b : Nat) (hb : b ≠ a) (hb2 : b ≠ h + (4)) : sa (F_X10_init_12 α h a) (F_X10_init_13 α h a) b := sa_nw hb2
theorem ka_X10_14 (α : hp_T) (h a : Nat) (ha : a < h) (φ : Nat) : hp_N (F_X10_init_14 α h a) φ a = hp_N (F_X10_init_13 α h a) φ a ∧ hp_I (F_X10_init_14 α h a) φ a = hp_I (F_X10_init_13 α h a) φ a := by
  have q := fr_X5 (F_X10_init_13 α h a) (h + (5)) (h + (4)) (by omega) a (by omega) (by omega)
  exact ⟨q.2.2.2.2.1 φ, q.2.1 φ⟩
theorem so_X10_14 (α : hp_T) (h a b : Nat) (hb : b ≠ a) (hb2 : b ≠ h + (4)) (hb3 : b < h + (5) ∨ h + (5) + 1 ≤ b) : sa (F_X10_init_13 α h a) (F_X10_init_14 α h a) b := fr_X5 (F_X10_init_13 α h a) (h + (5)) (h + (4)) (by omega) b hb2 hb3
theorem ka_X10_15 (α : hp_T) (h a : Nat) (ha : a < h) (φ : Nat) (hφ : φ ≠ 558) : hp_N (F_X10_init_15 α h a) φ a = hp_N (F_X10_init_14 α h a) φ a ∧ hp_I (F_X10_init_15 α h a) φ a = hp_I (F_X10_init_14 α h a) φ a := ⟨sN_ne hφ, hI_sN⟩
theorem so_X10_15 (α : hp_T) (h a b : Nat) (hb : b ≠ a)  : sa (F_X10_init_14 α h a) (F_X10_init_15 α h a) b := sa_sN hb
theorem ka_X10_16 (α : hp_T) (h a : Nat) (ha : a < h) (φ : Nat) : hp_N (F_X10_init_16 α h a) φ a = hp_N (F_X10_init_15 α h a) φ a ∧ hp_I (F_X10_init_16 α h a) φ a = hp_I (F_X10_init_15 α h a) φ a := by
  have q := sa_nw (α := (F_X10_init_15 α h a)) (h := h + (6)) (κ := 109) (b := a) (by omega)
  exact ⟨q.2.2.2.2.1 φ, q.2.1 φ⟩
theorem so_X10_16 (α : hp_T) (h a b : Nat) (hb : b ≠ a) (hb2 : b ≠ h + (6)) : sa (F_X10_init_15 α h a) (F_X10_init_16 α h a) b := sa_nw hb2
theorem ka_X10_17 (α : hp_T) (h a : Nat) (ha : a < h) (φ : Nat) : hp_N (F_X10_init_17 α h a) φ a = hp_N (F_X10_init_16 α h a) φ a ∧ hp_I (F_X10_init_17 α h a) φ a = hp_I (F_X10_init_16 α h a) φ a := by
  have q := fr_X8 (F_X10_init_16 α h a) (h + (7)) (h + (6)) (by omega) a (by omega) (by omega)
  exact ⟨q.2.2.2.2.1 φ, q.2.1 φ⟩
theorem so_X10_17 (α : hp_T) (h a b : Nat) (hb : b ≠ a) (hb2 : b ≠ h + (6)) (hb3 : b < h + (7) ∨ h + (7) + 3 ≤ b) : sa (F_X10_init_16 α h a) (F_X10_init_17 α h a) b := fr_X8 (F_X10_init_16 α h a) (h + (7)) (h + (6)) (by omega) b hb2 hb3
theorem ka_X10_18 (α : hp_T) (h a : Nat) (ha : a < h) (φ : Nat) (hφ : φ ≠ 559) : hp_N (F_X10_init_18 α h a) φ a = hp_N (F_X10_init_17 α h a) φ a ∧ hp_I (F_X10_init_18 α h a) φ a = hp_I (F_X10_init_17 α h a) φ a := ⟨sN_ne hφ, hI_sN⟩
theorem so_X10_18 (α : hp_T) (h a b : Nat) (hb : b ≠ a)  : sa (F_X10_init_17 α h a) (F_X10_init_18 α h a) b := sa_sN hb
theorem f18_550 (α : hp_T) (h a : Nat) (ha : a < h) : hp_I (F_X10_init_18 α h a) 550 a = 65521 := ((ka_X10_18 α h a ha 550 (by decide)).2.trans ((ka_X10_17 α h a ha 550).2.trans ((ka_X10_16 α h a ha 550).2.trans ((ka_X10_15 α h a ha 550 (by decide)).2.trans ((ka_X10_14 α h a ha 550).2.trans ((ka_X10_13 α h a ha 550).2.trans ((ka_X10_12 α h a ha 550 (by decide)).2.trans ((ka_X10_11 α h a ha 550).2.trans ((ka_X10_10 α h a ha 550 (by decide)).2.trans ((ka_X10_9 α h a ha 550 (by decide)).2.trans ((ka_X10_8 α h a ha 550).2.trans ((ka_X10_7 α h a ha 550 (by decide)).2.trans ((ka_X10_6 α h a ha 550 (by decide)).2.trans ((ka_X10_5 α h a ha 550).2.trans ((ka_X10_4 α h a ha 550 (by decide)).2.trans ((ka_X10_3 α h a ha 550 (by decide)).2.trans ((ka_X10_2 α h a ha 550).2.trans (show hp_I (hp_sI (F_X10_init_0 α h a) 550 a 65521) 550 a = 65521 from hp_I_at))))))))))))))))))
theorem f18_551 (α : hp_T) (h a : Nat) (ha : a < h) : hp_N (F_X10_init_18 α h a) 551 a = some (h + (0)) := ((ka_X10_18 α h a ha 551 (by decide)).1.trans ((ka_X10_17 α h a ha 551).1.trans ((ka_X10_16 α h a ha 551).1.trans ((ka_X10_15 α h a ha 551 (by decide)).1.trans ((ka_X10_14 α h a ha 551).1.trans ((ka_X10_13 α h a ha 551).1.trans ((ka_X10_12 α h a ha 551 (by decide)).1.trans ((ka_X10_11 α h a ha 551).1.trans ((ka_X10_10 α h a ha 551 (by decide)).1.trans ((ka_X10_9 α h a ha 551 (by decide)).1.trans ((ka_X10_8 α h a ha 551).1.trans ((ka_X10_7 α h a ha 551 (by decide)).1.trans ((ka_X10_6 α h a ha 551 (by decide)).1.trans ((ka_X10_5 α h a ha 551).1.trans ((ka_X10_4 α h a ha 551 (by decide)).1.trans (show hp_N (hp_sN (F_X10_init_2 α h a) 551 a (some (h + (0)))) 551 a = some (h + (0)) from sN_at))))))))))))))))
theorem f18_552 (α : hp_T) (h a : Nat) (ha : a < h) : hp_I (F_X10_init_18 α h a) 552 a = 1 := ((ka_X10_18 α h a ha 552 (by decide)).2.trans ((ka_X10_17 α h a ha 552).2.trans ((ka_X10_16 α h a ha 552).2.trans ((ka_X10_15 α h a ha 552 (by decide)).2.trans ((ka_X10_14 α h a ha 552).2.trans ((ka_X10_13 α h a ha 552).2.trans ((ka_X10_12 α h a ha 552 (by decide)).2.trans ((ka_X10_11 α h a ha 552).2.trans ((ka_X10_10 α h a ha 552 (by decide)).2.trans ((ka_X10_9 α h a ha 552 (by decide)).2.trans ((ka_X10_8 α h a ha 552).2.trans ((ka_X10_7 α h a ha 552 (by decide)).2.trans ((ka_X10_6 α h a ha 552 (by decide)).2.trans ((ka_X10_5 α h a ha 552).2.trans (show hp_I (hp_sI (F_X10_init_3 α h a) 552 a 1) 552 a = 1 from hp_I_at)))))))))))))))
theorem f18_553 (α : hp_T) (h a : Nat) (ha : a < h) : hp_N (F_X10_init_18 α h a) 553 a = some (h + (1)) := ((ka_X10_18 α h a ha 553 (by decide)).1.trans ((ka_X10_17 α h a ha 553).1.trans ((ka_X10_16 α h a ha 553).1.trans ((ka_X10_15 α h a ha 553 (by decide)).1.trans ((ka_X10_14 α h a ha 553).1.trans ((ka_X10_13 α h a ha 553).1.trans ((ka_X10_12 α h a ha 553 (by decide)).1.trans ((ka_X10_11 α h a ha 553).1.trans ((ka_X10_10 α h a ha 553 (by decide)).1.trans ((ka_X10_9 α h a ha 553 (by decide)).1.trans ((ka_X10_8 α h a ha 553).1.trans ((ka_X10_7 α h a ha 553 (by decide)).1.trans (show hp_N (hp_sN (F_X10_init_5 α h a) 553 a (some (h + (1)))) 553 a = some (h + (1)) from sN_at)))))))))))))
theorem f18_554 (α : hp_T) (h a : Nat) (ha : a < h) : hp_I (F_X10_init_18 α h a) 554 a = 0 := ((ka_X10_18 α h a ha 554 (by decide)).2.trans ((ka_X10_17 α h a ha 554).2.trans ((ka_X10_16 α h a ha 554).2.trans ((ka_X10_15 α h a ha 554 (by decide)).2.trans ((ka_X10_14 α h a ha 554).2.trans ((ka_X10_13 α h a ha 554).2.trans ((ka_X10_12 α h a ha 554 (by decide)).2.trans ((ka_X10_11 α h a ha 554).2.trans ((ka_X10_10 α h a ha 554 (by decide)).2.trans ((ka_X10_9 α h a ha 554 (by decide)).2.trans ((ka_X10_8 α h a ha 554).2.trans (show hp_I (hp_sI (F_X10_init_6 α h a) 554 a 0) 554 a = 0 from hp_I_at))))))))))))
theorem f18_555 (α : hp_T) (h a : Nat) (ha : a < h) : hp_N (F_X10_init_18 α h a) 555 a = some (h + (2)) := ((ka_X10_18 α h a ha 555 (by decide)).1.trans ((ka_X10_17 α h a ha 555).1.trans ((ka_X10_16 α h a ha 555).1.trans ((ka_X10_15 α h a ha 555 (by decide)).1.trans ((ka_X10_14 α h a ha 555).1.trans ((ka_X10_13 α h a ha 555).1.trans ((ka_X10_12 α h a ha 555 (by decide)).1.trans ((ka_X10_11 α h a ha 555).1.trans ((ka_X10_10 α h a ha 555 (by decide)).1.trans (show hp_N (hp_sN (F_X10_init_8 α h a) 555 a (some (h + (2)))) 555 a = some (h + (2)) from sN_at))))))))))
theorem f18_556 (α : hp_T) (h a : Nat) (ha : a < h) : hp_I (F_X10_init_18 α h a) 556 a = 0 := ((ka_X10_18 α h a ha 556 (by decide)).2.trans ((ka_X10_17 α h a ha 556).2.trans ((ka_X10_16 α h a ha 556).2.trans ((ka_X10_15 α h a ha 556 (by decide)).2.trans ((ka_X10_14 α h a ha 556).2.trans ((ka_X10_13 α h a ha 556).2.trans ((ka_X10_12 α h a ha 556 (by decide)).2.trans ((ka_X10_11 α h a ha 556).2.trans (show hp_I (hp_sI (F_X10_init_9 α h a) 556 a 0) 556 a = 0 from hp_I_at)))))))))
theorem f18_557 (α : hp_T) (h a : Nat) (ha : a < h) : hp_N (F_X10_init_18 α h a) 557 a = some (h + (3)) := ((ka_X10_18 α h a ha 557 (by decide)).1.trans ((ka_X10_17 α h a ha 557).1.trans ((ka_X10_16 α h a ha 557).1.trans ((ka_X10_15 α h a ha 557 (by decide)).1.trans ((ka_X10_14 α h a ha 557).1.trans ((ka_X10_13 α h a ha 557).1.trans (show hp_N (hp_sN (F_X10_init_11 α h a) 557 a (some (h + (3)))) 557 a = some (h + (3)) from sN_at)))))))
theorem f18_558 (α : hp_T) (h a : Nat) (ha : a < h) : hp_N (F_X10_init_18 α h a) 558 a = some (h + (4)) := ((ka_X10_18 α h a ha 558 (by decide)).1.trans ((ka_X10_17 α h a ha 558).1.trans ((ka_X10_16 α h a ha 558).1.trans (show hp_N (hp_sN (F_X10_init_14 α h a) 558 a (some (h + (4)))) 558 a = some (h + (4)) from sN_at))))
theorem f18_559 (α : hp_T) (h a : Nat) (ha : a < h) : hp_N (F_X10_init_18 α h a) 559 a = some (h + (6)) := (show hp_N (hp_sN (F_X10_init_17 α h a) 559 a (some (h + (6)))) 559 a = some (h + (6)) from sN_at)
theorem fr18 (α : hp_T) (h a : Nat) (ha : a < h) (b : Nat) (hb : b ≠ a) (hq : b < h ∨ h + 10 ≤ b) : sa α (F_X10_init_18 α h a) b := sa_tr (so_X10_1 α h a b (by omega)) (sa_tr (so_X10_2 α h a b (by omega) (by omega)) (sa_tr (so_X10_3 α h a b (by omega)) (sa_tr (so_X10_4 α h a b (by omega)) (sa_tr (so_X10_5 α h a b (by omega) (by omega)) (sa_tr (so_X10_6 α h a b (by omega)) (sa_tr (so_X10_7 α h a b (by omega)) (sa_tr (so_X10_8 α h a b (by omega) (by omega)) (sa_tr (so_X10_9 α h a b (by omega)) (sa_tr (so_X10_10 α h a b (by omega)) (sa_tr (so_X10_11 α h a b (by omega) (by omega)) (sa_tr (so_X10_12 α h a b (by omega)) (sa_tr (so_X10_13 α h a b (by omega) (by omega)) (sa_tr (so_X10_14 α h a b (by omega) (by omega) (by omega)) (sa_tr (so_X10_15 α h a b (by omega)) (sa_tr (so_X10_16 α h a b (by omega) (by omega)) (sa_tr (so_X10_17 α h a b (by omega) (by omega) (by omega)) (so_X10_18 α h a b (by omega))))))))))))))))))
theorem f18_300 (α : hp_T) (h a : Nat) (ha : a < h) : hp_R (F_X10_init_18 α h a) 300 (h + 4) = h + 5 := by
  have q : sa (F_X10_init_14 α h a) (F_X10_init_18 α h a) (h + 4) := sa_tr (so_X10_15 α h a (h + 4) (by omega)) (sa_tr (so_X10_16 α h a (h + 4) (by omega) (by omega)) (sa_tr (so_X10_17 α h a (h + 4) (by omega) (by omega) (by omega)) (so_X10_18 α h a (h + 4) (by omega))))
  rw [q.2.2.2.1 300]
  exact fd_X5_300 (F_X10_init_13 α h a) (h + (5)) (h + (4)) (by omega)
theorem f18_450 (α : hp_T) (h a : Nat) (ha : a < h) : hp_R (F_X10_init_18 α h a) 450 (h + 6) = h + 7 := by
  have q : sa (F_X10_init_17 α h a) (F_X10_init_18 α h a) (h + 6) := so_X10_18 α h a (h + 6) (by omega)
  rw [q.2.2.2.1 450, show F_X10_init_17 α h a = F_X8_init (F_X10_init_16 α h a) (h + (7)) (h + (6)) from rfl, fd_X8_450 (F_X10_init_16 α h a) (h + (7)) (h + (6)) (by omega)]
theorem f18_451 (α : hp_T) (h a : Nat) (ha : a < h) : hp_R (F_X10_init_18 α h a) 451 (h + 6) = h + 8 := by
  have q : sa (F_X10_init_17 α h a) (F_X10_init_18 α h a) (h + 6) := so_X10_18 α h a (h + 6) (by omega)
  rw [q.2.2.2.1 451, show F_X10_init_17 α h a = F_X8_init (F_X10_init_16 α h a) (h + (7)) (h + (6)) from rfl, fd_X8_451 (F_X10_init_16 α h a) (h + (7)) (h + (6)) (by omega)]
theorem f18_452 (α : hp_T) (h a : Nat) (ha : a < h) : hp_R (F_X10_init_18 α h a) 452 (h + 6) = h + 9 := by
  have q : sa (F_X10_init_17 α h a) (F_X10_init_18 α h a) (h + 6) := so_X10_18 α h a (h + 6) (by omega)
  rw [q.2.2.2.1 452, show F_X10_init_17 α h a = F_X8_init (F_X10_init_16 α h a) (h + (7)) (h + (6)) from rfl, fd_X8_452 (F_X10_init_16 α h a) (h + (7)) (h + (6)) (by omega)]
theorem in_X1_300 (α : hp_T) (h a : Nat) (ha : a < h) : hp_R (F_X1_init α h a) 300 (h + 0) = h + 1 := by
  rw [(tl_X1_6 α h a (h + 0) (by omega) (by omega)).2.2.2.1 300]
  exact fd_X5_300 (F_X1_init_5 α h a) (h + (1)) (h + (0)) (by omega)
