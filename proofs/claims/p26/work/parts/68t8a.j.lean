section JN11_0
set_option maxRecDepth 100000
/-! ===== what the constructors of records and worlds make ===== -/
theorem sQ_at {α : hp_T} {κ a j : Nat} {v : Option Nat} : hp_Q (hp_sQ α κ a j v) κ a j = v := by simp [hp_Q, hp_sQ, hp_uq]
theorem sQ_ne {α : hp_T} {κ a j i : Nat} {v : Option Nat} (h : i ≠ j) : hp_Q (hp_sQ α κ a j v) κ a i = hp_Q α κ a i := by simp [hp_Q, hp_sQ, hp_uq, h]
def LG (α : hp_T) (h a j : Nat) (β : hp_T) : Prop := (∀ b, b ≠ a → b < h ∨ h + (2 + 2 * j) ≤ b → sa α β b) ∧ hp_N β 150 a = some h ∧ hp_N β 151 a = some (h + 1) ∧ hp_I β 152 a = 0 ∧ ∀ i, i < j → hp_Q β 28 h i = some (h + (2 + 2 * i)) ∧ hp_R β 500 (h + (2 + 2 * i)) = h + (2 + 2 * i) + 1
theorem LG_0 (α : hp_T) (h a : Nat) (ha : a < h) : LG α h a 0 (FL_X2_init_28 α h a 0) := by
  show LG α h a 0 (F_X2_init_5 α h a)
  have n1 : sa α (F_X2_init_1 α h a) a := sa_nw (α := α) (h := h + 0) (κ := 28) (by omega)
  have n3 : sa (F_X2_init_2 α h a) (F_X2_init_3 α h a) a := sa_nw (h := h + 1) (κ := 29) (by omega)
  refine ⟨fun b hb hq => ?_, ?_, ?_, ?_, fun i hi => by omega⟩
  · exact sa_tr (sa_nw (α := α) (h := h + 0) (κ := 28) (by omega)) (sa_tr (sa_sN hb) (sa_tr (sa_nw (α := F_X2_init_2 α h a) (h := h + 1) (κ := 29) (by omega)) (sa_tr (sa_sN hb) (sa_sI hb))))
  · have e1 : hp_N (F_X2_init_5 α h a) 150 a = hp_N (F_X2_init_3 α h a) 150 a := hN_sI.trans (sN_ne (by decide))
    rw [e1, n3.2.2.2.2.1 150]
    exact sN_at
  · have e1 : hp_N (F_X2_init_5 α h a) 151 a = hp_N (F_X2_init_4 α h a) 151 a := hN_sI
    rw [e1]
    exact sN_at
  · exact hp_I_at
theorem LG_s (α : hp_T) (h a : Nat) (ha : a < h) (j : Nat) (g : LG α h a j (FL_X2_init_28 α h a j)) : LG α h a (j + 1) (FL_X2_init_28 α h a (j + 1)) := by
  obtain ⟨g1, g2, g3, g4, g5⟩ := g
  obtain ⟨β, hβ⟩ : ∃ β, β = FL_X2_init_28 α h a j := ⟨_, rfl⟩
  have hF : FL_X2_init_28 α h a (j + 1) = hp_sQ (F_X9_init (hp_nw β (h + (2 + 2 * j)) 110) (h + (2 + 2 * j + 1)) (h + (2 + 2 * j))) 28 h j (some (h + (2 + 2 * j))) := by
    rw [FL_X2_init_28, ← hβ]
    rw [← hβ] at g2
    rw [g2]; rfl
  rw [← hβ] at g1 g2 g3 g4 g5
  rw [hF]
  have s1 : ∀ b, b ≠ h + (2 + 2 * j) → b < h + (2 + 2 * j + 1) ∨ h + (2 + 2 * j + 1) + 1 ≤ b → sa β (F_X9_init (hp_nw β (h + (2 + 2 * j)) 110) (h + (2 + 2 * j + 1)) (h + (2 + 2 * j))) b := fun b h1 h2 => sa_tr (sa_nw h1) (fr_X9 _ _ _ (by omega) b h1 h2)
  have s2 : ∀ b, b ≠ h → b ≠ h + (2 + 2 * j) → b < h + (2 + 2 * j + 1) ∨ h + (2 + 2 * j + 1) + 1 ≤ b → sa β (hp_sQ (F_X9_init (hp_nw β (h + (2 + 2 * j)) 110) (h + (2 + 2 * j + 1)) (h + (2 + 2 * j))) 28 h j (some (h + (2 + 2 * j)))) b := fun b h0 h1 h2 => sa_tr (s1 b h1 h2) (sa_sQ h0)
  have sA := s2 a (by omega) (by omega) (by omega)
  refine ⟨fun b hb hq => sa_tr (g1 b hb (by omega)) (s2 b (by omega) (by omega) (by omega)), (sA.2.2.2.2.1 150).trans g2, (sA.2.2.2.2.1 151).trans g3, (sA.2.1 152).trans g4, fun i hi => ?_⟩
  by_cases e : i = j
  · subst e
    refine ⟨sQ_at, ?_⟩
    show hp_R (F_X9_init (hp_nw β (h + (2 + 2 * i)) 110) (h + (2 + 2 * i + 1)) (h + (2 + 2 * i))) 500 (h + (2 + 2 * i)) = _
    rw [fd_X9_500 _ _ _ (by omega)]; omega
  · obtain ⟨q1, q2⟩ := g5 i (by omega)
    refine ⟨?_, ?_⟩
    · rw [sQ_ne e, (s1 h (by omega) (by omega)).2.2.2.2.2.2.2 28 i]; exact q1
    · rw [(s2 (h + (2 + 2 * i)) (by omega) (by omega) (by omega)).2.2.2.1 500]; exact q2
theorem LG_a (α : hp_T) (h a : Nat) (ha : a < h) : ∀ j, LG α h a j (FL_X2_init_28 α h a j) := by
  intro j
  induction j with
  | zero => exact LG_0 α h a ha
  | succ j ih => exact LG_s α h a ha j ih
def LGF (α : hp_T) (h a : Nat) (β : hp_T) : Prop := (∀ b, b ≠ a → b < h ∨ h + 98 ≤ b → sa α β b) ∧ hp_R β 150 a = h ∧ hp_R β 151 a = h + 1 ∧ hp_I β 152 a = 0 ∧ ∀ i, i < 48 → hp_Q β 28 h i = some (h + (2 + 2 * i)) ∧ hp_R β 500 (h + (2 + 2 * i)) = h + (2 + 2 * i) + 1
theorem LG_f (α : hp_T) (h a : Nat) (ha : a < h) : LGF α h a (F_X2_init α h a) := by
  obtain ⟨g1, g2, g3, g4, g5⟩ := LG_a α h a ha 48
  have c : ∀ b, b ≠ a → sa (FL_X2_init_28 α h a 48) (F_X2_init α h a) b := fun b hb => sa_cv hb
  refine ⟨fun b hb hq => sa_tr (g1 b hb (by omega)) (c b hb), cv_R g2, cv_R g3, g4, fun i hi => ?_⟩
  obtain ⟨q1, q2⟩ := g5 i hi
  exact ⟨(c h (by omega)).2.2.2.2.2.2.2 28 i ▸ q1, ((c (h + (2 + 2 * i)) (by omega)).2.2.2.1 500).trans q2⟩
theorem so_X10_1 (α : hp_T) (h a b : Nat) (hb : b ≠ a)  : sa (F_X10_init_0 α h a) (F_X10_init_1 α h a) b := sa_sI hb
theorem ka_X10_2 (α : hp_T) (h a : Nat) (ha : a < h) (φ : Nat) : hp_N (F_X10_init_2 α h a) φ a = hp_N (F_X10_init_1 α h a) φ a ∧ hp_I (F_X10_init_2 α h a) φ a = hp_I (F_X10_init_1 α h a) φ a := by
  have q := sa_nw (α := (F_X10_init_1 α h a)) (h := h + (0)) (κ := 30) (b := a) (by omega)
  exact ⟨q.2.2.2.2.1 φ, q.2.1 φ⟩
theorem so_X10_2 (α : hp_T) (h a b : Nat) (hb : b ≠ a) (hb2 : b ≠ h + (0)) : sa (F_X10_init_1 α h a) (F_X10_init_2 α h a) b := sa_nw hb2
theorem ka_X10_3 (α : hp_T) (h a : Nat) (ha : a < h) (φ : Nat) (hφ : φ ≠ 551) : hp_N (F_X10_init_3 α h a) φ a = hp_N (F_X10_init_2 α h a) φ a ∧ hp_I (F_X10_init_3 α h a) φ a = hp_I (F_X10_init_2 α h a) φ a := ⟨sN_ne hφ, hI_sN⟩
theorem so_X10_3 (α : hp_T) (h a b : Nat) (hb : b ≠ a)  : sa (F_X10_init_2 α h a) (F_X10_init_3 α h a) b := sa_sN hb
theorem ka_X10_4 (α : hp_T) (h a : Nat) (ha : a < h) (φ : Nat) (hφ : φ ≠ 552) : hp_N (F_X10_init_4 α h a) φ a = hp_N (F_X10_init_3 α h a) φ a ∧ hp_I (F_X10_init_4 α h a) φ a = hp_I (F_X10_init_3 α h a) φ a := ⟨hN_sI, hp_I_ne hφ⟩
theorem so_X10_4 (α : hp_T) (h a b : Nat) (hb : b ≠ a)  : sa (F_X10_init_3 α h a) (F_X10_init_4 α h a) b := sa_sI hb
theorem ka_X10_5 (α : hp_T) (h a : Nat) (ha : a < h) (φ : Nat) : hp_N (F_X10_init_5 α h a) φ a = hp_N (F_X10_init_4 α h a) φ a ∧ hp_I (F_X10_init_5 α h a) φ a = hp_I (F_X10_init_4 α h a) φ a := by
  have q := sa_nw (α := (F_X10_init_4 α h a)) (h := h + (1)) (κ := 31) (b := a) (by omega)
  exact ⟨q.2.2.2.2.1 φ, q.2.1 φ⟩
theorem so_X10_5 (α : hp_T) (h a b : Nat) (hb : b ≠ a) (hb2 : b ≠ h + (1)) : sa (F_X10_init_4 α h a) (F_X10_init_5 α h a) b := sa_nw hb2
theorem ka_X10_6 (α : hp_T) (h a : Nat) (ha : a < h) (φ : Nat) (hφ : φ ≠ 553) : hp_N (F_X10_init_6 α h a) φ a = hp_N (F_X10_init_5 α h a) φ a ∧ hp_I (F_X10_init_6 α h a) φ a = hp_I (F_X10_init_5 α h a) φ a := ⟨sN_ne hφ, hI_sN⟩
theorem so_X10_6 (α : hp_T) (h a b : Nat) (hb : b ≠ a)  : sa (F_X10_init_5 α h a) (F_X10_init_6 α h a) b := sa_sN hb
theorem ka_X10_7 (α : hp_T) (h a : Nat) (ha : a < h) (φ : Nat) (hφ : φ ≠ 554) : hp_N (F_X10_init_7 α h a) φ a = hp_N (F_X10_init_6 α h a) φ a ∧ hp_I (F_X10_init_7 α h a) φ a = hp_I (F_X10_init_6 α h a) φ a := ⟨hN_sI, hp_I_ne hφ⟩
theorem so_X10_7 (α : hp_T) (h a b : Nat) (hb : b ≠ a)  : sa (F_X10_init_6 α h a) (F_X10_init_7 α h a) b := sa_sI hb
theorem ka_X10_8 (α : hp_T) (h a : Nat) (ha : a < h) (φ : Nat) : hp_N (F_X10_init_8 α h a) φ a = hp_N (F_X10_init_7 α h a) φ a ∧ hp_I (F_X10_init_8 α h a) φ a = hp_I (F_X10_init_7 α h a) φ a := by
  have q := sa_nw (α := (F_X10_init_7 α h a)) (h := h + (2)) (κ := 32) (b := a) (by omega)
  exact ⟨q.2.2.2.2.1 φ, q.2.1 φ⟩
theorem so_X10_8 (α : hp_T) (h a b : Nat) (hb : b ≠ a) (hb2 : b ≠ h + (2)) : sa (F_X10_init_7 α h a) (F_X10_init_8 α h a) b := sa_nw hb2
theorem ka_X10_9 (α : hp_T) (h a : Nat) (ha : a < h) (φ : Nat) (hφ : φ ≠ 555) : hp_N (F_X10_init_9 α h a) φ a = hp_N (F_X10_init_8 α h a) φ a ∧ hp_I (F_X10_init_9 α h a) φ a = hp_I (F_X10_init_8 α h a) φ a := ⟨sN_ne hφ, hI_sN⟩
theorem so_X10_9 (α : hp_T) (h a b : Nat) (hb : b ≠ a)  : sa (F_X10_init_8 α h a) (F_X10_init_9 α h a) b := sa_sN hb
theorem ka_X10_10 (α : hp_T) (h a : Nat) (ha : a < h) (φ : Nat) (hφ : φ ≠ 556) : hp_N (F_X10_init_10 α h a) φ a = hp_N (F_X10_init_9 α h a) φ a ∧ hp_I (F_X10_init_10 α h a) φ a = hp_I (F_X10_init_9 α h a) φ a := ⟨hN_sI, hp_I_ne hφ⟩
theorem so_X10_10 (α : hp_T) (h a b : Nat) (hb : b ≠ a)  : sa (F_X10_init_9 α h a) (F_X10_init_10 α h a) b := sa_sI hb
theorem ka_X10_11 (α : hp_T) (h a : Nat) (ha : a < h) (φ : Nat) : hp_N (F_X10_init_11 α h a) φ a = hp_N (F_X10_init_10 α h a) φ a ∧ hp_I (F_X10_init_11 α h a) φ a = hp_I (F_X10_init_10 α h a) φ a := by
  have q := sa_nw (α := (F_X10_init_10 α h a)) (h := h + (3)) (κ := 33) (b := a) (by omega)
  exact ⟨q.2.2.2.2.1 φ, q.2.1 φ⟩
theorem so_X10_11 (α : hp_T) (h a b : Nat) (hb : b ≠ a) (hb2 : b ≠ h + (3)) : sa (F_X10_init_10 α h a) (F_X10_init_11 α h a) b := sa_nw hb2
theorem ka_X10_12 (α : hp_T) (h a : Nat) (ha : a < h) (φ : Nat) (hφ : φ ≠ 557) : hp_N (F_X10_init_12 α h a) φ a = hp_N (F_X10_init_11 α h a) φ a ∧ hp_I (F_X10_init_12 α h a) φ a = hp_I (F_X10_init_11 α h a) φ a := ⟨sN_ne hφ, hI_sN⟩
theorem so_X10_12 (α : hp_T) (h a b : Nat) (hb : b ≠ a)  : sa (F_X10_init_11 α h a) (F_X10_init_12 α h a) b := sa_sN hb
theorem ka_X10_13 (α : hp_T) (h a : Nat) (ha : a < h) (φ : Nat) : hp_N (F_X10_init_13 α h a) φ a = hp_N (F_X10_init_12 α h a) φ a ∧ hp_I (F_X10_init_13 α h a) φ a = hp_I (F_X10_init_12 α h a) φ a := by
  have q := sa_nw (α := (F_X10_init_12 α h a)) (h := h + (4)) (κ := 106) (b := a) (by omega)
  exact ⟨q.2.2.2.2.1 φ, q.2.1 φ⟩
theorem so_X10_13 (α : hp_T) (h a b : Nat) (hb : b ≠ a) (hb2 : b ≠ h + (4)) : sa (F_X10_init_12 α h a) (F_X10_init_13 α h a) b := sa_nw hb2
theorem ka_X10_14 (α : hp_T) (h a : Nat) (ha : a < h) (φ : Nat) : hp_N (F_X10_init_14 α h a) φ a = hp_N (F_X10_init_13 α h a) φ a ∧ hp_I (F_X10_init_14 α h a) φ a = hp_I (F_X10_init_13 α h a) φ a := by
  have q := fr_X5 (F_X10_init_13 α h a) (h + (5)) (h + (4)) (by omega) a (by omega) (by omega)
  exact ⟨q.2.2.2.2.1 φ, q.2.1 φ⟩
theorem so_X10_14 (α : hp_T) (h a b : Nat) (hb : b ≠ a) (hb2 : b ≠ h + (4)) (hb3 : b < h + (5) ∨ h + (5) + 1 ≤ b) : sa (F_X10_init_13 α h a) (F_X10_init_14 α h a) b := fr_X5 (F_X10_init_13 α h a) (h + (5)) (h + (4)) (by omega) b hb2 hb3
theorem ka_X10_15 (α : hp_T) (h a : Nat) (ha : a < h) (φ : Nat) (hφ : φ ≠ 558) : hp_N (F_X10_init_15 α h a) φ a = hp_N (F_X10_init_14 α h a) φ a ∧ hp_I (F_X10_init_15 α h a) φ a = hp_I (F_X10_init_14 α h a) φ a := ⟨sN_ne hφ, hI_sN⟩
theorem so_X10_15 (α : hp_T) (h a b : Nat) (hb : b ≠ a)  : sa (F_X10_init_14 α h a) (F_X10_init_15 α h a) b := sa_sN hb
theorem ka_X10_16 (α : hp_T) (h a : Nat) (ha : a < h) (φ : Nat) : hp_N (F_X10_init_16 α h a) φ a = hp_N (F_X10_init_15 α h a) φ a ∧ hp_I (F_X10_init_16 α h a) φ a = hp_I (F_X10_init_15 α h a) φ a := by
  have q := sa_nw (α := (F_X10_init_15 α h a)) (h := h + (6)) (κ := 109) (b := a) (by omega)
  exact ⟨q.2.2.2.2.1 φ, q.2.1 φ⟩
theorem so_X10_16 (α : hp_T) (h a b : Nat) (hb : b ≠ a) (hb2 : b ≠ h + (6)) : sa (F_X10_init_15 α h a) (F_X10_init_16 α h a) b := sa_nw hb2
theorem ka_X10_17 (α : hp_T) (h a : Nat) (ha : a < h) (φ : Nat) : hp_N (F_X10_init_17 α h a) φ a = hp_N (F_X10_init_16 α h a) φ a ∧ hp_I (F_X10_init_17 α h a) φ a = hp_I (F_X10_init_16 α h a) φ a := by
  have q := fr_X8 (F_X10_init_16 α h a) (h + (7)) (h + (6)) (by omega) a (by omega) (by omega)
  exact ⟨q.2.2.2.2.1 φ, q.2.1 φ⟩
theorem so_X10_17 (α : hp_T) (h a b : Nat) (hb : b ≠ a) (hb2 : b ≠ h + (6)) (hb3 : b < h + (7) ∨ h + (7) + 3 ≤ b) : sa (F_X10_init_16 α h a) (F_X10_init_17 α h a) b := fr_X8 (F_X10_init_16 α h a) (h + (7)) (h + (6)) (by omega) b hb2 hb3
theorem ka_X10_18 (α : hp_T) (h a : Nat) (ha : a < h) (φ : Nat) (hφ : φ ≠ 559) : hp_N (F_X10_init_18 α h a) φ a = hp_N (F_X10_init_17 α h a) φ a ∧ hp_I (F_X10_init_18 α h a) φ a = hp_I (F_X10_init_17 α h a) φ a := ⟨sN_ne hφ, hI_sN⟩
theorem so_X10_18 (α : hp_T) (h a b : Nat) (hb : b ≠ a)  : sa (F_X10_init_17 α h a) (F_X10_init_18 α h a) b := sa_sN hb
theorem f18_550 (α : hp_T) (h a : Nat) (ha : a < h) : hp_I (F_X10_init_18 α h a) 550 a = 65521 := ((ka_X10_18 α h a ha 550 (by decide)).2.trans ((ka_X10_17 α h a ha 550).2.trans ((ka_X10_16 α h a ha 550).2.trans ((ka_X10_15 α h a ha 550 (by decide)).2.trans ((ka_X10_14 α h a ha 550).2.trans ((ka_X10_13 α h a ha 550).2.trans ((ka_X10_12 α h a ha 550 (by decide)).2.trans ((ka_X10_11 α h a ha 550).2.trans ((ka_X10_10 α h a ha 550 (by decide)).2.trans ((ka_X10_9 α h a ha 550 (by decide)).2.trans ((ka_X10_8 α h a ha 550).2.trans ((ka_X10_7 α h a ha 550 (by decide)).2.trans ((ka_X10_6 α h a ha 550 (by decide)).2.trans ((ka_X10_5 α h a ha 550).2.trans ((ka_X10_4 α h a ha 550 (by decide)).2.trans ((ka_X10_3 α h a ha 550 (by decide)).2.trans ((ka_X10_2 α h a ha 550).2.trans (show hp_I (hp_sI (F_X10_init_0 α h a) 550 a 65521) 550 a = 65521 from hp_I_at))))))))))))))))))
theorem f18_551 (α : hp_T) (h a : Nat) (ha : a < h) : hp_N (F_X10_init_18 α h a) 551 a = some (h + (0)) := ((ka_X10_18 α h a ha 551 (by decide)).1.trans ((ka_X10_17 α h a ha 551).1.trans ((ka_X10_16 α h a ha 551).1.trans ((ka_X10_15 α h a ha 551 (by decide)).1.trans ((ka_X10_14 α h a ha 551).1.trans ((ka_X10_13 α h a ha 551).1.trans ((ka_X10_12 α h a ha 551 (by decide)).1.trans ((ka_X10_11 α h a ha 551).1.trans ((ka_X10_10 α h a ha 551 (by decide)).1.trans ((ka_X10_9 α h a ha 551 (by decide)).1.trans ((ka_X10_8 α h a ha 551).1.trans ((ka_X10_7 α h a ha 551 (by decide)).1.trans ((ka_X10_6 α h a ha 551 (by decide)).1.trans ((ka_X10_5 α h a ha 551).1.trans ((ka_X10_4 α h a ha 551 (by decide)).1.trans (show hp_N (hp_sN (F_X10_init_2 α h a) 551 a (some (h + (0)))) 551 a = some (h + (0)) from sN_at))))))))))))))))
theorem f18_552 (α : hp_T) (h a : Nat) (ha : a < h) : hp_I (F_X10_init_18 α h a) 552 a = 1 := ((ka_X10_18 α h a ha 552 (by decide)).2.trans ((ka_X10_17 α h a ha 552).2.trans ((ka_X10_16 α h a ha 552).2.trans ((ka_X10_15 α h a ha 552 (by decide)).2.trans ((ka_X10_14 α h a ha 552).2.trans ((ka_X10_13 α h a ha 552).2.trans ((ka_X10_12 α h a ha 552 (by decide)).2.trans ((ka_X10_11 α h a ha 552).2.trans ((ka_X10_10 α h a ha 552 (by decide)).2.trans ((ka_X10_9 α h a ha 552 (by decide)).2.trans ((ka_X10_8 α h a ha 552).2.trans ((ka_X10_7 α h a ha 552 (by decide)).2.trans ((ka_X10_6 α h a ha 552 (by decide)).2.trans ((ka_X10_5 α h a ha 552).2.trans (show hp_I (hp_sI (F_X10_init_3 α h a) 552 a 1) 552 a = 1 from hp_I_at)))))))))))))))
theorem f18_553 (α : hp_T) (h a : Nat) (ha : a < h) : hp_N (F_X10_init_18 α h a) 553 a = some (h + (1)) := ((ka_X10_18 α h a ha 553 (by decide)).1.trans ((ka_X10_17 α h a ha 553).1.trans ((ka_X10_16 α h a ha 553).1.trans ((ka_X10_15 α h a ha 553 (by decide)).1.trans ((ka_X10_14 α h a ha 553).1.trans ((ka_X10_13 α h a ha 553).1.trans ((ka_X10_12 α h a ha 553 (by decide)).1.trans ((ka_X10_11 α h a ha 553).1.trans ((ka_X10_10 α h a ha 553 (by decide)).1.trans ((ka_X10_9 α h a ha 553 (by decide)).1.trans ((ka_X10_8 α h a ha 553).1.trans ((ka_X10_7 α h a ha 553 (by decide)).1.trans (show hp_N (hp_sN (F_X10_init_5 α h a) 553 a (some (h + (1)))) 553 a = some (h + (1)) from sN_at)))))))))))))
theorem f18_554 (α : hp_T) (h a : Nat) (ha : a < h) : hp_I (F_X10_init_18 α h a) 554 a = 0 := ((ka_X10_18 α h a ha 554 (by decide)).2.trans ((ka_X10_17 α h a ha 554).2.trans ((ka_X10_16 α h a ha 554).2.trans ((ka_X10_15 α h a ha 554 (by decide)).2.trans ((ka_X10_14 α h a ha 554).2.trans ((ka_X10_13 α h a ha 554).2.trans ((ka_X10_12 α h a ha 554 (by decide)).2.trans ((ka_X10_11 α h a ha 554).2.trans ((ka_X10_10 α h a ha 554 (by decide)).2.trans ((ka_X10_9 α h a ha 554 (by decide)).2.trans ((ka_X10_8 α h a ha 554).2.trans (show hp_I (hp_sI (F_X10_init_6 α h a) 554 a 0) 554 a = 0 from hp_I_at))))))))))))
theorem f18_555 (α : hp_T) (h a : Nat) (ha : a < h) : hp_N (F_X10_init_18 α h a) 555 a = some (h + (2)) := ((ka_X10_18 α h a ha 555 (by decide)).1.trans ((ka_X10_17 α h a ha 555).1.trans ((ka_X10_16 α h a ha 555).1.trans ((ka_X10_15 α h a ha 555 (by decide)).1.trans ((ka_X10_14 α h a ha 555).1.trans ((ka_X10_13 α h a ha 555).1.trans ((ka_X10_12 α h a ha 555 (by decide)).1.trans ((ka_X10_11 α h a ha 555).1.trans ((ka_X10_10 α h a ha 555 (by decide)).1.trans (show hp_N (hp_sN (F_X10_init_8 α h a) 555 a (some (h + (2)))) 555 a = some (h + (2)) from sN_at))))))))))
theorem f18_556 (α : hp_T) (h a : Nat) (ha : a < h) : hp_I (F_X10_init_18 α h a) 556 a = 0 := ((ka_X10_18 α h a ha 556 (by decide)).2.trans ((ka_X10_17 α h a ha 556).2.trans ((ka_X10_16 α h a ha 556).2.trans ((ka_X10_15 α h a ha 556 (by decide)).2.trans ((ka_X10_14 α h a ha 556).2.trans ((ka_X10_13 α h a ha 556).2.trans ((ka_X10_12 α h a ha 556 (by decide)).2.trans ((ka_X10_11 α h a ha 556).2.trans (show hp_I (hp_sI (F_X10_init_9 α h a) 556 a 0) 556 a = 0 from hp_I_at)))))))))
theorem f18_557 (α : hp_T) (h a : Nat) (ha : a < h) : hp_N (F_X10_init_18 α h a) 557 a = some (h + (3)) := ((ka_X10_18 α h a ha 557 (by decide)).1.trans ((ka_X10_17 α h a ha 557).1.trans ((ka_X10_16 α h a ha 557).1.trans ((ka_X10_15 α h a ha 557 (by decide)).1.trans ((ka_X10_14 α h a ha 557).1.trans ((ka_X10_13 α h a ha 557).1.trans (show hp_N (hp_sN (F_X10_init_11 α h a) 557 a (some (h + (3)))) 557 a = some (h + (3)) from sN_at)))))))
theorem f18_558 (α : hp_T) (h a : Nat) (ha : a < h) : hp_N (F_X10_init_18 α h a) 558 a = some (h + (4)) := ((ka_X10_18 α h a ha 558 (by decide)).1.trans ((ka_X10_17 α h a ha 558).1.trans ((ka_X10_16 α h a ha 558).1.trans (show hp_N (hp_sN (F_X10_init_14 α h a) 558 a (some (h + (4)))) 558 a = some (h + (4)) from sN_at))))
theorem f18_559 (α : hp_T) (h a : Nat) (ha : a < h) : hp_N (F_X10_init_18 α h a) 559 a = some (h + (6)) := (show hp_N (hp_sN (F_X10_init_17 α h a) 559 a (some (h + (6)))) 559 a = some (h + (6)) from sN_at)
theorem fr18 (α : hp_T) (h a : Nat) (ha : a < h) (b : Nat) (hb : b ≠ a) (hq : b < h ∨ h + 10 ≤ b) : sa α (F_X10_init_18 α h a) b := sa_tr (so_X10_1 α h a b (by omega)) (sa_tr (so_X10_2 α h a b (by omega) (by omega)) (sa_tr (so_X10_3 α h a b (by omega)) (sa_tr (so_X10_4 α h a b (by omega)) (sa_tr (so_X10_5 α h a b (by omega) (by omega)) (sa_tr (so_X10_6 α h a b (by omega)) (sa_tr (so_X10_7 α h a b (by omega)) (sa_tr (so_X10_8 α h a b (by omega) (by omega)) (sa_tr (so_X10_9 α h a b (by omega)) (sa_tr (so_X10_10 α h a b (by omega)) (sa_tr (so_X10_11 α h a b (by omega) (by omega)) (sa_tr (so_X10_12 α h a b (by omega)) (sa_tr (so_X10_13 α h a b (by omega) (by omega)) (sa_tr (so_X10_14 α h a b (by omega) (by omega) (by omega)) (sa_tr (so_X10_15 α h a b (by omega)) (sa_tr (so_X10_16 α h a b (by omega) (by omega)) (sa_tr (so_X10_17 α h a b (by omega) (by omega) (by omega)) (so_X10_18 α h a b (by omega))))))))))))))))))
theorem f18_300 (α : hp_T) (h a : Nat) (ha : a < h) : hp_R (F_X10_init_18 α h a) 300 (h + 4) = h + 5 := by
  have q : sa (F_X10_init_14 α h a) (F_X10_init_18 α h a) (h + 4) := sa_tr (so_X10_15 α h a (h + 4) (by omega)) (sa_tr (so_X10_16 α h a (h + 4) (by omega) (by omega)) (sa_tr (so_X10_17 α h a (h + 4) (by omega) (by omega) (by omega)) (so_X10_18 α h a (h + 4) (by omega))))
  rw [q.2.2.2.1 300]
  exact fd_X5_300 (F_X10_init_13 α h a) (h + (5)) (h + (4)) (by omega)
theorem f18_450 (α : hp_T) (h a : Nat) (ha : a < h) : hp_R (F_X10_init_18 α h a) 450 (h + 6) = h + 7 := by
  have q : sa (F_X10_init_17 α h a) (F_X10_init_18 α h a) (h + 6) := so_X10_18 α h a (h + 6) (by omega)
  rw [q.2.2.2.1 450, show F_X10_init_17 α h a = F_X8_init (F_X10_init_16 α h a) (h + (7)) (h + (6)) from rfl, fd_X8_450 (F_X10_init_16 α h a) (h + (7)) (h + (6)) (by omega)]
theorem f18_451 (α : hp_T) (h a : Nat) (ha : a < h) : hp_R (F_X10_init_18 α h a) 451 (h + 6) = h + 8 := by
  have q : sa (F_X10_init_17 α h a) (F_X10_init_18 α h a) (h + 6) := so_X10_18 α h a (h + 6) (by omega)
  rw [q.2.2.2.1 451, show F_X10_init_17 α h a = F_X8_init (F_X10_init_16 α h a) (h + (7)) (h + (6)) from rfl, fd_X8_451 (F_X10_init_16 α h a) (h + (7)) (h + (6)) (by omega)]
theorem f18_452 (α : hp_T) (h a : Nat) (ha : a < h) : hp_R (F_X10_init_18 α h a) 452 (h + 6) = h + 9 := by
  have q : sa (F_X10_init_17 α h a) (F_X10_init_18 α h a) (h + 6) := so_X10_18 α h a (h + 6) (by omega)
  rw [q.2.2.2.1 452, show F_X10_init_17 α h a = F_X8_init (F_X10_init_16 α h a) (h + (7)) (h + (6)) from rfl, fd_X8_452 (F_X10_init_16 α h a) (h + (7)) (h + (6)) (by omega)]
theorem in_X1_300 (α : hp_T) (h a : Nat) (ha : a < h) : hp_R (F_X1_init α h a) 300 (h + 0) = h + 1 := by
  rw [(tl_X1_6 α h a (h + 0) (by omega) (by omega)).2.2.2.1 300]
  exact fd_X5_300 (F_X1_init_5 α h a) (h + (1)) (h + (0)) (by omega)
end JN11_0
section JN11_1
set_option maxRecDepth 100000
/-! ===== the loops of a world's constructor ===== -/
def LGQ (β : hp_T) (L : Nat) : Prop := hp_R β 150 L = L + 1 ∧ hp_R β 151 L = L + 2 ∧ hp_I β 152 L = 0 ∧ ∀ i, i < 48 → hp_Q β 28 (L + 1) i = some (L + 3 + 2 * i) ∧ hp_R β 500 (L + 3 + 2 * i) = L + 3 + 2 * i + 1
theorem LGQ_sa {β γ : hp_T} {L : Nat} (h : LGQ β L) (s : ∀ b, L ≤ b → b < L + 99 → sa β γ b) : LGQ γ L := by
  obtain ⟨h1, h2, h3, h4⟩ := h
  have sL := s L (by omega) (by omega)
  refine ⟨(sL.2.2.2.1 150).trans h1, (sL.2.2.2.1 151).trans h2, (sL.2.1 152).trans h3, fun i hi => ⟨?_, ?_⟩⟩
  · rw [(s (L + 1) (by omega) (by omega)).2.2.2.2.2.2.2 28 i]; exact (h4 i hi).1
  · rw [(s (L + 3 + 2 * i) (by omega) (by omega)).2.2.2.1 500]; exact (h4 i hi).2
def WI (α : hp_T) (h a T jl jf jw : Nat) (β : hp_T) : Prop := (∀ b, b ≠ a → b < h ∨ h + T ≤ b → sa α β b) ∧ (hp_N β 551 a = some h ∧ hp_N β 553 a = some (h + 1) ∧ hp_N β 555 a = some (h + 2) ∧ hp_N β 557 a = some (h + 3) ∧ hp_N β 558 a = some (h + 4) ∧ hp_N β 559 a = some (h + 6)) ∧ (hp_I β 550 a = 65521 ∧ hp_I β 552 a = 1 ∧ hp_I β 554 a = 0 ∧ hp_I β 556 a = 0) ∧ (hp_R β 300 (h + 4) = h + 5 ∧ hp_R β 450 (h + 6) = h + 7 ∧ hp_R β 451 (h + 6) = h + 8 ∧ hp_R β 452 (h + 6) = h + 9) ∧ (∀ r, r < jl → hp_Q β 30 h r = some (h + (10 + 99 * r)) ∧ LGQ β (h + (10 + 99 * r))) ∧ (∀ i, i < jf → hp_Q β 31 (h + 1) i = some (h + (406 + 3 * i)) ∧ hp_R β 104 (h + (406 + 3 * i)) = h + (406 + 3 * i) + 1 ∧ hp_R β 300 (h + (406 + 3 * i) + 1) = h + (406 + 3 * i) + 2) ∧ ∀ i, i < jw → hp_Q β 32 (h + 2) i = some (h + (454 + i)) ∧ hp_I β 400 (h + (454 + i)) = 0 ∧ hp_I β 401 (h + (454 + i)) = 0 ∧ hp_I β 402 (h + (454 + i)) = 0 ∧ hp_I β 403 (h + (454 + i)) = 0
theorem WI_step {α β γ : hp_T} {h a T T' jl jf jw row κ j : Nat} (ha : a < h) (g : WI α h a T jl jf jw β) (hT : T ≤ T') (h10 : 10 ≤ T) (hl : ∀ r, r < jl → 109 + 99 * r ≤ T) (hf : ∀ i, i < jf → 409 + 3 * i ≤ T) (hw : ∀ i, i < jw → 455 + i ≤ T) (hr1 : h ≤ row) (hr2 : row ≤ h + 2) (k30 : ∀ r, r < jl → row = h → ¬ (30 = κ ∧ r = j)) (k31 : ∀ r, r < jf → row = h + 1 → ¬ (31 = κ ∧ r = j)) (k32 : ∀ r, r < jw → row = h + 2 → ¬ (32 = κ ∧ r = j)) (s1 : ∀ b, b ≠ row → b < h + T ∨ h + T' ≤ b → sa β γ b) (s2 : ∀ κ' i, ¬ (κ' = κ ∧ i = j) → hp_Q γ κ' row i = hp_Q β κ' row i) : WI α h a T' jl jf jw γ := by
  have sA := s1 a (by omega) (Or.inl (by omega))
  have s4 := s1 (h + 4) (by omega) (Or.inl (by omega))
  have s6 := s1 (h + 6) (by omega) (Or.inl (by omega))
  have sO : ∀ b, b ≠ a → b < h ∨ h + T' ≤ b → (b < h ∨ h + T ≤ b) ∧ sa β γ b := fun b hb hq => by
    rcases hq with q | q
    · exact ⟨Or.inl q, s1 b (by omega) (Or.inl (by omega))⟩
    · exact ⟨Or.inr (by omega), s1 b (by omega) (Or.inr q)⟩
  have sL : ∀ b, h + 3 ≤ b → b < h + T → sa β γ b := fun b p q => s1 b (by omega) (Or.inl q)
  have q30 : ∀ r, r < jl → hp_Q γ 30 h r = hp_Q β 30 h r := fun r hr => by
    by_cases e : row = h
    · have := s2 30 r (k30 r hr e); rw [e] at this; exact this
    · exact (s1 h (fun z => e z.symm) (Or.inl (by omega))).2.2.2.2.2.2.2 30 r
  have q31 : ∀ r, r < jf → hp_Q γ 31 (h + 1) r = hp_Q β 31 (h + 1) r := fun r hr => by
    by_cases e : row = h + 1
    · have := s2 31 r (k31 r hr e); rw [e] at this; exact this
    · exact (s1 (h + 1) (fun z => e z.symm) (Or.inl (by omega))).2.2.2.2.2.2.2 31 r
  have q32 : ∀ r, r < jw → hp_Q γ 32 (h + 2) r = hp_Q β 32 (h + 2) r := fun r hr => by
    by_cases e : row = h + 2
    · have := s2 32 r (k32 r hr e); rw [e] at this; exact this
    · exact (s1 (h + 2) (fun z => e z.symm) (Or.inl (by omega))).2.2.2.2.2.2.2 32 r
  have lL : ∀ r, r < jl → ∀ b, h + (10 + 99 * r) ≤ b → b < h + (10 + 99 * r) + 99 → sa β γ b := fun r hr b p q => sL b (by omega) (by have := hl r hr; omega)
  have lF : ∀ r, r < jf → ∀ b, h + (406 + 3 * r) ≤ b → b < h + (406 + 3 * r) + 3 → sa β γ b := fun r hr b p q => sL b (by omega) (by have := hf r hr; omega)
  have lW : ∀ r, r < jw → sa β γ (h + (454 + r)) := fun r hr => sL _ (by omega) (by have := hw r hr; omega)
  clear s1 s2 k30 k31 k32 hl hf hw sL
  obtain ⟨g1, ⟨n1, n2, n3, n4, n5, n6⟩, ⟨i1, i2, i3, i4⟩, ⟨r1, r2, r3, r4⟩, gl, gf, gw⟩ := g
  have N := sA.2.2.2.2.1
  have I := sA.2.1
  refine ⟨fun b hb hq => sa_tr (g1 b hb (sO b hb hq).1) (sO b hb hq).2, ⟨(N 551).trans n1, (N 553).trans n2, (N 555).trans n3, (N 557).trans n4, (N 558).trans n5, (N 559).trans n6⟩, ⟨(I 550).trans i1, (I 552).trans i2, (I 554).trans i3, (I 556).trans i4⟩, ⟨(s4.2.2.2.1 300).trans r1, (s6.2.2.2.1 450).trans r2, (s6.2.2.2.1 451).trans r3, (s6.2.2.2.1 452).trans r4⟩, fun r hr => ⟨(q30 r hr).trans (gl r hr).1, LGQ_sa (gl r hr).2 (lL r hr)⟩, fun i hi => ⟨(q31 i hi).trans (gf i hi).1, ?_, ?_⟩, fun i hi => ?_⟩
  · exact ((lF i hi (h + (406 + 3 * i)) (Nat.le_refl _) (Nat.lt_add_of_pos_right (by decide))).2.2.2.1 104).trans (gf i hi).2.1
  · exact ((lF i hi (h + (406 + 3 * i) + 1) (Nat.le_succ _) (Nat.add_lt_add_left (by decide) _)).2.2.2.1 300).trans (gf i hi).2.2
  · obtain ⟨q1, q2, q3, q4, q5⟩ := gw i hi
    have sw := lW i hi
    exact ⟨(q32 i hi).trans q1, (sw.2.1 400).trans q2, (sw.2.1 401).trans q3, (sw.2.1 402).trans q4, (sw.2.1 403).trans q5⟩
theorem sQ_o {α : hp_T} {κ a j κ' b i : Nat} {v : Option Nat} (h : ¬ (κ' = κ ∧ i = j)) : hp_Q (hp_sQ α κ a j v) κ' b i = hp_Q α κ' b i := by
  simp only [hp_Q, hp_sQ, hp_uq]
  rw [if_neg (fun q => h ⟨q.1, q.2.2⟩)]
theorem WI_0 (α : hp_T) (h a : Nat) (ha : a < h) : WI α h a 10 0 0 0 (F_X10_init_18 α h a) :=
  ⟨fun b hb hq => fr18 α h a ha b hb hq, ⟨f18_551 α h a ha, f18_553 α h a ha, f18_555 α h a ha, f18_557 α h a ha, f18_558 α h a ha, f18_559 α h a ha⟩, ⟨f18_550 α h a ha, f18_552 α h a ha, f18_554 α h a ha, f18_556 α h a ha⟩, ⟨f18_300 α h a ha, f18_450 α h a ha, f18_451 α h a ha, f18_452 α h a ha⟩, fun r hr => by omega, fun i hi => by omega, fun i hi => by omega⟩
theorem WI_l (α : hp_T) (h a : Nat) (ha : a < h) : ∀ j, WI α h a (10 + 99 * j) j 0 0 (FL_X10_init_82 α h a j) := by
  intro j
  induction j with
  | zero =>
    rw [FL_X10_init_82]
    exact WI_0 α h a ha
  | succ j ih =>
    obtain ⟨β, hβ⟩ : ∃ β, β = FL_X10_init_82 α h a j := ⟨_, rfl⟩
    rw [← hβ] at ih
    have hF : FL_X10_init_82 α h a (j + 1) = hp_sQ (F_X2_init (hp_nw β (h + (10 + 99 * j)) 103) (h + (10 + 99 * j + 1)) (h + (10 + 99 * j))) 30 h j (some (h + (10 + 99 * j))) := by
      rw [FL_X10_init_82, ← hβ, ih.2.1.1]; rfl
    obtain ⟨l1, l2, l3, l4, l5⟩ := LG_f (hp_nw β (h + (10 + 99 * j)) 103) (h + (10 + 99 * j + 1)) (h + (10 + 99 * j)) (by omega)
    obtain ⟨γ, hγ⟩ : ∃ γ, γ = F_X2_init (hp_nw β (h + (10 + 99 * j)) 103) (h + (10 + 99 * j + 1)) (h + (10 + 99 * j)) := ⟨_, rfl⟩
    rw [← hγ] at l1 l2 l3 l4 l5 hF
    rw [hF]
    have s0 : ∀ b, b < h + (10 + 99 * j) ∨ h + (10 + 99 * (j + 1)) ≤ b → sa β γ b := fun b hb => sa_tr (sa_nw (by omega)) (l1 b (by omega) (by omega))
    have hs := WI_step (γ := hp_sQ γ 30 h j (some (h + (10 + 99 * j)))) (T' := 10 + 99 * (j + 1)) (row := h) (κ := 30) (j := j) ha ih (by omega) (by omega) (fun r hr => by omega) (fun r hr => absurd hr (Nat.not_lt_zero r)) (fun r hr => absurd hr (Nat.not_lt_zero r)) (Nat.le_refl _) (by omega) (fun r hr _ q => by omega) (fun r hr => absurd hr (Nat.not_lt_zero r)) (fun r hr => absurd hr (Nat.not_lt_zero r)) (fun b h1 h2 => sa_tr (s0 b (by omega)) (sa_sQ h1)) (fun κ' i hq => by rw [sQ_o hq, (s0 h (by omega)).2.2.2.2.2.2.2 κ' i])
    obtain ⟨a1, a2, a3, a4, a5, a6, a7⟩ := hs
    refine ⟨a1, a2, a3, a4, fun r hr => ?_, a6, a7⟩
    by_cases e : r = j
    · subst e
      refine ⟨sQ_at, ?_, ?_, ?_, fun i hi => ⟨?_, ?_⟩⟩
      · show hp_R γ 150 _ = _
        rw [l2]; omega
      · show hp_R γ 151 _ = _
        rw [l3]; omega
      · exact l4
      · rw [sQ_o (by omega)]
        have := (l5 i hi).1
        rw [show h + (10 + 99 * r + 1) = h + (10 + 99 * r) + 1 by omega, show h + (10 + 99 * r) + 1 + (2 + 2 * i) = h + (10 + 99 * r) + 3 + 2 * i by omega] at this
        exact this
      · show hp_R γ 500 _ = _
        have := (l5 i hi).2
        rw [show h + (10 + 99 * r + 1) + (2 + 2 * i) = h + (10 + 99 * r) + 3 + 2 * i by omega] at this
        exact this
    · exact a5 r (by omega)
theorem WI_f (α : hp_T) (h a : Nat) (ha : a < h) : ∀ j, WI α h a (406 + 3 * j) 4 j 0 (FL_X10_init_112 α h a j) := by
  intro j
  induction j with
  | zero =>
    rw [FL_X10_init_112]
    have q := WI_l α h a ha 4
    generalize FL_X10_init_82 α h a 4 = β at q ⊢
    exact q
  | succ j ih =>
    obtain ⟨β, hβ⟩ : ∃ β, β = FL_X10_init_112 α h a j := ⟨_, rfl⟩
    rw [← hβ] at ih
    have hF : FL_X10_init_112 α h a (j + 1) = hp_sQ (F_X1_init (hp_nw β (h + (406 + 3 * j)) 102) (h + (406 + 3 * j + 1)) (h + (406 + 3 * j))) 31 (h + 1) j (some (h + (406 + 3 * j))) := by
      rw [FL_X10_init_112, ← hβ, ih.2.1.2.1]; rfl
    have l1 := fr_X1 (hp_nw β (h + (406 + 3 * j)) 102) (h + (406 + 3 * j + 1)) (h + (406 + 3 * j)) (by omega)
    have l2 := fd_X1_104 (hp_nw β (h + (406 + 3 * j)) 102) (h + (406 + 3 * j + 1)) (h + (406 + 3 * j)) (by omega)
    have l3 := in_X1_300 (hp_nw β (h + (406 + 3 * j)) 102) (h + (406 + 3 * j + 1)) (h + (406 + 3 * j)) (by omega)
    obtain ⟨γ, hγ⟩ : ∃ γ, γ = F_X1_init (hp_nw β (h + (406 + 3 * j)) 102) (h + (406 + 3 * j + 1)) (h + (406 + 3 * j)) := ⟨_, rfl⟩
    rw [← hγ] at l1 l2 l3 hF
    rw [hF]
    have s0 : ∀ b, b < h + (406 + 3 * j) ∨ h + (406 + 3 * (j + 1)) ≤ b → sa β γ b := fun b hb => sa_tr (sa_nw (by omega)) (l1 b (by omega) (by omega))
    have hs := WI_step (γ := hp_sQ γ 31 (h + 1) j (some (h + (406 + 3 * j)))) (T' := 406 + 3 * (j + 1)) (row := h + 1) (κ := 31) (j := j) ha ih (by omega) (by omega) (fun r hr => by omega) (fun r hr => by omega) (fun r hr => absurd hr (Nat.not_lt_zero r)) (by omega) (by omega) (fun r hr _ q => absurd q.1 (by decide)) (fun r hr _ q => by omega) (fun r hr => absurd hr (Nat.not_lt_zero r)) (fun b h1 h2 => sa_tr (s0 b (by omega)) (sa_sQ h1)) (fun κ' i hq => by rw [sQ_o hq, (s0 (h + 1) (by omega)).2.2.2.2.2.2.2 κ' i])
    obtain ⟨a1, a2, a3, a4, a5, a6, a7⟩ := hs
    refine ⟨a1, a2, a3, a4, a5, fun i hi => ?_, a7⟩
    by_cases e : i = j
    · subst e
      refine ⟨sQ_at, ?_, ?_⟩
      · show hp_R γ 104 _ = _
        rw [l2]; omega
      · show hp_R γ 300 _ = _
        rw [show h + (406 + 3 * i) + 1 = h + (406 + 3 * i + 1) + 0 by omega, l3]; omega
    · exact a6 i (by omega)
theorem WI_w (α : hp_T) (h a : Nat) (ha : a < h) : ∀ j, WI α h a (454 + j) 4 16 j (FL_X10_init_142 α h a j) := by
  intro j
  induction j with
  | zero =>
    rw [FL_X10_init_142]
    have q := WI_f α h a ha 16
    generalize FL_X10_init_112 α h a 16 = β at q ⊢
    exact q
  | succ j ih =>
    obtain ⟨β, hβ⟩ : ∃ β, β = FL_X10_init_142 α h a j := ⟨_, rfl⟩
    rw [← hβ] at ih
    have hF : FL_X10_init_142 α h a (j + 1) = hp_sQ (F_X7_init (hp_nw β (h + (454 + 1 * j)) 108) (h + (454 + 1 * j + 1)) (h + (454 + 1 * j))) 32 (h + 2) j (some (h + (454 + 1 * j))) := by
      rw [FL_X10_init_142, ← hβ, ih.2.1.2.2.1]; rfl
    rw [Nat.one_mul] at hF
    have l1 := fr_X7 (hp_nw β (h + (454 + j)) 108) (h + (454 + j + 1)) (h + (454 + j)) (by omega)
    have i0 := fd_X7_400 (hp_nw β (h + (454 + j)) 108) (h + (454 + j + 1)) (h + (454 + j)) (by omega)
    have i1 := fd_X7_401 (hp_nw β (h + (454 + j)) 108) (h + (454 + j + 1)) (h + (454 + j)) (by omega)
    have i2 := fd_X7_402 (hp_nw β (h + (454 + j)) 108) (h + (454 + j + 1)) (h + (454 + j)) (by omega)
    have i3 := fd_X7_403 (hp_nw β (h + (454 + j)) 108) (h + (454 + j + 1)) (h + (454 + j)) (by omega)
    obtain ⟨γ, hγ⟩ : ∃ γ, γ = F_X7_init (hp_nw β (h + (454 + j)) 108) (h + (454 + j + 1)) (h + (454 + j)) := ⟨_, rfl⟩
    rw [← hγ] at l1 i0 i1 i2 i3 hF
    rw [hF]
    have s0 : ∀ b, b ≠ h + (454 + j) → sa β γ b := fun b hb => sa_tr (sa_nw hb) (l1 b hb (by omega))
    have hs := WI_step (γ := hp_sQ γ 32 (h + 2) j (some (h + (454 + j)))) (T' := 454 + (j + 1)) (row := h + 2) (κ := 32) (j := j) ha ih (by omega) (by omega) (fun r hr => by omega) (fun r hr => by omega) (fun r hr => by omega) (by omega) (by omega) (fun r hr _ q => absurd q.1 (by decide)) (fun r hr _ q => absurd q.1 (by decide)) (fun r hr _ q => by omega) (fun b h1 h2 => sa_tr (s0 b (by omega)) (sa_sQ h1)) (fun κ' i hq => by rw [sQ_o hq, (s0 (h + 2) (by omega)).2.2.2.2.2.2.2 κ' i])
    obtain ⟨a1, a2, a3, a4, a5, a6, a7⟩ := hs
    refine ⟨a1, a2, a3, a4, a5, a6, fun i hi => ?_⟩
    by_cases e : i = j
    · subst e
      exact ⟨sQ_at, i0, i1, i2, i3⟩
    · exact a7 i (by omega)
theorem fr_X10 (α : hp_T) (h a : Nat) (ha : a < h) (b : Nat) (hb : b ≠ a) (hq : b < h ∨ h + 458 ≤ b) : sa α (F_X10_init α h a) b :=
  sa_tr ((WI_w α h a ha 4).1 b hb (by omega)) (sa_cv hb)
theorem hI_cv {α : hp_T} {a κ φ b : Nat} : hp_I (hp_cv α a κ) φ b = hp_I α φ b := rfl
/-- a new world -/
def NW (β : hp_T) (w : Nat) : Prop := SHW β w ∧ (hp_I β 550 w = 65521 ∧ hp_I β 552 w = 1 ∧ hp_I β 554 w = 0 ∧ hp_I β 556 w = 0) ∧ hp_I β 152 (lpA w 0) = 0 ∧ ∀ i, i < 4 → hp_I β 400 (wtA w i) = 0 ∧ hp_I β 401 (wtA w i) = 0 ∧ hp_I β 402 (wtA w i) = 0 ∧ hp_I β 403 (wtA w i) = 0
theorem NW_0 (α : hp_T) (w : Nat) : NW (F_X10_init α (w + 1) w) w := by
  obtain ⟨g1, ⟨n1, n2, n3, n4, n5, n6⟩, ⟨i1, i2, i3, i4⟩, ⟨r1, r2, r3, r4⟩, gl, gf, gw⟩ := WI_w α (w + 1) w (by omega) 4
  have c : ∀ b, b ≠ w → sa (FL_X10_init_142 α (w + 1) w 4) (F_X10_init α (w + 1) w) b := fun b hb => sa_cv hb
  refine ⟨⟨cv_R n1, cv_R n2, cv_R n3, cv_R n4, cv_R n5, cv_R n6, fun r hr => ?_, fun i hi => ?_, fun i hi => ?_, ?_, ⟨?_, ?_, ?_⟩, fun r hr => ?_, fun i hi => ?_⟩, ⟨hI_cv.trans i1, hI_cv.trans i2, hI_cv.trans i3, hI_cv.trans i4⟩, ?_, fun i hi => ?_⟩
  · have := (gl r hr).1
    rw [show w + 1 + (10 + 99 * r) = lpA w r by unfold lpA; omega] at this
    rw [(c (w + 1) (by omega)).2.2.2.2.2.2.2 30 r]; exact this
  · have := (gf i hi).1
    rw [show w + 1 + (406 + 3 * i) = fzA w i by unfold fzA; omega] at this
    rw [(c (w + 2) (by omega)).2.2.2.2.2.2.2 31 i]; exact this
  · have := (gw i hi).1
    rw [show w + 1 + (454 + i) = wtA w i by unfold wtA; omega] at this
    rw [(c (w + 3) (by omega)).2.2.2.2.2.2.2 32 i]; exact this
  · rw [(c (w + 5) (by omega)).2.2.2.1 300]; exact r1
  · rw [(c (w + 7) (by omega)).2.2.2.1 450]; exact r2
  · rw [(c (w + 7) (by omega)).2.2.2.1 451]; exact r3
  · rw [(c (w + 7) (by omega)).2.2.2.1 452]; exact r4
  · have hL := (gl r hr).2
    rw [show w + 1 + (10 + 99 * r) = lpA w r by unfold lpA; omega] at hL
    obtain ⟨q1, q2, q3, q4⟩ := LGQ_sa hL (fun b p q => c b (by unfold lpA at p; omega))
    refine ⟨q1, q2, fun i hi => ?_⟩
    have q5 := q4 i hi
    rw [show lpA w r + 3 + 2 * i = wdA w r i by unfold lpA wdA; omega] at q5
    exact q5
  · have hz := gf i hi
    rw [show w + 1 + (406 + 3 * i) = fzA w i by unfold fzA; omega] at hz
    exact ⟨((c (fzA w i) (by unfold fzA; omega)).2.2.2.1 104).trans hz.2.1, ((c (fzA w i + 1) (by unfold fzA; omega)).2.2.2.1 300).trans hz.2.2⟩
  · have hL := (gl 0 (by omega)).2
    rw [show w + 1 + (10 + 99 * 0) = lpA w 0 by unfold lpA; omega] at hL
    exact hI_cv.trans hL.2.2.1
  · have hz := gw i hi
    rw [show w + 1 + (454 + i) = wtA w i by unfold wtA; omega] at hz
    exact ⟨hI_cv.trans hz.2.1, hI_cv.trans hz.2.2.1, hI_cv.trans hz.2.2.2.1, hI_cv.trans hz.2.2.2.2⟩
theorem NW_sa {β γ : hp_T} {w : Nat} (h : NW β w) (s : ∀ b, w ≤ b → b < w + 459 → sa β γ b) : NW γ w := by
  obtain ⟨h1, ⟨i1, i2, i3, i4⟩, h3, h4⟩ := h
  have sw := s w (by omega) (by omega)
  refine ⟨SHW_z h1 (fun φ b p q _ => (s b p q).2.2.2.1 φ) (fun κ b j p q => (s b p q).2.2.2.2.2.2.2 κ j), ⟨(sw.2.1 550).trans i1, (sw.2.1 552).trans i2, (sw.2.1 554).trans i3, (sw.2.1 556).trans i4⟩, ((s _ (by unfold lpA; omega) (by unfold lpA; omega)).2.1 152).trans h3, fun i hi => ?_⟩
  have st := s (wtA w i) (by unfold wtA; omega) (by unfold wtA; omega)
  obtain ⟨q1, q2, q3, q4⟩ := h4 i hi
  exact ⟨(st.2.1 400).trans q1, (st.2.1 401).trans q2, (st.2.1 402).trans q3, (st.2.1 403).trans q4⟩
end JN11_1
