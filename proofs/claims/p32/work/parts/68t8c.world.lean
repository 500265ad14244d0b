set_option maxRecDepth 100000
theorem tl_X11_27 (α : hp_T) (h a : Nat) (b : Nat) (hb : b ≠ a) (hq : b < h + 930 ∨ h + 955 ≤ b) : sa (F_X11_init_27 α h a) (F_X11_init α h a) b := sa_tr (sa_sI hb) (tl_X11_28 α h a b hb (by omega))
theorem tl_X11_26 (α : hp_T) (h a : Nat) (b : Nat) (hb : b ≠ a) (hq : b < h + 930 ∨ h + 955 ≤ b) : sa (F_X11_init_26 α h a) (F_X11_init α h a) b := sa_tr (sa_sN hb) (tl_X11_27 α h a b hb (by omega))
theorem tl_X11_25 (α : hp_T) (h a : Nat) (b : Nat) (hb : b ≠ a) (hq : b < h + 929 ∨ h + 955 ≤ b) : sa (F_X11_init_25 α h a) (F_X11_init α h a) b := sa_tr (sa_nw (by omega)) (tl_X11_26 α h a b hb (by omega))
theorem tl_X11_24 (α : hp_T) (h a : Nat) (b : Nat) (hb : b ≠ a) (hq : b < h + 929 ∨ h + 955 ≤ b) : sa (F_X11_init_24 α h a) (F_X11_init α h a) b := sa_tr (sa_sN hb) (tl_X11_25 α h a b hb (by omega))
theorem tl_X11_23 (α : hp_T) (h a : Nat) (b : Nat) (hb : b ≠ a) (hq : b < h + 927 ∨ h + 955 ≤ b) : sa (F_X11_init_23 α h a) (F_X11_init α h a) b := sa_tr (fr_X5 (F_X11_init_23 α h a) (h + (928)) (h + (927)) (by omega) b (by omega) (by omega)) (tl_X11_24 α h a b hb (by omega))
theorem tl_X11_22 (α : hp_T) (h a : Nat) (b : Nat) (hb : b ≠ a) (hq : b < h + 927 ∨ h + 955 ≤ b) : sa (F_X11_init_22 α h a) (F_X11_init α h a) b := sa_tr (sa_nw (by omega)) (tl_X11_23 α h a b hb (by omega))
theorem tl_X11_21 (α : hp_T) (h a : Nat) (b : Nat) (hb : b ≠ a) (hq : b < h + 927 ∨ h + 955 ≤ b) : sa (F_X11_init_21 α h a) (F_X11_init α h a) b := sa_tr (sa_sN hb) (tl_X11_22 α h a b hb (by omega))
theorem tl_X11_20 (α : hp_T) (h a : Nat) (b : Nat) (hb : b ≠ a) (hq : b < h + 925 ∨ h + 955 ≤ b) : sa (F_X11_init_20 α h a) (F_X11_init α h a) b := sa_tr (fr_X5 (F_X11_init_20 α h a) (h + (926)) (h + (925)) (by omega) b (by omega) (by omega)) (tl_X11_21 α h a b hb (by omega))
theorem tl_X11_19 (α : hp_T) (h a : Nat) (b : Nat) (hb : b ≠ a) (hq : b < h + 925 ∨ h + 955 ≤ b) : sa (F_X11_init_19 α h a) (F_X11_init α h a) b := sa_tr (sa_nw (by omega)) (tl_X11_20 α h a b hb (by omega))
theorem tl_X11_18 (α : hp_T) (h a : Nat) (b : Nat) (hb : b ≠ a) (hq : b < h + 925 ∨ h + 955 ≤ b) : sa (F_X11_init_18 α h a) (F_X11_init α h a) b := sa_tr (sa_sN hb) (tl_X11_19 α h a b hb (by omega))
theorem tl_X11_17 (α : hp_T) (h a : Nat) (b : Nat) (hb : b ≠ a) (hq : b < h + 923 ∨ h + 955 ≤ b) : sa (F_X11_init_17 α h a) (F_X11_init α h a) b := sa_tr (fr_X9 (F_X11_init_17 α h a) (h + (924)) (h + (923)) (by omega) b (by omega) (by omega)) (tl_X11_18 α h a b hb (by omega))
theorem tl_X11_16 (α : hp_T) (h a : Nat) (b : Nat) (hb : b ≠ a) (hq : b < h + 923 ∨ h + 955 ≤ b) : sa (F_X11_init_16 α h a) (F_X11_init α h a) b := sa_tr (sa_nw (by omega)) (tl_X11_17 α h a b hb (by omega))
theorem tl_X11_15 (α : hp_T) (h a : Nat) (b : Nat) (hb : b ≠ a) (hq : b < h + 923 ∨ h + 955 ≤ b) : sa (F_X11_init_15 α h a) (F_X11_init α h a) b := sa_tr (sa_sN hb) (tl_X11_16 α h a b hb (by omega))
theorem tl_X11_14 (α : hp_T) (h a : Nat) (b : Nat) (hb : b ≠ a) (hq : b < h + 921 ∨ h + 955 ≤ b) : sa (F_X11_init_14 α h a) (F_X11_init α h a) b := sa_tr (fr_X9 (F_X11_init_14 α h a) (h + (922)) (h + (921)) (by omega) b (by omega) (by omega)) (tl_X11_15 α h a b hb (by omega))
theorem tl_X11_13 (α : hp_T) (h a : Nat) (b : Nat) (hb : b ≠ a) (hq : b < h + 921 ∨ h + 955 ≤ b) : sa (F_X11_init_13 α h a) (F_X11_init α h a) b := sa_tr (sa_nw (by omega)) (tl_X11_14 α h a b hb (by omega))
theorem tl_X11_12 (α : hp_T) (h a : Nat) (b : Nat) (hb : b ≠ a) (hq : b < h + 921 ∨ h + 955 ≤ b) : sa (F_X11_init_12 α h a) (F_X11_init α h a) b := sa_tr (sa_sI hb) (tl_X11_13 α h a b hb (by omega))
theorem tl_X11_11 (α : hp_T) (h a : Nat) (b : Nat) (hb : b ≠ a) (hq : b < h + 921 ∨ h + 955 ≤ b) : sa (F_X11_init_11 α h a) (F_X11_init α h a) b := sa_tr (sa_sN hb) (tl_X11_12 α h a b hb (by omega))
theorem tl_X11_10 (α : hp_T) (h a : Nat) (b : Nat) (hb : b ≠ a) (hq : b < h + 920 ∨ h + 955 ≤ b) : sa (F_X11_init_10 α h a) (F_X11_init α h a) b := sa_tr (sa_nw (by omega)) (tl_X11_11 α h a b hb (by omega))
theorem tl_X11_9 (α : hp_T) (h a : Nat) (b : Nat) (hb : b ≠ a) (hq : b < h + 920 ∨ h + 955 ≤ b) : sa (F_X11_init_9 α h a) (F_X11_init α h a) b := sa_tr (sa_sN hb) (tl_X11_10 α h a b hb (by omega))
theorem tl_X11_8 (α : hp_T) (h a : Nat) (b : Nat) (hb : b ≠ a) (hq : b < h + 918 ∨ h + 955 ≤ b) : sa (F_X11_init_8 α h a) (F_X11_init α h a) b := sa_tr (fr_X5 (F_X11_init_8 α h a) (h + (919)) (h + (918)) (by omega) b (by omega) (by omega)) (tl_X11_9 α h a b hb (by omega))
theorem tl_X11_7 (α : hp_T) (h a : Nat) (b : Nat) (hb : b ≠ a) (hq : b < h + 918 ∨ h + 955 ≤ b) : sa (F_X11_init_7 α h a) (F_X11_init α h a) b := sa_tr (sa_nw (by omega)) (tl_X11_8 α h a b hb (by omega))
theorem tl_X11_6 (α : hp_T) (h a : Nat) (b : Nat) (hb : b ≠ a) (hq : b < h + 918 ∨ h + 955 ≤ b) : sa (F_X11_init_6 α h a) (F_X11_init α h a) b := sa_tr (sa_sN hb) (tl_X11_7 α h a b hb (by omega))
theorem tl_X11_5 (α : hp_T) (h a : Nat) (b : Nat) (hb : b ≠ a) (hq : b < h + 459 ∨ h + 955 ≤ b) : sa (F_X11_init_5 α h a) (F_X11_init α h a) b := sa_tr (fr_X10 (F_X11_init_5 α h a) (h + (460)) (h + (459)) (by omega) b (by omega) (by omega)) (tl_X11_6 α h a b hb (by omega))
theorem tl_X11_4 (α : hp_T) (h a : Nat) (b : Nat) (hb : b ≠ a) (hq : b < h + 459 ∨ h + 955 ≤ b) : sa (F_X11_init_4 α h a) (F_X11_init α h a) b := sa_tr (sa_nw (by omega)) (tl_X11_5 α h a b hb (by omega))
theorem tl_X11_3 (α : hp_T) (h a : Nat) (b : Nat) (hb : b ≠ a) (hq : b < h + 459 ∨ h + 955 ≤ b) : sa (F_X11_init_3 α h a) (F_X11_init α h a) b := sa_tr (sa_sN hb) (tl_X11_4 α h a b hb (by omega))
theorem ka_X11_5 (α : hp_T) (h a : Nat) (ha : a < h) (φ : Nat) : hp_N (F_X11_init_5 α h a) φ a = hp_N (F_X11_init_4 α h a) φ a ∧ hp_I (F_X11_init_5 α h a) φ a = hp_I (F_X11_init_4 α h a) φ a := by
  have q := sa_nw (α := (F_X11_init_4 α h a)) (h := h + (459)) (κ := 111) (b := a) (by omega)
  exact ⟨q.2.2.2.2.1 φ, q.2.1 φ⟩
theorem ka_X11_6 (α : hp_T) (h a : Nat) (ha : a < h) (φ : Nat) : hp_N (F_X11_init_6 α h a) φ a = hp_N (F_X11_init_5 α h a) φ a ∧ hp_I (F_X11_init_6 α h a) φ a = hp_I (F_X11_init_5 α h a) φ a := by
  have q := fr_X10 (F_X11_init_5 α h a) (h + (460)) (h + (459)) (by omega) a (by omega) (by omega)
  exact ⟨q.2.2.2.2.1 φ, q.2.1 φ⟩
theorem ka_X11_7 (α : hp_T) (h a : Nat) (ha : a < h) (φ : Nat) (hφ : φ ≠ 602) : hp_N (F_X11_init_7 α h a) φ a = hp_N (F_X11_init_6 α h a) φ a ∧ hp_I (F_X11_init_7 α h a) φ a = hp_I (F_X11_init_6 α h a) φ a := ⟨sN_ne hφ, hI_sN⟩
theorem ka_X11_8 (α : hp_T) (h a : Nat) (ha : a < h) (φ : Nat) : hp_N (F_X11_init_8 α h a) φ a = hp_N (F_X11_init_7 α h a) φ a ∧ hp_I (F_X11_init_8 α h a) φ a = hp_I (F_X11_init_7 α h a) φ a := by
  have q := sa_nw (α := (F_X11_init_7 α h a)) (h := h + (918)) (κ := 106) (b := a) (by omega)
  exact ⟨q.2.2.2.2.1 φ, q.2.1 φ⟩
theorem ka_X11_9 (α : hp_T) (h a : Nat) (ha : a < h) (φ : Nat) : hp_N (F_X11_init_9 α h a) φ a = hp_N (F_X11_init_8 α h a) φ a ∧ hp_I (F_X11_init_9 α h a) φ a = hp_I (F_X11_init_8 α h a) φ a := by
  have q := fr_X5 (F_X11_init_8 α h a) (h + (919)) (h + (918)) (by omega) a (by omega) (by omega)
  exact ⟨q.2.2.2.2.1 φ, q.2.1 φ⟩
theorem ka_X11_10 (α : hp_T) (h a : Nat) (ha : a < h) (φ : Nat) (hφ : φ ≠ 603) : hp_N (F_X11_init_10 α h a) φ a = hp_N (F_X11_init_9 α h a) φ a ∧ hp_I (F_X11_init_10 α h a) φ a = hp_I (F_X11_init_9 α h a) φ a := ⟨sN_ne hφ, hI_sN⟩
theorem ka_X11_11 (α : hp_T) (h a : Nat) (ha : a < h) (φ : Nat) : hp_N (F_X11_init_11 α h a) φ a = hp_N (F_X11_init_10 α h a) φ a ∧ hp_I (F_X11_init_11 α h a) φ a = hp_I (F_X11_init_10 α h a) φ a := by
  have q := sa_nw (α := (F_X11_init_10 α h a)) (h := h + (920)) (κ := 24) (b := a) (by omega)
  exact ⟨q.2.2.2.2.1 φ, q.2.1 φ⟩
theorem ka_X11_12 (α : hp_T) (h a : Nat) (ha : a < h) (φ : Nat) (hφ : φ ≠ 604) : hp_N (F_X11_init_12 α h a) φ a = hp_N (F_X11_init_11 α h a) φ a ∧ hp_I (F_X11_init_12 α h a) φ a = hp_I (F_X11_init_11 α h a) φ a := ⟨sN_ne hφ, hI_sN⟩
theorem ka_X11_13 (α : hp_T) (h a : Nat) (ha : a < h) (φ : Nat) (hφ : φ ≠ 605) : hp_N (F_X11_init_13 α h a) φ a = hp_N (F_X11_init_12 α h a) φ a ∧ hp_I (F_X11_init_13 α h a) φ a = hp_I (F_X11_init_12 α h a) φ a := ⟨hN_sI, hp_I_ne hφ⟩
theorem ka_X11_14 (α : hp_T) (h a : Nat) (ha : a < h) (φ : Nat) : hp_N (F_X11_init_14 α h a) φ a = hp_N (F_X11_init_13 α h a) φ a ∧ hp_I (F_X11_init_14 α h a) φ a = hp_I (F_X11_init_13 α h a) φ a := by
  have q := sa_nw (α := (F_X11_init_13 α h a)) (h := h + (921)) (κ := 110) (b := a) (by omega)
  exact ⟨q.2.2.2.2.1 φ, q.2.1 φ⟩
theorem ka_X11_15 (α : hp_T) (h a : Nat) (ha : a < h) (φ : Nat) : hp_N (F_X11_init_15 α h a) φ a = hp_N (F_X11_init_14 α h a) φ a ∧ hp_I (F_X11_init_15 α h a) φ a = hp_I (F_X11_init_14 α h a) φ a := by
  have q := fr_X9 (F_X11_init_14 α h a) (h + (922)) (h + (921)) (by omega) a (by omega) (by omega)
  exact ⟨q.2.2.2.2.1 φ, q.2.1 φ⟩
theorem ka_X11_16 (α : hp_T) (h a : Nat) (ha : a < h) (φ : Nat) (hφ : φ ≠ 606) : hp_N (F_X11_init_16 α h a) φ a = hp_N (F_X11_init_15 α h a) φ a ∧ hp_I (F_X11_init_16 α h a) φ a = hp_I (F_X11_init_15 α h a) φ a := ⟨sN_ne hφ, hI_sN⟩
theorem ka_X11_17 (α : hp_T) (h a : Nat) (ha : a < h) (φ : Nat) : hp_N (F_X11_init_17 α h a) φ a = hp_N (F_X11_init_16 α h a) φ a ∧ hp_I (F_X11_init_17 α h a) φ a = hp_I (F_X11_init_16 α h a) φ a := by
  have q := sa_nw (α := (F_X11_init_16 α h a)) (h := h + (923)) (κ := 110) (b := a) (by omega)
  exact ⟨q.2.2.2.2.1 φ, q.2.1 φ⟩
theorem ka_X11_18 (α : hp_T) (h a : Nat) (ha : a < h) (φ : Nat) : hp_N (F_X11_init_18 α h a) φ a = hp_N (F_X11_init_17 α h a) φ a ∧ hp_I (F_X11_init_18 α h a) φ a = hp_I (F_X11_init_17 α h a) φ a := by
  have q := fr_X9 (F_X11_init_17 α h a) (h + (924)) (h + (923)) (by omega) a (by omega) (by omega)
  exact ⟨q.2.2.2.2.1 φ, q.2.1 φ⟩
theorem ka_X11_19 (α : hp_T) (h a : Nat) (ha : a < h) (φ : Nat) (hφ : φ ≠ 607) : hp_N (F_X11_init_19 α h a) φ a = hp_N (F_X11_init_18 α h a) φ a ∧ hp_I (F_X11_init_19 α h a) φ a = hp_I (F_X11_init_18 α h a) φ a := ⟨sN_ne hφ, hI_sN⟩
theorem ka_X11_20 (α : hp_T) (h a : Nat) (ha : a < h) (φ : Nat) : hp_N (F_X11_init_20 α h a) φ a = hp_N (F_X11_init_19 α h a) φ a ∧ hp_I (F_X11_init_20 α h a) φ a = hp_I (F_X11_init_19 α h a) φ a := by
  have q := sa_nw (α := (F_X11_init_19 α h a)) (h := h + (925)) (κ := 106) (b := a) (by omega)
  exact ⟨q.2.2.2.2.1 φ, q.2.1 φ⟩
theorem ka_X11_21 (α : hp_T) (h a : Nat) (ha : a < h) (φ : Nat) : hp_N (F_X11_init_21 α h a) φ a = hp_N (F_X11_init_20 α h a) φ a ∧ hp_I (F_X11_init_21 α h a) φ a = hp_I (F_X11_init_20 α h a) φ a := by
  have q := fr_X5 (F_X11_init_20 α h a) (h + (926)) (h + (925)) (by omega) a (by omega) (by omega)
  exact ⟨q.2.2.2.2.1 φ, q.2.1 φ⟩
theorem ka_X11_22 (α : hp_T) (h a : Nat) (ha : a < h) (φ : Nat) (hφ : φ ≠ 608) : hp_N (F_X11_init_22 α h a) φ a = hp_N (F_X11_init_21 α h a) φ a ∧ hp_I (F_X11_init_22 α h a) φ a = hp_I (F_X11_init_21 α h a) φ a := ⟨sN_ne hφ, hI_sN⟩
theorem ka_X11_23 (α : hp_T) (h a : Nat) (ha : a < h) (φ : Nat) : hp_N (F_X11_init_23 α h a) φ a = hp_N (F_X11_init_22 α h a) φ a ∧ hp_I (F_X11_init_23 α h a) φ a = hp_I (F_X11_init_22 α h a) φ a := by
  have q := sa_nw (α := (F_X11_init_22 α h a)) (h := h + (927)) (κ := 106) (b := a) (by omega)
  exact ⟨q.2.2.2.2.1 φ, q.2.1 φ⟩
theorem ka_X11_24 (α : hp_T) (h a : Nat) (ha : a < h) (φ : Nat) : hp_N (F_X11_init_24 α h a) φ a = hp_N (F_X11_init_23 α h a) φ a ∧ hp_I (F_X11_init_24 α h a) φ a = hp_I (F_X11_init_23 α h a) φ a := by
  have q := fr_X5 (F_X11_init_23 α h a) (h + (928)) (h + (927)) (by omega) a (by omega) (by omega)
  exact ⟨q.2.2.2.2.1 φ, q.2.1 φ⟩
theorem ka_X11_25 (α : hp_T) (h a : Nat) (ha : a < h) (φ : Nat) (hφ : φ ≠ 609) : hp_N (F_X11_init_25 α h a) φ a = hp_N (F_X11_init_24 α h a) φ a ∧ hp_I (F_X11_init_25 α h a) φ a = hp_I (F_X11_init_24 α h a) φ a := ⟨sN_ne hφ, hI_sN⟩
theorem ka_X11_26 (α : hp_T) (h a : Nat) (ha : a < h) (φ : Nat) : hp_N (F_X11_init_26 α h a) φ a = hp_N (F_X11_init_25 α h a) φ a ∧ hp_I (F_X11_init_26 α h a) φ a = hp_I (F_X11_init_25 α h a) φ a := by
  have q := sa_nw (α := (F_X11_init_25 α h a)) (h := h + (929)) (κ := 25) (b := a) (by omega)
  exact ⟨q.2.2.2.2.1 φ, q.2.1 φ⟩
theorem ka_X11_27 (α : hp_T) (h a : Nat) (ha : a < h) (φ : Nat) (hφ : φ ≠ 610) : hp_N (F_X11_init_27 α h a) φ a = hp_N (F_X11_init_26 α h a) φ a ∧ hp_I (F_X11_init_27 α h a) φ a = hp_I (F_X11_init_26 α h a) φ a := ⟨sN_ne hφ, hI_sN⟩
theorem ka_X11_28 (α : hp_T) (h a : Nat) (ha : a < h) (φ : Nat) (hφ : φ ≠ 611) : hp_N (F_X11_init_28 α h a) φ a = hp_N (F_X11_init_27 α h a) φ a ∧ hp_I (F_X11_init_28 α h a) φ a = hp_I (F_X11_init_27 α h a) φ a := ⟨hN_sI, hp_I_ne hφ⟩
theorem kt_X11_46 (α : hp_T) (h a : Nat) (ha : a < h) (φ : Nat) (hφ : φ < 10000) : hp_N (F_X11_init_46 α h a) φ a = hp_N (F_X11_init_46 α h a) φ a ∧ hp_I (F_X11_init_46 α h a) φ a = hp_I (F_X11_init_46 α h a) φ a := ⟨rfl, rfl⟩
theorem kt_X11_45 (α : hp_T) (h a : Nat) (ha : a < h) (φ : Nat) (hφ : φ < 618) : hp_N (F_X11_init_46 α h a) φ a = hp_N (F_X11_init_45 α h a) φ a ∧ hp_I (F_X11_init_46 α h a) φ a = hp_I (F_X11_init_45 α h a) φ a := by
  have p := kt_X11_46 α h a ha φ (by omega)
  have q := ka_X11_46 α h a ha φ (by omega)
  exact ⟨p.1.trans q.1, p.2.trans q.2⟩
theorem kt_X11_44 (α : hp_T) (h a : Nat) (ha : a < h) (φ : Nat) (hφ : φ < 617) : hp_N (F_X11_init_46 α h a) φ a = hp_N (F_X11_init_44 α h a) φ a ∧ hp_I (F_X11_init_46 α h a) φ a = hp_I (F_X11_init_44 α h a) φ a := by
  have p := kt_X11_45 α h a ha φ (by omega)
  have q := ka_X11_45 α h a ha φ (by omega)
  exact ⟨p.1.trans q.1, p.2.trans q.2⟩
theorem kt_X11_43 (α : hp_T) (h a : Nat) (ha : a < h) (φ : Nat) (hφ : φ < 617) : hp_N (F_X11_init_46 α h a) φ a = hp_N (F_X11_init_43 α h a) φ a ∧ hp_I (F_X11_init_46 α h a) φ a = hp_I (F_X11_init_43 α h a) φ a := by
  have p := kt_X11_44 α h a ha φ (by omega)
  have q := ka_X11_44 α h a ha φ
  exact ⟨p.1.trans q.1, p.2.trans q.2⟩
theorem kt_X11_42 (α : hp_T) (h a : Nat) (ha : a < h) (φ : Nat) (hφ : φ < 616) : hp_N (F_X11_init_46 α h a) φ a = hp_N (F_X11_init_42 α h a) φ a ∧ hp_I (F_X11_init_46 α h a) φ a = hp_I (F_X11_init_42 α h a) φ a := by
  have p := kt_X11_43 α h a ha φ (by omega)
  have q := ka_X11_43 α h a ha φ (by omega)
  exact ⟨p.1.trans q.1, p.2.trans q.2⟩
theorem kt_X11_41 (α : hp_T) (h a : Nat) (ha : a < h) (φ : Nat) (hφ : φ < 616) : hp_N (F_X11_init_46 α h a) φ a = hp_N (F_X11_init_41 α h a) φ a ∧ hp_I (F_X11_init_46 α h a) φ a = hp_I (F_X11_init_41 α h a) φ a := by
  have p := kt_X11_42 α h a ha φ (by omega)
  have q := ka_X11_42 α h a ha φ
  exact ⟨p.1.trans q.1, p.2.trans q.2⟩
theorem kt_X11_40 (α : hp_T) (h a : Nat) (ha : a < h) (φ : Nat) (hφ : φ < 616) : hp_N (F_X11_init_46 α h a) φ a = hp_N (F_X11_init_40 α h a) φ a ∧ hp_I (F_X11_init_46 α h a) φ a = hp_I (F_X11_init_40 α h a) φ a := by
  have p := kt_X11_41 α h a ha φ (by omega)
  have q := ka_X11_41 α h a ha φ
  exact ⟨p.1.trans q.1, p.2.trans q.2⟩
theorem kt_X11_39 (α : hp_T) (h a : Nat) (ha : a < h) (φ : Nat) (hφ : φ < 615) : hp_N (F_X11_init_46 α h a) φ a = hp_N (F_X11_init_39 α h a) φ a ∧ hp_I (F_X11_init_46 α h a) φ a = hp_I (F_X11_init_39 α h a) φ a := by
  have p := kt_X11_40 α h a ha φ (by omega)
  have q := ka_X11_40 α h a ha φ (by omega)
  exact ⟨p.1.trans q.1, p.2.trans q.2⟩
theorem kt_X11_38 (α : hp_T) (h a : Nat) (ha : a < h) (φ : Nat) (hφ : φ < 615) : hp_N (F_X11_init_46 α h a) φ a = hp_N (F_X11_init_38 α h a) φ a ∧ hp_I (F_X11_init_46 α h a) φ a = hp_I (F_X11_init_38 α h a) φ a := by
  have p := kt_X11_39 α h a ha φ (by omega)
  have q := ka_X11_39 α h a ha φ
  exact ⟨p.1.trans q.1, p.2.trans q.2⟩
theorem kt_X11_37 (α : hp_T) (h a : Nat) (ha : a < h) (φ : Nat) (hφ : φ < 615) : hp_N (F_X11_init_46 α h a) φ a = hp_N (F_X11_init_37 α h a) φ a ∧ hp_I (F_X11_init_46 α h a) φ a = hp_I (F_X11_init_37 α h a) φ a := by
  have p := kt_X11_38 α h a ha φ (by omega)
  have q := ka_X11_38 α h a ha φ
  exact ⟨p.1.trans q.1, p.2.trans q.2⟩
theorem kt_X11_36 (α : hp_T) (h a : Nat) (ha : a < h) (φ : Nat) (hφ : φ < 614) : hp_N (F_X11_init_46 α h a) φ a = hp_N (F_X11_init_36 α h a) φ a ∧ hp_I (F_X11_init_46 α h a) φ a = hp_I (F_X11_init_36 α h a) φ a := by
  have p := kt_X11_37 α h a ha φ (by omega)
  have q := ka_X11_37 α h a ha φ (by omega)
  exact ⟨p.1.trans q.1, p.2.trans q.2⟩
theorem kt_X11_35 (α : hp_T) (h a : Nat) (ha : a < h) (φ : Nat) (hφ : φ < 614) : hp_N (F_X11_init_46 α h a) φ a = hp_N (F_X11_init_35 α h a) φ a ∧ hp_I (F_X11_init_46 α h a) φ a = hp_I (F_X11_init_35 α h a) φ a := by
  have p := kt_X11_36 α h a ha φ (by omega)
  have q := ka_X11_36 α h a ha φ
  exact ⟨p.1.trans q.1, p.2.trans q.2⟩
theorem kt_X11_34 (α : hp_T) (h a : Nat) (ha : a < h) (φ : Nat) (hφ : φ < 614) : hp_N (F_X11_init_46 α h a) φ a = hp_N (F_X11_init_34 α h a) φ a ∧ hp_I (F_X11_init_46 α h a) φ a = hp_I (F_X11_init_34 α h a) φ a := by
  have p := kt_X11_35 α h a ha φ (by omega)
  have q := ka_X11_35 α h a ha φ
  exact ⟨p.1.trans q.1, p.2.trans q.2⟩
theorem kt_X11_33 (α : hp_T) (h a : Nat) (ha : a < h) (φ : Nat) (hφ : φ < 613) : hp_N (F_X11_init_46 α h a) φ a = hp_N (F_X11_init_33 α h a) φ a ∧ hp_I (F_X11_init_46 α h a) φ a = hp_I (F_X11_init_33 α h a) φ a := by
  have p := kt_X11_34 α h a ha φ (by omega)
  have q := ka_X11_34 α h a ha φ (by omega)
  exact ⟨p.1.trans q.1, p.2.trans q.2⟩
theorem kt_X11_32 (α : hp_T) (h a : Nat) (ha : a < h) (φ : Nat) (hφ : φ < 613) : hp_N (F_X11_init_46 α h a) φ a = hp_N (F_X11_init_32 α h a) φ a ∧ hp_I (F_X11_init_46 α h a) φ a = hp_I (F_X11_init_32 α h a) φ a := by
  have p := kt_X11_33 α h a ha φ (by omega)
  have q := ka_X11_33 α h a ha φ
  exact ⟨p.1.trans q.1, p.2.trans q.2⟩
theorem kt_X11_31 (α : hp_T) (h a : Nat) (ha : a < h) (φ : Nat) (hφ : φ < 613) : hp_N (F_X11_init_46 α h a) φ a = hp_N (F_X11_init_31 α h a) φ a ∧ hp_I (F_X11_init_46 α h a) φ a = hp_I (F_X11_init_31 α h a) φ a := by
  have p := kt_X11_32 α h a ha φ (by omega)
  have q := ka_X11_32 α h a ha φ
  exact ⟨p.1.trans q.1, p.2.trans q.2⟩
theorem kt_X11_30 (α : hp_T) (h a : Nat) (ha : a < h) (φ : Nat) (hφ : φ < 612) : hp_N (F_X11_init_46 α h a) φ a = hp_N (F_X11_init_30 α h a) φ a ∧ hp_I (F_X11_init_46 α h a) φ a = hp_I (F_X11_init_30 α h a) φ a := by
  have p := kt_X11_31 α h a ha φ (by omega)
  have q := ka_X11_31 α h a ha φ (by omega)
  exact ⟨p.1.trans q.1, p.2.trans q.2⟩
theorem kt_X11_29 (α : hp_T) (h a : Nat) (ha : a < h) (φ : Nat) (hφ : φ < 612) : hp_N (F_X11_init_46 α h a) φ a = hp_N (F_X11_init_29 α h a) φ a ∧ hp_I (F_X11_init_46 α h a) φ a = hp_I (F_X11_init_29 α h a) φ a := by
  have p := kt_X11_30 α h a ha φ (by omega)
  have q := ka_X11_30 α h a ha φ
  exact ⟨p.1.trans q.1, p.2.trans q.2⟩
theorem kt_X11_28 (α : hp_T) (h a : Nat) (ha : a < h) (φ : Nat) (hφ : φ < 612) : hp_N (F_X11_init_46 α h a) φ a = hp_N (F_X11_init_28 α h a) φ a ∧ hp_I (F_X11_init_46 α h a) φ a = hp_I (F_X11_init_28 α h a) φ a := by
  have p := kt_X11_29 α h a ha φ (by omega)
  have q := ka_X11_29 α h a ha φ
  exact ⟨p.1.trans q.1, p.2.trans q.2⟩
theorem kt_X11_27 (α : hp_T) (h a : Nat) (ha : a < h) (φ : Nat) (hφ : φ < 611) : hp_N (F_X11_init_46 α h a) φ a = hp_N (F_X11_init_27 α h a) φ a ∧ hp_I (F_X11_init_46 α h a) φ a = hp_I (F_X11_init_27 α h a) φ a := by
  have p := kt_X11_28 α h a ha φ (by omega)
  have q := ka_X11_28 α h a ha φ (by omega)
  exact ⟨p.1.trans q.1, p.2.trans q.2⟩
theorem kt_X11_26 (α : hp_T) (h a : Nat) (ha : a < h) (φ : Nat) (hφ : φ < 610) : hp_N (F_X11_init_46 α h a) φ a = hp_N (F_X11_init_26 α h a) φ a ∧ hp_I (F_X11_init_46 α h a) φ a = hp_I (F_X11_init_26 α h a) φ a := by
  have p := kt_X11_27 α h a ha φ (by omega)
  have q := ka_X11_27 α h a ha φ (by omega)
  exact ⟨p.1.trans q.1, p.2.trans q.2⟩
theorem kt_X11_25 (α : hp_T) (h a : Nat) (ha : a < h) (φ : Nat) (hφ : φ < 610) : hp_N (F_X11_init_46 α h a) φ a = hp_N (F_X11_init_25 α h a) φ a ∧ hp_I (F_X11_init_46 α h a) φ a = hp_I (F_X11_init_25 α h a) φ a := by
  have p := kt_X11_26 α h a ha φ (by omega)
  have q := ka_X11_26 α h a ha φ
  exact ⟨p.1.trans q.1, p.2.trans q.2⟩
theorem kt_X11_24 (α : hp_T) (h a : Nat) (ha : a < h) (φ : Nat) (hφ : φ < 609) : hp_N (F_X11_init_46 α h a) φ a = hp_N (F_X11_init_24 α h a) φ a ∧ hp_I (F_X11_init_46 α h a) φ a = hp_I (F_X11_init_24 α h a) φ a := by
  have p := kt_X11_25 α h a ha φ (by omega)
  have q := ka_X11_25 α h a ha φ (by omega)
  exact ⟨p.1.trans q.1, p.2.trans q.2⟩
theorem kt_X11_23 (α : hp_T) (h a : Nat) (ha : a < h) (φ : Nat) (hφ : φ < 609) : hp_N (F_X11_init_46 α h a) φ a = hp_N (F_X11_init_23 α h a) φ a ∧ hp_I (F_X11_init_46 α h a) φ a = hp_I (F_X11_init_23 α h a) φ a := by
  have p := kt_X11_24 α h a ha φ (by omega)
  have q := ka_X11_24 α h a ha φ
  exact ⟨p.1.trans q.1, p.2.trans q.2⟩
theorem kt_X11_22 (α : hp_T) (h a : Nat) (ha : a < h) (φ : Nat) (hφ : φ < 609) : hp_N (F_X11_init_46 α h a) φ a = hp_N (F_X11_init_22 α h a) φ a ∧ hp_I (F_X11_init_46 α h a) φ a = hp_I (F_X11_init_22 α h a) φ a := by
  have p := kt_X11_23 α h a ha φ (by omega)
  have q := ka_X11_23 α h a ha φ
  exact ⟨p.1.trans q.1, p.2.trans q.2⟩
theorem kt_X11_21 (α : hp_T) (h a : Nat) (ha : a < h) (φ : Nat) (hφ : φ < 608) : hp_N (F_X11_init_46 α h a) φ a = hp_N (F_X11_init_21 α h a) φ a ∧ hp_I (F_X11_init_46 α h a) φ a = hp_I (F_X11_init_21 α h a) φ a := by
  have p := kt_X11_22 α h a ha φ (by omega)
  have q := ka_X11_22 α h a ha φ (by omega)
  exact ⟨p.1.trans q.1, p.2.trans q.2⟩
theorem kt_X11_20 (α : hp_T) (h a : Nat) (ha : a < h) (φ : Nat) (hφ : φ < 608) : hp_N (F_X11_init_46 α h a) φ a = hp_N (F_X11_init_20 α h a) φ a ∧ hp_I (F_X11_init_46 α h a) φ a = hp_I (F_X11_init_20 α h a) φ a := by
  have p := kt_X11_21 α h a ha φ (by omega)
  have q := ka_X11_21 α h a ha φ
  exact ⟨p.1.trans q.1, p.2.trans q.2⟩
theorem kt_X11_19 (α : hp_T) (h a : Nat) (ha : a < h) (φ : Nat) (hφ : φ < 608) : hp_N (F_X11_init_46 α h a) φ a = hp_N (F_X11_init_19 α h a) φ a ∧ hp_I (F_X11_init_46 α h a) φ a = hp_I (F_X11_init_19 α h a) φ a := by
  have p := kt_X11_20 α h a ha φ (by omega)
  have q := ka_X11_20 α h a ha φ
  exact ⟨p.1.trans q.1, p.2.trans q.2⟩
theorem kt_X11_18 (α : hp_T) (h a : Nat) (ha : a < h) (φ : Nat) (hφ : φ < 607) : hp_N (F_X11_init_46 α h a) φ a = hp_N (F_X11_init_18 α h a) φ a ∧ hp_I (F_X11_init_46 α h a) φ a = hp_I (F_X11_init_18 α h a) φ a := by
  have p := kt_X11_19 α h a ha φ (by omega)
  have q := ka_X11_19 α h a ha φ (by omega)
  exact ⟨p.1.trans q.1, p.2.trans q.2⟩
theorem kt_X11_17 (α : hp_T) (h a : Nat) (ha : a < h) (φ : Nat) (hφ : φ < 607) : hp_N (F_X11_init_46 α h a) φ a = hp_N (F_X11_init_17 α h a) φ a ∧ hp_I (F_X11_init_46 α h a) φ a = hp_I (F_X11_init_17 α h a) φ a := by
  have p := kt_X11_18 α h a ha φ (by omega)
  have q := ka_X11_18 α h a ha φ
  exact ⟨p.1.trans q.1, p.2.trans q.2⟩
theorem kt_X11_16 (α : hp_T) (h a : Nat) (ha : a < h) (φ : Nat) (hφ : φ < 607) : hp_N (F_X11_init_46 α h a) φ a = hp_N (F_X11_init_16 α h a) φ a ∧ hp_I (F_X11_init_46 α h a) φ a = hp_I (F_X11_init_16 α h a) φ a := by
  have p := kt_X11_17 α h a ha φ (by omega)
  have q := ka_X11_17 α h a ha φ
  exact ⟨p.1.trans q.1, p.2.trans q.2⟩
theorem kt_X11_15 (α : hp_T) (h a : Nat) (ha : a < h) (φ : Nat) (hφ : φ < 606) : hp_N (F_X11_init_46 α h a) φ a = hp_N (F_X11_init_15 α h a) φ a ∧ hp_I (F_X11_init_46 α h a) φ a = hp_I (F_X11_init_15 α h a) φ a := by
  have p := kt_X11_16 α h a ha φ (by omega)
  have q := ka_X11_16 α h a ha φ (by omega)
  exact ⟨p.1.trans q.1, p.2.trans q.2⟩
theorem kt_X11_14 (α : hp_T) (h a : Nat) (ha : a < h) (φ : Nat) (hφ : φ < 606) : hp_N (F_X11_init_46 α h a) φ a = hp_N (F_X11_init_14 α h a) φ a ∧ hp_I (F_X11_init_46 α h a) φ a = hp_I (F_X11_init_14 α h a) φ a := by
  have p := kt_X11_15 α h a ha φ (by omega)
  have q := ka_X11_15 α h a ha φ
  exact ⟨p.1.trans q.1, p.2.trans q.2⟩
theorem kt_X11_13 (α : hp_T) (h a : Nat) (ha : a < h) (φ : Nat) (hφ : φ < 606) : hp_N (F_X11_init_46 α h a) φ a = hp_N (F_X11_init_13 α h a) φ a ∧ hp_I (F_X11_init_46 α h a) φ a = hp_I (F_X11_init_13 α h a) φ a := by
  have p := kt_X11_14 α h a ha φ (by omega)
  have q := ka_X11_14 α h a ha φ
  exact ⟨p.1.trans q.1, p.2.trans q.2⟩
theorem kt_X11_12 (α : hp_T) (h a : Nat) (ha : a < h) (φ : Nat) (hφ : φ < 605) : hp_N (F_X11_init_46 α h a) φ a = hp_N (F_X11_init_12 α h a) φ a ∧ hp_I (F_X11_init_46 α h a) φ a = hp_I (F_X11_init_12 α h a) φ a := by
  have p := kt_X11_13 α h a ha φ (by omega)
  have q := ka_X11_13 α h a ha φ (by omega)
  exact ⟨p.1.trans q.1, p.2.trans q.2⟩
theorem kt_X11_11 (α : hp_T) (h a : Nat) (ha : a < h) (φ : Nat) (hφ : φ < 604) : hp_N (F_X11_init_46 α h a) φ a = hp_N (F_X11_init_11 α h a) φ a ∧ hp_I (F_X11_init_46 α h a) φ a = hp_I (F_X11_init_11 α h a) φ a := by
  have p := kt_X11_12 α h a ha φ (by omega)
  have q := ka_X11_12 α h a ha φ (by omega)
  exact ⟨p.1.trans q.1, p.2.trans q.2⟩
theorem kt_X11_10 (α : hp_T) (h a : Nat) (ha : a < h) (φ : Nat) (hφ : φ < 604) : hp_N (F_X11_init_46 α h a) φ a = hp_N (F_X11_init_10 α h a) φ a ∧ hp_I (F_X11_init_46 α h a) φ a = hp_I (F_X11_init_10 α h a) φ a := by
  have p := kt_X11_11 α h a ha φ (by omega)
  have q := ka_X11_11 α h a ha φ
  exact ⟨p.1.trans q.1, p.2.trans q.2⟩
theorem kt_X11_9 (α : hp_T) (h a : Nat) (ha : a < h) (φ : Nat) (hφ : φ < 603) : hp_N (F_X11_init_46 α h a) φ a = hp_N (F_X11_init_9 α h a) φ a ∧ hp_I (F_X11_init_46 α h a) φ a = hp_I (F_X11_init_9 α h a) φ a := by
  have p := kt_X11_10 α h a ha φ (by omega)
  have q := ka_X11_10 α h a ha φ (by omega)
  exact ⟨p.1.trans q.1, p.2.trans q.2⟩
theorem kt_X11_8 (α : hp_T) (h a : Nat) (ha : a < h) (φ : Nat) (hφ : φ < 603) : hp_N (F_X11_init_46 α h a) φ a = hp_N (F_X11_init_8 α h a) φ a ∧ hp_I (F_X11_init_46 α h a) φ a = hp_I (F_X11_init_8 α h a) φ a := by
  have p := kt_X11_9 α h a ha φ (by omega)
  have q := ka_X11_9 α h a ha φ
  exact ⟨p.1.trans q.1, p.2.trans q.2⟩
theorem kt_X11_7 (α : hp_T) (h a : Nat) (ha : a < h) (φ : Nat) (hφ : φ < 603) : hp_N (F_X11_init_46 α h a) φ a = hp_N (F_X11_init_7 α h a) φ a ∧ hp_I (F_X11_init_46 α h a) φ a = hp_I (F_X11_init_7 α h a) φ a := by
  have p := kt_X11_8 α h a ha φ (by omega)
  have q := ka_X11_8 α h a ha φ
  exact ⟨p.1.trans q.1, p.2.trans q.2⟩
theorem kt_X11_6 (α : hp_T) (h a : Nat) (ha : a < h) (φ : Nat) (hφ : φ < 602) : hp_N (F_X11_init_46 α h a) φ a = hp_N (F_X11_init_6 α h a) φ a ∧ hp_I (F_X11_init_46 α h a) φ a = hp_I (F_X11_init_6 α h a) φ a := by
  have p := kt_X11_7 α h a ha φ (by omega)
  have q := ka_X11_7 α h a ha φ (by omega)
  exact ⟨p.1.trans q.1, p.2.trans q.2⟩
theorem kt_X11_5 (α : hp_T) (h a : Nat) (ha : a < h) (φ : Nat) (hφ : φ < 602) : hp_N (F_X11_init_46 α h a) φ a = hp_N (F_X11_init_5 α h a) φ a ∧ hp_I (F_X11_init_46 α h a) φ a = hp_I (F_X11_init_5 α h a) φ a := by
  have p := kt_X11_6 α h a ha φ (by omega)
  have q := ka_X11_6 α h a ha φ
  exact ⟨p.1.trans q.1, p.2.trans q.2⟩
theorem kt_X11_4 (α : hp_T) (h a : Nat) (ha : a < h) (φ : Nat) (hφ : φ < 602) : hp_N (F_X11_init_46 α h a) φ a = hp_N (F_X11_init_4 α h a) φ a ∧ hp_I (F_X11_init_46 α h a) φ a = hp_I (F_X11_init_4 α h a) φ a := by
  have p := kt_X11_5 α h a ha φ (by omega)
  have q := ka_X11_5 α h a ha φ
  exact ⟨p.1.trans q.1, p.2.trans q.2⟩
theorem fd_X11_601 (α : hp_T) (h a : Nat) (ha : a < h) : hp_R (F_X11_init α h a) 601 a = h + 0 := cv_R ((kt_X11_4 α h a ha 601 (by decide)).1.trans (show hp_N (hp_sN (F_X11_init_3 α h a) 601 a (some (h + (0)))) 601 a = some (h + (0)) from sN_at))
theorem fd_X11_602 (α : hp_T) (h a : Nat) (ha : a < h) : hp_R (F_X11_init α h a) 602 a = h + 459 := cv_R ((kt_X11_7 α h a ha 602 (by decide)).1.trans (show hp_N (hp_sN (F_X11_init_6 α h a) 602 a (some (h + (459)))) 602 a = some (h + (459)) from sN_at))
theorem fd_X11_603 (α : hp_T) (h a : Nat) (ha : a < h) : hp_R (F_X11_init α h a) 603 a = h + 918 := cv_R ((kt_X11_10 α h a ha 603 (by decide)).1.trans (show hp_N (hp_sN (F_X11_init_9 α h a) 603 a (some (h + (918)))) 603 a = some (h + (918)) from sN_at))
theorem fd_X11_604 (α : hp_T) (h a : Nat) (ha : a < h) : hp_R (F_X11_init α h a) 604 a = h + 920 := cv_R ((kt_X11_12 α h a ha 604 (by decide)).1.trans (show hp_N (hp_sN (F_X11_init_11 α h a) 604 a (some (h + (920)))) 604 a = some (h + (920)) from sN_at))
theorem fd_X11_605 (α : hp_T) (h a : Nat) (ha : a < h) : hp_I (F_X11_init α h a) 605 a = 0 := hI_cv.trans ((kt_X11_13 α h a ha 605 (by decide)).2.trans (show hp_I (hp_sI (F_X11_init_12 α h a) 605 a 0) 605 a = 0 from hp_I_at))
theorem fd_X11_606 (α : hp_T) (h a : Nat) (ha : a < h) : hp_R (F_X11_init α h a) 606 a = h + 921 := cv_R ((kt_X11_16 α h a ha 606 (by decide)).1.trans (show hp_N (hp_sN (F_X11_init_15 α h a) 606 a (some (h + (921)))) 606 a = some (h + (921)) from sN_at))
theorem fd_X11_607 (α : hp_T) (h a : Nat) (ha : a < h) : hp_R (F_X11_init α h a) 607 a = h + 923 := cv_R ((kt_X11_19 α h a ha 607 (by decide)).1.trans (show hp_N (hp_sN (F_X11_init_18 α h a) 607 a (some (h + (923)))) 607 a = some (h + (923)) from sN_at))
theorem fd_X11_608 (α : hp_T) (h a : Nat) (ha : a < h) : hp_R (F_X11_init α h a) 608 a = h + 925 := cv_R ((kt_X11_22 α h a ha 608 (by decide)).1.trans (show hp_N (hp_sN (F_X11_init_21 α h a) 608 a (some (h + (925)))) 608 a = some (h + (925)) from sN_at))
theorem fd_X11_609 (α : hp_T) (h a : Nat) (ha : a < h) : hp_R (F_X11_init α h a) 609 a = h + 927 := cv_R ((kt_X11_25 α h a ha 609 (by decide)).1.trans (show hp_N (hp_sN (F_X11_init_24 α h a) 609 a (some (h + (927)))) 609 a = some (h + (927)) from sN_at))
