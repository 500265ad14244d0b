section JN11_0
set_option maxRecDepth 100000
theorem tl_X11_27 (α : hp_T) (h a : Nat) (b : Nat) (hb : b ≠ a) (hq : b < h + 930 ∨ h + 955 ≤ b) : sa (F_X11_init_27 α h a) (F_X11_init α h a) b := sa_tr (sa_sI hb) (tl_X11_28 α h a b hb (by omega))
theorem tl_X11_26 (α : hp_T) (h a : Nat) (b : Nat) (hb : b ≠ a) (hq : b < h + 930 ∨ h + 955 ≤ b) : sa (F_X11_init_26 α h a) (F_X11_init α h a) b := sa_tr (sa_sN hb) (tl_X11_27 α h a b hb (by omega))
theorem tl_X11_25 (α : hp_T) (h a : Nat) (b : Nat) (hb : b ≠ a) (hq : b < h + 929 ∨ h + 955 ≤ b) : sa (F_X11_init_25 α h a) (F_X11_init α h a) b := sa_tr (sa_nw (by omega)) (tl_X11_26 α h a b hb (by omega))
theorem tl_X11_24 (α : hp_T) (h a : Nat) (b : Nat) (hb : b ≠ a) (hq : b < h + 929 ∨ h + 955 ≤ b) : sa (F_X11_init_24 α h a) (F_X11_init α h a) b := sa_tr (sa_sN hb) (tl_X11_25 α h a b hb (by omega))
theorem tl_X11_23 (α : hp_T) (h a : Nat) (b : Nat) (hb : b ≠ a) (hq : b < h + 927 ∨ h + 955 ≤ b) : sa (F_X11_init_23 α h a) (F_X11_init α h a) b := sa_tr (fr_X5 (F_X11_init_23 α h a) (h + (928)) (h + (927)) (by omega) b (by omega) (by omega)) (tl_X11_24 α h a b hb (by omega))
theorem tl_X11_22 (α : hp_T) (h a : Nat) (b : Nat) (hb : b ≠ a) (hq : b < h + 927 ∨ h + 955 ≤ b) : sa (F_X11_init_22 α h a) (F_X11_init α h a) b := sa_tr (sa_nw (by omega)) (tl_X11_23 α h a b hb (by omega))
theorem tl_X11_21 (α : hp_T) (h a : Nat) (b : Nat) (hb : b ≠ a) (hq : b < h + 927 ∨ h + 955 ≤ b) : sa (F_X11_init_21 α h a) (F_X11_init α h a) b := sa_tr (sa_sN hb) (tl_X11_22 α h a b hb (by omega))
theorem tl_X11_20 (α : hp_T) (h a : Nat) (b : Nat) (hb : b ≠ a) (hq : b < h + 925 ∨ h + 955 ≤ b) : sa (F_X11_init_20 α h a) (F_X11_init α h a) b := sa_tr (fr_X5 (F_X11_init_20 α h a) (h + (926)) (h + (925)) (by omega) b (by omega) (by omega)) (tl_X11_21 α h a b hb (by omega))
theorem tl_X11_19 (α : hp_T) (h a : Nat) (b : Nat) (hb : b ≠ a) (hq : b < h + 925 ∨ h + 955 ≤ b) : sa (F_X11_init_19 α h a) (F_X11_init α h a) b := sa_tr (sa_nw (by omega)) (tl_X11_20 α h a b hb (by omega))
theorem tl_X11_18 (α : hp_T) (h a : Nat) (b : Nat) (hb : b ≠ a) (hq : b < h + 925 ∨ h + 955 ≤ b) : sa (F_X11_init_18 α h a) (F_X11_init α h a) b := sa_tr (sa_sN hb) (tl_X11_19 α h a b hb (by omega))
theorem tl_X11_17 (α : hp_T) (h a : Nat) (b : Nat) (hb : b ≠ a) (hq : b < h + 923 ∨ h + 955 ≤ b) : sa (F_X11_init_17 α h a) (F_X11_init α h a) b := sa_tr (fr_X9 (F_X11_init_17 α h a) (h + (924)) (h + (923)) (by omega) b (by omega) (by omega)) (tl_X11_18 α h a b hb (by omega))
theorem tl_X11_16 (α : hp_T) (h a : Nat) (b : Nat) (hb : b ≠ a) (hq : b < h + 923 ∨ h + 955 ≤ b) : sa (F_X11_init_16 α h a) (F_X11_init α h a) b := sa_tr (sa_nw (by omega)) (tl_X11_17 α h a b hb (by omega))
theorem tl_X11_15 (α : hp_T) (h a : Nat) (b : Nat) (hb : b ≠ a) (hq : b < h + 923 ∨ h + 955 ≤ b) : sa (F_X11_init_15 α h a) (F_X11_init α h a) b := sa_tr (sa_sN hb) (tl_X11_16 α h a b hb (by omega))
theorem tl_X11_14 (α : hp_T) (h a : Nat) (b : Nat) (hb : b ≠ a) (hq : b < h + 921 ∨ h + 955 ≤ b) : sa (F_X11_init_14 α h a) (F_X11_init α h a) b := sa_tr (fr_X9 (F_X11_init_14 α h a) (h + (922)) (h + (921)) (by omega) b (by omega) (by omega)) (tl_X11_15 α h a b hb (by omega))
theorem tl_X11_13 (α : hp_T) (h a : Nat) (b : Nat) (hb : b ≠ a) (hq : b < h + 921 ∨ h + 955 ≤ b) : sa (F_X11_init_13 α h a) (F_X11_init α h a) b := sa_tr (sa_nw (by omega)) (tl_X11_14 α h a b hb (by omega))
theorem tl_X11_12 (α : hp_T) (h a : Nat) (b : Nat) (hb : b ≠ a) (hq : b < h + 921 ∨ h + 955 ≤ b) : sa (F_X11_init_12 α h a) (F_X11_init α h a) b := sa_tr (sa_sI hb) (tl_X11_13 α h a b hb (by omega))
theorem tl_X11_11 (α : hp_T) (h a : Nat) (b : Nat) (hb : b ≠ a) (hq : b < h + 921 ∨ h + 955 ≤ b) : sa (F_X11_init_11 α h a) (F_X11_init α h a) b := sa_tr (sa_sN hb) (tl_X11_12 α h a b hb (by omega))
theorem tl_X11_10 (α : hp_T) (h a : Nat) (b : Nat) (hb : b ≠ a) (hq : b < h + 920 ∨ h + 955 ≤ b) : sa (F_X11_init_10 α h a) (F_X11_init α h a) b := sa_tr (sa_nw (by omega)) (tl_X11_11 α h a b hb (by omega))
theorem tl_X11_9 (α : hp_T) (h a : Nat) (b : Nat) (hb : b ≠ a) (hq : b < h + 920 ∨ h + 955 ≤ b) : sa (F_X11_init_9 α h a) (F_X11_init α h a) b := sa_tr (sa_sN hb) (tl_X11_10 α h a b hb (by omega))
theorem tl_X11_8 (α : hp_T) (h a : Nat) (b : Nat) (hb : b ≠ a) (hq : b < h + 918 ∨ h + 955 ≤ b) : sa (F_X11_init_8 α h a) (F_X11_init α h a) b := sa_tr (fr_X5 (F_X11_init_8 α h a) (h + (919)) (h + (918)) (by omega) b (by omega) (by omega)) (tl_X11_9 α h a b hb (by omega))
theorem tl_X11_7 (α : hp_T) (h a : Nat) (b : Nat) (hb : b ≠ a) (hq : b < h + 918 ∨ h + 955 ≤ b) : sa (F_X11_init_7 α h a) (F_X11_init α h a) b := sa_tr (sa_nw (by omega)) (tl_X11_8 α h a b hb (by omega))
theorem tl_X11_6 (α : hp_T) (h a : Nat) (b : Nat) (hb : b ≠ a) (hq : b < h + 918 ∨ h + 955 ≤ b) : sa (F_X11_init_6 α h a) (F_X11_init α h a) b := sa_tr (sa_sN hb) (tl_X11_7 α h a b hb (by omega))
theorem tl_X11_5 (α : hp_T) (h a : Nat) (b : Nat) (hb : b ≠ a) (hq : b < h + 459 ∨ h + 955 ≤ b) : sa (F_X11_init_5 α h a) (F_X11_init α h a) b := sa_tr (fr_X10 (F_X11_init_5 α h a) (h + (460)) (h + (459)) (by omega) b (by omega) (by omega)) (tl_X11_6 α h a b hb (by omega))
theorem tl_X11_4 (α : hp_T) (h a : Nat) (b : Nat) (hb : b ≠ a) (hq : b < h + 459 ∨ h + 955 ≤ b) : sa (F_X11_init_4 α h a) (F_X11_init α h a) b := sa_tr (sa_nw (by omega)) (tl_X11_5 α h a b hb (by omega))
theorem tl_X11_3 (α : hp_T) (h a : Nat) (b : Nat) (hb : b ≠ a) (hq : b < h + 459 ∨ h + 955 ≤ b) : sa (F_X11_init_3 α h a) (F_X11_init α h a) b := sa_tr (sa_sN hb) (tl_X11_4 α h a b hb (by omega))
theorem ka_X11_5 (α : hp_T) (h a : Nat) (ha : a < h) (φ : Nat) : hp_N (F_X11_init_5 α h a) φ a = hp_N (F_X11_init_4 α h a) φ a ∧ hp_I (F_X11_init_5 α h a) φ a = hp_I (F_X11_init_4 α h a) φ a := by
  have q := sa_nw (α := (F_X11_init_4 α h a)) (h := h + (459)) (κ := 111) (b := a) (by omega)
  exact ⟨q.2.2.2.2.1 φ, q.2.1 φ⟩
theorem ka_X11_6 (α : hp_T) (h a : Nat) (ha : a < h) (φ : Nat) : hp_N (F_X11_init_6 α h a) φ a = hp_N (F_X11_init_5 α h a) φ a ∧ hp_I (F_X11_init_6 α h a) φ a = hp_I (F_X11_init_5 α h a) φ a := by
  have q := fr_X10 (F_X11_init_5 α h a) (h + (460)) (h + (459)) (by omega) a (by omega) (by omega)
  exact ⟨q.2.2.2.2.1 φ, q.2.1 φ⟩
theorem ka_X11_7 (α : hp_T) (h a : Nat) (ha : a < h) (φ : Nat) (hφ : φ ≠ 602) : hp_N (F_X11_init_7 α h a) φ a = hp_N (F_X11_init_6 α h a) φ a ∧ hp_I (F_X11_init_7 α h a) φ a = hp_I (F_X11_init_6 α h a) φ a := ⟨sN_ne hφ, hI_sN⟩
theorem ka_X11_8 (α : hp_T) (h a : Nat) (ha : a < h) (φ : Nat) : hp_N (F_X11_init_8 α h a) φ a = hp_N (F_X11_init_7 α h a) φ a ∧ hp_I (F_X11_init_8 α h a) φ a = hp_I (F_X11_init_7 α h a) φ a := by
  have q := sa_nw (α := (F_X11_init_7 α h a)) (h := h + (918)) (κ := 106) (b := a) (by omega)
  exact ⟨q.2.2.2.2.1 φ, q.2.1 φ⟩
theorem ka_X11_9 (α : hp_T) (h a : Nat) (ha : a < h) (φ : Nat) : hp_N (F_X11_init_9 α h a) φ a = hp_N (F_X11_init_8 α h a) φ a ∧ hp_I (F_X11_init_9 α h a) φ a = hp_I (F_X11_init_8 α h a) φ a := by
  have q := fr_X5 (F_X11_init_8 α h a) (h + (919)) (h + (918)) (by omega) a (by omega) (by omega)
  exact ⟨q.2.2.2.2.1 φ, q.2.1 φ⟩
theorem ka_X11_10 (α : hp_T) (h a : Nat) (ha : a < h) (φ : Nat) (hφ : φ ≠ 603) : hp_N (F_X11_init_10 α h a) φ a = hp_N (F_X11_init_9 α h a) φ a ∧ hp_I (F_X11_init_10 α h a) φ a = hp_I (F_X11_init_9 α h a) φ a := ⟨sN_ne hφ, hI_sN⟩
theorem ka_X11_11 (α : hp_T) (h a : Nat) (ha : a < h) (φ : Nat) : hp_N (F_X11_init_11 α h a) φ a = hp_N (F_X11_init_10 α h a) φ a ∧ hp_I (F_X11_init_11 α h a) φ a = hp_I (F_X11_init_10 α h a) φ a := by
  have q := sa_nw (α := (F_X11_init_10 α h a)) (h := h + (920)) (κ := 24) (b := a) (by omega)
  exact ⟨q.2.2.2.2.1 φ, q.2.1 φ⟩
theorem ka_X11_12 (α : hp_T) (h a : Nat) (ha : a < h) (φ : Nat) (hφ : φ ≠ 604) : hp_N (F_X11_init_12 α h a) φ a = hp_N (F_X11_init_11 α h a) φ a ∧ hp_I (F_X11_init_12 α h a) φ a = hp_I (F_X11_init_11 α h a) φ a := ⟨sN_ne hφ, hI_sN⟩
theorem ka_X11_13 (α : hp_T) (h a : Nat) (ha : a < h) (φ : Nat) (hφ : φ ≠ 605) : hp_N (F_X11_init_13 α h a) φ a = hp_N (F_X11_init_12 α h a) φ a ∧ hp_I (F_X11_init_13 α h a) φ a = hp_I (F_X11_init_12 α h a) φ a := ⟨hN_sI, hp_I_ne hφ⟩
theorem ka_X11_14 (α : hp_T) (h a : Nat) (ha : a < h) (φ : Nat) : hp_N (F_X11_init_14 α h a) φ a = hp_N (F_X11_init_13 α h a) φ a ∧ hp_I (F_X11_init_14 α h a) φ a = hp_I (F_X11_init_13 α h a) φ a := by
  have q := sa_nw (α := (F_X11_init_13 α h a)) (h := h + (921)) (κ := 110) (b := a) (by omega)
  exact ⟨q.2.2.2.2.1 φ, q.2.1 φ⟩
theorem ka_X11_15 (α : hp_T) (h a : Nat) (ha : a < h) (φ : Nat) : hp_N (F_X11_init_15 α h a) φ a = hp_N (F_X11_init_14 α h a) φ a ∧ hp_I (F_X11_init_15 α h a) φ a = hp_I (F_X11_init_14 α h a) φ a := by
  have q := fr_X9 (F_X11_init_14 α h a) (h + (922)) (h + (921)) (by omega) a (by omega) (by omega)
  exact ⟨q.2.2.2.2.1 φ, q.2.1 φ⟩
theorem ka_X11_16 (α : hp_T) (h a : Nat) (ha : a < h) (φ : Nat) (hφ : φ ≠ 606) : hp_N (F_X11_init_16 α h a) φ a = hp_N (F_X11_init_15 α h a) φ a ∧ hp_I (F_X11_init_16 α h a) φ a = hp_I (F_X11_init_15 α h a) φ a := ⟨sN_ne hφ, hI_sN⟩
theorem ka_X11_17 (α : hp_T) (h a : Nat) (ha : a < h) (φ : Nat) : hp_N (F_X11_init_17 α h a) φ a = hp_N (F_X11_init_16 α h a) φ a ∧ hp_I (F_X11_init_17 α h a) φ a = hp_I (F_X11_init_16 α h a) φ a := by
  have q := sa_nw (α := (F_X11_init_16 α h a)) (h := h + (923)) (κ := 110) (b := a) (by omega)
  exact ⟨q.2.2.2.2.1 φ, q.2.1 φ⟩
theorem ka_X11_18 (α : hp_T) (h a : Nat) (ha : a < h) (φ : Nat) : hp_N (F_X11_init_18 α h a) φ a = hp_N (F_X11_init_17 α h a) φ a ∧ hp_I (F_X11_init_18 α h a) φ a = hp_I (F_X11_init_17 α h a) φ a := by
  have q := fr_X9 (F_X11_init_17 α h a) (h + (924)) (h + (923)) (by omega) a (by omega) (by omega)
  exact ⟨q.2.2.2.2.1 φ, q.2.1 φ⟩
theorem ka_X11_19 (α : hp_T) (h a : Nat) (ha : a < h) (φ : Nat) (hφ : φ ≠ 607) : hp_N (F_X11_init_19 α h a) φ a = hp_N (F_X11_init_18 α h a) φ a ∧ hp_I (F_X11_init_19 α h a) φ a = hp_I (F_X11_init_18 α h a) φ a := ⟨sN_ne hφ, hI_sN⟩
theorem ka_X11_20 (α : hp_T) (h a : Nat) (ha : a < h) (φ : Nat) : hp_N (F_X11_init_20 α h a) φ a = hp_N (F_X11_init_19 α h a) φ a ∧ hp_I (F_X11_init_20 α h a) φ a = hp_I (F_X11_init_19 α h a) φ a := by
  have q := sa_nw (α := (F_X11_init_19 α h a)) (h := h + (925)) (κ := 106) (b := a) (by omega)
  exact ⟨q.2.2.2.2.1 φ, q.2.1 φ⟩
theorem ka_X11_21 (α : hp_T) (h a : Nat) (ha : a < h) (φ : Nat) : hp_N (F_X11_init_21 α h a) φ a = hp_N (F_X11_init_20 α h a) φ a ∧ hp_I (F_X11_init_21 α h a) φ a = hp_I (F_X11_init_20 α h a) φ a := by
  have q := fr_X5 (F_X11_init_20 α h a) (h + (926)) (h + (925)) (by omega) a (by omega) (by omega)
  exact ⟨q.2.2.2.2.1 φ, q.2.1 φ⟩
theorem ka_X11_22 (α : hp_T) (h a : Nat) (ha : a < h) (φ : Nat) (hφ : φ ≠ 608) : hp_N (F_X11_init_22 α h a) φ a = hp_N (F_X11_init_21 α h a) φ a ∧ hp_I (F_X11_init_22 α h a) φ a = hp_I (F_X11_init_21 α h a) φ a := ⟨sN_ne hφ, hI_sN⟩
theorem ka_X11_23 (α : hp_T) (h a : Nat) (ha : a < h) (φ : Nat) : hp_N (F_X11_init_23 α h a) φ a = hp_N (F_X11_init_22 α h a) φ a ∧ hp_I (F_X11_init_23 α h a) φ a = hp_I (F_X11_init_22 α h a) φ a := by
  have q := sa_nw (α := (F_X11_init_22 α h a)) (h := h + (927)) (κ := 106) (b := a) (by omega)
  exact ⟨q.2.2.2.2.1 φ, q.2.1 φ⟩
theorem ka_X11_24 (α : hp_T) (h a : Nat) (ha : a < h) (φ : Nat) : hp_N (F_X11_init_24 α h a) φ a = hp_N (F_X11_init_23 α h a) φ a ∧ hp_I (F_X11_init_24 α h a) φ a = hp_I (F_X11_init_23 α h a) φ a := by
  have q := fr_X5 (F_X11_init_23 α h a) (h + (928)) (h + (927)) (by omega) a (by omega) (by omega)
  exact ⟨q.2.2.2.2.1 φ, q.2.1 φ⟩
theorem ka_X11_25 (α : hp_T) (h a : Nat) (ha : a < h) (φ : Nat) (hφ : φ ≠ 609) : hp_N (F_X11_init_25 α h a) φ a = hp_N (F_X11_init_24 α h a) φ a ∧ hp_I (F_X11_init_25 α h a) φ a = hp_I (F_X11_init_24 α h a) φ a := ⟨sN_ne hφ, hI_sN⟩
theorem ka_X11_26 (α : hp_T) (h a : Nat) (ha : a < h) (φ : Nat) : hp_N (F_X11_init_26 α h a) φ a = hp_N (F_X11_init_25 α h a) φ a ∧ hp_I (F_X11_init_26 α h a) φ a = hp_I (F_X11_init_25 α h a) φ a := by
  have q := sa_nw (α := (F_X11_init_25 α h a)) (h := h + (929)) (κ := 25) (b := a) (by omega)
  exact ⟨q.2.2.2.2.1 φ, q.2.1 φ⟩
theorem ka_X11_27 (α : hp_T) (h a : Nat) (ha : a < h) (φ : Nat) (hφ : φ ≠ 610) : hp_N (F_X11_init_27 α h a) φ a = hp_N (F_X11_init_26 α h a) φ a ∧ hp_I (F_X11_init_27 α h a) φ a = hp_I (F_X11_init_26 α h a) φ a := ⟨sN_ne hφ, hI_sN⟩
theorem ka_X11_28 (α : hp_T) (h a : Nat) (ha : a < h) (φ : Nat) (hφ : φ ≠ 611) : hp_N (F_X11_init_28 α h a) φ a = hp_N (F_X11_init_27 α h a) φ a ∧ hp_I (F_X11_init_28 α h a) φ a = hp_I (F_X11_init_27 α h a) φ a := ⟨hN_sI, hp_I_ne hφ⟩
theorem kt_X11_46 (α : hp_T) (h a : Nat) (ha : a < h) (φ : Nat) (hφ : φ < 10000) : hp_N (F_X11_init_46 α h a) φ a = hp_N (F_X11_init_46 α h a) φ a ∧ hp_I (F_X11_init_46 α h a) φ a = hp_I (F_X11_init_46 α h a) φ a := ⟨rfl, rfl⟩
theorem kt_X11_45 (α : hp_T) (h a : Nat) (ha : a < h) (φ : Nat) (hφ : φ < 618) : hp_N (F_X11_init_46 α h a) φ a = hp_N (F_X11_init_45 α h a) φ a ∧ hp_I (F_X11_init_46 α h a) φ a = hp_I (F_X11_init_45 α h a) φ a := by
  have p := kt_X11_46 α h a ha φ (by omega)
  have q := ka_X11_46 α h a ha φ (by omega)
  exact ⟨p.1.trans q.1, p.2.trans q.2⟩
theorem kt_X11_44 (α : hp_T) (h a : Nat) (ha : a < h) (φ : Nat) (hφ : φ < 617) : hp_N (F_X11_init_46 α h a) φ a = hp_N (F_X11_init_44 α h a) φ a ∧ hp_I (F_X11_init_46 α h a) φ a = hp_I (F_X11_init_44 α h a) φ a := by
  have p := kt_X11_45 α h a ha φ (by omega)
  have q := ka_X11_45 α h a ha φ (by omega)
  exact ⟨p.1.trans q.1, p.2.trans q.2⟩
theorem kt_X11_43 (α : hp_T) (h a : Nat) (ha : a < h) (φ : Nat) (hφ : φ < 617) : hp_N (F_X11_init_46 α h a) φ a = hp_N (F_X11_init_43 α h a) φ a ∧ hp_I (F_X11_init_46 α h a) φ a = hp_I (F_X11_init_43 α h a) φ a := by
  have p := kt_X11_44 α h a ha φ (by omega)
  have q := ka_X11_44 α h a ha φ
  exact ⟨p.1.trans q.1, p.2.trans q.2⟩
theorem kt_X11_42 (α : hp_T) (h a : Nat) (ha : a < h) (φ : Nat) (hφ : φ < 616) : hp_N (F_X11_init_46 α h a) φ a = hp_N (F_X11_init_42 α h a) φ a ∧ hp_I (F_X11_init_46 α h a) φ a = hp_I (F_X11_init_42 α h a) φ a := by
  have p := kt_X11_43 α h a ha φ (by omega)
  have q := ka_X11_43 α h a ha φ (by omega)
  exact ⟨p.1.trans q.1, p.2.trans q.2⟩
theorem kt_X11_41 (α : hp_T) (h a : Nat) (ha : a < h) (φ : Nat) (hφ : φ < 616) : hp_N (F_X11_init_46 α h a) φ a = hp_N (F_X11_init_41 α h a) φ a ∧ hp_I (F_X11_init_46 α h a) φ a = hp_I (F_X11_init_41 α h a) φ a := by
  have p := kt_X11_42 α h a ha φ (by omega)
  have q := ka_X11_42 α h a ha φ
  exact ⟨p.1.trans q.1, p.2.trans q.2⟩
theorem kt_X11_40 (α : hp_T) (h a : Nat) (ha : a < h) (φ : Nat) (hφ : φ < 616) : hp_N (F_X11_init_46 α h a) φ a = hp_N (F_X11_init_40 α h a) φ a ∧ hp_I (F_X11_init_46 α h a) φ a = hp_I (F_X11_init_40 α h a) φ a := by
  have p := kt_X11_41 α h a ha φ (by omega)
  have q := ka_X11_41 α h a ha φ
  exact ⟨p.1.trans q.1, p.2.trans q.2⟩
theorem kt_X11_39 (α : hp_T) (h a : Nat) (ha : a < h) (φ : Nat) (hφ : φ < 615) : hp_N (F_X11_init_46 α h a) φ a = hp_N (F_X11_init_39 α h a) φ a ∧ hp_I (F_X11_init_46 α h a) φ a = hp_I (F_X11_init_39 α h a) φ a := by
  have p := kt_X11_40 α h a ha φ (by omega)
  have q := ka_X11_40 α h a ha φ (by omega)
  exact ⟨p.1.trans q.1, p.2.trans q.2⟩
theorem kt_X11_38 (α : hp_T) (h a : Nat) (ha : a < h) (φ : Nat) (hφ : φ < 615) : hp_N (F_X11_init_46 α h a) φ a = hp_N (F_X11_init_38 α h a) φ a ∧ hp_I (F_X11_init_46 α h a) φ a = hp_I (F_X11_init_38 α h a) φ a := by
  have p := kt_X11_39 α h a ha φ (by omega)
  have q := ka_X11_39 α h a ha φ
  exact ⟨p.1.trans q.1, p.2.trans q.2⟩
theorem kt_X11_37 (α : hp_T) (h a : Nat) (ha : a < h) (φ : Nat) (hφ : φ < 615) : hp_N (F_X11_init_46 α h a) φ a = hp_N (F_X11_init_37 α h a) φ a ∧ hp_I (F_X11_init_46 α h a) φ a = hp_I (F_X11_init_37 α h a) φ a := by
  have p := kt_X11_38 α h a ha φ (by omega)
  have q := ka_X11_38 α h a ha φ
  exact ⟨p.1.trans q.1, p.2.trans q.2⟩
theorem kt_X11_36 (α : hp_T) (h a : Nat) (ha : a < h) (φ : Nat) (hφ : φ < 614) : hp_N (F_X11_init_46 α h a) φ a = hp_N (F_X11_init_36 α h a) φ a ∧ hp_I (F_X11_init_46 α h a) φ a = hp_I (F_X11_init_36 α h a) φ a := by
  have p := kt_X11_37 α h a ha φ (by omega)
  have q := ka_X11_37 α h a ha φ (by omega)
  exact ⟨p.1.trans q.1, p.2.trans q.2⟩
theorem kt_X11_35 (α : hp_T) (h a : Nat) (ha : a < h) (φ : Nat) (hφ : φ < 614) : hp_N (F_X11_init_46 α h a) φ a = hp_N (F_X11_init_35 α h a) φ a ∧ hp_I (F_X11_init_46 α h a) φ a = hp_I (F_X11_init_35 α h a) φ a := by
  have p := kt_X11_36 α h a ha φ (by omega)
  have q := ka_X11_36 α h a ha φ
  exact ⟨p.1.trans q.1, p.2.trans q.2⟩
theorem kt_X11_34 (α : hp_T) (h a : Nat) (ha : a < h) (φ : Nat) (hφ : φ < 614) : hp_N (F_X11_init_46 α h a) φ a = hp_N (F_X11_init_34 α h a) φ a ∧ hp_I (F_X11_init_46 α h a) φ a = hp_I (F_X11_init_34 α h a) φ a := by
  have p := kt_X11_35 α h a ha φ (by omega)
  have q := ka_X11_35 α h a ha φ
  exact ⟨p.1.trans q.1, p.2.trans q.2⟩
theorem kt_X11_33 (α : hp_T) (h a : Nat) (ha : a < h) (φ : Nat) (hφ : φ < 613) : hp_N (F_X11_init_46 α h a) φ a = hp_N (F_X11_init_33 α h a) φ a ∧ hp_I (F_X11_init_46 α h a) φ a = hp_I (F_X11_init_33 α h a) φ a := by
  have p := kt_X11_34 α h a ha φ (by omega)
  have q := ka_X11_34 α h a ha φ (by omega)
  exact ⟨p.1.trans q.1, p.2.trans q.2⟩
theorem kt_X11_32 (α : hp_T) (h a : Nat) (ha : a < h) (φ : Nat) (hφ : φ < 613) : hp_N (F_X11_init_46 α h a) φ a = hp_N (F_X11_init_32 α h a) φ a ∧ hp_I (F_X11_init_46 α h a) φ a = hp_I (F_X11_init_32 α h a) φ a := by
  have p := kt_X11_33 α h a ha φ (by omega)
  have q := ka_X11_33 α h a ha φ
  exact ⟨p.1.trans q.1, p.2.trans q.2⟩
theorem kt_X11_31 (α : hp_T) (h a : Nat) (ha : a < h) (φ : Nat) (hφ : φ < 613) : hp_N (F_X11_init_46 α h a) φ a = hp_N (F_X11_init_31 α h a) φ a ∧ hp_I (F_X11_init_46 α h a) φ a = hp_I (F_X11_init_31 α h a) φ a := by
  have p := kt_X11_32 α h a ha φ (by omega)
  have q := ka_X11_32 α h a ha φ
  exact ⟨p.1.trans q.1, p.2.trans q.2⟩
theorem kt_X11_30 (α : hp_T) (h a : Nat) (ha : a < h) (φ : Nat) (hφ : φ < 612) : hp_N (F_X11_init_46 α h a) φ a = hp_N (F_X11_init_30 α h a) φ a ∧ hp_I (F_X11_init_46 α h a) φ a = hp_I (F_X11_init_30 α h a) φ a := by
  have p := kt_X11_31 α h a ha φ (by omega)
  have q := ka_X11_31 α h a ha φ (by omega)
  exact ⟨p.1.trans q.1, p.2.trans q.2⟩
theorem kt_X11_29 (α : hp_T) (h a : Nat) (ha : a < h) (φ : Nat) (hφ : φ < 612) : hp_N (F_X11_init_46 α h a) φ a = hp_N (F_X11_init_29 α h a) φ a ∧ hp_I (F_X11_init_46 α h a) φ a = hp_I (F_X11_init_29 α h a) φ a := by
  have p := kt_X11_30 α h a ha φ (by omega)
  have q := ka_X11_30 α h a ha φ
  exact ⟨p.1.trans q.1, p.2.trans q.2⟩
theorem kt_X11_28 (α : hp_T) (h a : Nat) (ha : a < h) (φ : Nat) (hφ : φ < 612) : hp_N (F_X11_init_46 α h a) φ a = hp_N (F_X11_init_28 α h a) φ a ∧ hp_I (F_X11_init_46 α h a) φ a = hp_I (F_X11_init_28 α h a) φ a := by
  have p := kt_X11_29 α h a ha φ (by omega)
  have q := ka_X11_29 α h a ha φ
  exact ⟨p.1.trans q.1, p.2.trans q.2⟩
theorem kt_X11_27 (α : hp_T) (h a : Nat) (ha : a < h) (φ : Nat) (hφ : φ < 611) : hp_N (F_X11_init_46 α h a) φ a = hp_N (F_X11_init_27 α h a) φ a ∧ hp_I (F_X11_init_46 α h a) φ a = hp_I (F_X11_init_27 α h a) φ a := by
  have p := kt_X11_28 α h a ha φ (by omega)
  have q := ka_X11_28 α h a ha φ (by omega)
  exact ⟨p.1.trans q.1, p.2.trans q.2⟩
theorem kt_X11_26 (α : hp_T) (h a : Nat) (ha : a < h) (φ : Nat) (hφ : φ < 610) : hp_N (F_X11_init_46 α h a) φ a = hp_N (F_X11_init_26 α h a) φ a ∧ hp_I (F_X11_init_46 α h a) φ a = hp_I (F_X11_init_26 α h a) φ a := by
  have p := kt_X11_27 α h a ha φ (by omega)
  have q := ka_X11_27 α h a ha φ (by omega)
  exact ⟨p.1.trans q.1, p.2.trans q.2⟩
theorem kt_X11_25 (α : hp_T) (h a : Nat) (ha : a < h) (φ : Nat) (hφ : φ < 610) : hp_N (F_X11_init_46 α h a) φ a = hp_N (F_X11_init_25 α h a) φ a ∧ hp_I (F_X11_init_46 α h a) φ a = hp_I (F_X11_init_25 α h a) φ a := by
  have p := kt_X11_26 α h a ha φ (by omega)
  have q := ka_X11_26 α h a ha φ
  exact ⟨p.1.trans q.1, p.2.trans q.2⟩
theorem kt_X11_24 (α : hp_T) (h a : Nat) (ha : a < h) (φ : Nat) (hφ : φ < 609) : hp_N (F_X11_init_46 α h a) φ a = hp_N (F_X11_init_24 α h a) φ a ∧ hp_I (F_X11_init_46 α h a) φ a = hp_I (F_X11_init_24 α h a) φ a := by
  have p := kt_X11_25 α h a ha φ (by omega)
  have q := ka_X11_25 α h a ha φ (by omega)
  exact ⟨p.1.trans q.1, p.2.trans q.2⟩
theorem kt_X11_23 (α : hp_T) (h a : Nat) (ha : a < h) (φ : Nat) (hφ : φ < 609) : hp_N (F_X11_init_46 α h a) φ a = hp_N (F_X11_init_23 α h a) φ a ∧ hp_I (F_X11_init_46 α h a) φ a = hp_I (F_X11_init_23 α h a) φ a := by
  have p := kt_X11_24 α h a ha φ (by omega)
  have q := ka_X11_24 α h a ha φ
  exact ⟨p.1.trans q.1, p.2.trans q.2⟩
theorem kt_X11_22 (α : hp_T) (h a : Nat) (ha : a < h) (φ : Nat) (hφ : φ < 609) : hp_N (F_X11_init_46 α h a) φ a = hp_N (F_X11_init_22 α h a) φ a ∧ hp_I (F_X11_init_46 α h a) φ a = hp_I (F_X11_init_22 α h a) φ a := by
  have p := kt_X11_23 α h a ha φ (by omega)
  have q := ka_X11_23 α h a ha φ
  exact ⟨p.1.trans q.1, p.2.trans q.2⟩
theorem kt_X11_21 (α : hp_T) (h a : Nat) (ha : a < h) (φ : Nat) (hφ : φ < 608) : hp_N (F_X11_init_46 α h a) φ a = hp_N (F_X11_init_21 α h a) φ a ∧ hp_I (F_X11_init_46 α h a) φ a = hp_I (F_X11_init_21 α h a) φ a := by
  have p := kt_X11_22 α h a ha φ (by omega)
  have q := ka_X11_22 α h a ha φ (by omega)
  exact ⟨p.1.trans q.1, p.2.trans q.2⟩
theorem kt_X11_20 (α : hp_T) (h a : Nat) (ha : a < h) (φ : Nat) (hφ : φ < 608) : hp_N (F_X11_init_46 α h a) φ a = hp_N (F_X11_init_20 α h a) φ a ∧ hp_I (F_X11_init_46 α h a) φ a = hp_I (F_X11_init_20 α h a) φ a := by
  have p := kt_X11_21 α h a ha φ (by omega)
  have q := ka_X11_21 α h a ha φ
  exact ⟨p.1.trans q.1, p.2.trans q.2⟩
theorem kt_X11_19 (α : hp_T) (h a : Nat) (ha : a < h) (φ : Nat) (hφ : φ < 608) : hp_N (F_X11_init_46 α h a) φ a = hp_N (F_X11_init_19 α h a) φ a ∧ hp_I (F_X11_init_46 α h a) φ a = hp_I (F_X11_init_19 α h a) φ a := by
  have p := kt_X11_20 α h a ha φ (by omega)
  have q := ka_X11_20 α h a ha φ
  exact ⟨p.1.trans q.1, p.2.trans q.2⟩
theorem kt_X11_18 (α : hp_T) (h a : Nat) (ha : a < h) (φ : Nat) (hφ : φ < 607) : hp_N (F_X11_init_46 α h a) φ a = hp_N (F_X11_init_18 α h a) φ a ∧ hp_I (F_X11_init_46 α h a) φ a = hp_I (F_X11_init_18 α h a) φ a := by
  have p := kt_X11_19 α h a ha φ (by omega)
  have q := ka_X11_19 α h a ha φ (by omega)
  exact ⟨p.1.trans q.1, p.2.trans q.2⟩
theorem kt_X11_17 (α : hp_T) (h a : Nat) (ha : a < h) (φ : Nat) (hφ : φ < 607) : hp_N (F_X11_init_46 α h a) φ a = hp_N (F_X11_init_17 α h a) φ a ∧ hp_I (F_X11_init_46 α h a) φ a = hp_I (F_X11_init_17 α h a) φ a := by
  have p := kt_X11_18 α h a ha φ (by omega)
  have q := ka_X11_18 α h a ha φ
  exact ⟨p.1.trans q.1, p.2.trans q.2⟩
theorem kt_X11_16 (α : hp_T) (h a : Nat) (ha : a < h) (φ : Nat) (hφ : φ < 607) : hp_N (F_X11_init_46 α h a) φ a = hp_N (F_X11_init_16 α h a) φ a ∧ hp_I (F_X11_init_46 α h a) φ a = hp_I (F_X11_init_16 α h a) φ a := by
  have p := kt_X11_17 α h a ha φ (by omega)
  have q := ka_X11_17 α h a ha φ
  exact ⟨p.1.trans q.1, p.2.trans q.2⟩
theorem kt_X11_15 (α : hp_T) (h a : Nat) (ha : a < h) (φ : Nat) (hφ : φ < 606) : hp_N (F_X11_init_46 α h a) φ a = hp_N (F_X11_init_15 α h a) φ a ∧ hp_I (F_X11_init_46 α h a) φ a = hp_I (F_X11_init_15 α h a) φ a := by
  have p := kt_X11_16 α h a ha φ (by omega)
  have q := ka_X11_16 α h a ha φ (by omega)
  exact ⟨p.1.trans q.1, p.2.trans q.2⟩
theorem kt_X11_14 (α : hp_T) (h a : Nat) (ha : a < h) (φ : Nat) (hφ : φ < 606) : hp_N (F_X11_init_46 α h a) φ a = hp_N (F_X11_init_14 α h a) φ a ∧ hp_I (F_X11_init_46 α h a) φ a = hp_I (F_X11_init_14 α h a) φ a := by
  have p := kt_X11_15 α h a ha φ (by omega)
  have q := ka_X11_15 α h a ha φ
  exact ⟨p.1.trans q.1, p.2.trans q.2⟩
theorem kt_X11_13 (α : hp_T) (h a : Nat) (ha : a < h) (φ : Nat) (hφ : φ < 606) : hp_N (F_X11_init_46 α h a) φ a = hp_N (F_X11_init_13 α h a) φ a ∧ hp_I (F_X11_init_46 α h a) φ a = hp_I (F_X11_init_13 α h a) φ a := by
  have p := kt_X11_14 α h a ha φ (by omega)
  have q := ka_X11_14 α h a ha φ
  exact ⟨p.1.trans q.1, p.2.trans q.2⟩
theorem kt_X11_12 (α : hp_T) (h a : Nat) (ha : a < h) (φ : Nat) (hφ : φ < 605) : hp_N (F_X11_init_46 α h a) φ a = hp_N (F_X11_init_12 α h a) φ a ∧ hp_I (F_X11_init_46 α h a) φ a = hp_I (F_X11_init_12 α h a) φ a := by
  have p := kt_X11_13 α h a ha φ (by omega)
  have q := ka_X11_13 α h a ha φ (by omega)
  exact ⟨p.1.trans q.1, p.2.trans q.2⟩
theorem kt_X11_11 (α : hp_T) (h a : Nat) (ha : a < h) (φ : Nat) (hφ : φ < 604) : hp_N (F_X11_init_46 α h a) φ a = hp_N (F_X11_init_11 α h a) φ a ∧ hp_I (F_X11_init_46 α h a) φ a = hp_I (F_X11_init_11 α h a) φ a := by
  have p := kt_X11_12 α h a ha φ (by omega)
  have q := ka_X11_12 α h a ha φ (by omega)
  exact ⟨p.1.trans q.1, p.2.trans q.2⟩
theorem kt_X11_10 (α : hp_T) (h a : Nat) (ha : a < h) (φ : Nat) (hφ : φ < 604) : hp_N (F_X11_init_46 α h a) φ a = hp_N (F_X11_init_10 α h a) φ a ∧ hp_I (F_X11_init_46 α h a) φ a = hp_I (F_X11_init_10 α h a) φ a := by
  have p := kt_X11_11 α h a ha φ (by omega)
  have q := ka_X11_11 α h a ha φ
  exact ⟨p.1.trans q.1, p.2.trans q.2⟩
theorem kt_X11_9 (α : hp_T) (h a : Nat) (ha : a < h) (φ : Nat) (hφ : φ < 603) : hp_N (F_X11_init_46 α h a) φ a = hp_N (F_X11_init_9 α h a) φ a ∧ hp_I (F_X11_init_46 α h a) φ a = hp_I (F_X11_init_9 α h a) φ a := by
  have p := kt_X11_10 α h a ha φ (by omega)
  have q := ka_X11_10 α h a ha φ (by omega)
  exact ⟨p.1.trans q.1, p.2.trans q.2⟩
theorem kt_X11_8 (α : hp_T) (h a : Nat) (ha : a < h) (φ : Nat) (hφ : φ < 603) : hp_N (F_X11_init_46 α h a) φ a = hp_N (F_X11_init_8 α h a) φ a ∧ hp_I (F_X11_init_46 α h a) φ a = hp_I (F_X11_init_8 α h a) φ a := by
  have p := kt_X11_9 α h a ha φ (by omega)
  have q := ka_X11_9 α h a ha φ
  exact ⟨p.1.trans q.1, p.2.trans q.2⟩
theorem kt_X11_7 (α : hp_T) (h a : Nat) (ha : a < h) (φ : Nat) (hφ : φ < 603) : hp_N (F_X11_init_46 α h a) φ a = hp_N (F_X11_init_7 α h a) φ a ∧ hp_I (F_X11_init_46 α h a) φ a = hp_I (F_X11_init_7 α h a) φ a := by
  have p := kt_X11_8 α h a ha φ (by omega)
  have q := ka_X11_8 α h a ha φ
  exact ⟨p.1.trans q.1, p.2.trans q.2⟩
theorem kt_X11_6 (α : hp_T) (h a : Nat) (ha : a < h) (φ : Nat) (hφ : φ < 602) : hp_N (F_X11_init_46 α h a) φ a = hp_N (F_X11_init_6 α h a) φ a ∧ hp_I (F_X11_init_46 α h a) φ a = hp_I (F_X11_init_6 α h a) φ a := by
  have p := kt_X11_7 α h a ha φ (by omega)
  have q := ka_X11_7 α h a ha φ (by omega)
  exact ⟨p.1.trans q.1, p.2.trans q.2⟩
theorem kt_X11_5 (α : hp_T) (h a : Nat) (ha : a < h) (φ : Nat) (hφ : φ < 602) : hp_N (F_X11_init_46 α h a) φ a = hp_N (F_X11_init_5 α h a) φ a ∧ hp_I (F_X11_init_46 α h a) φ a = hp_I (F_X11_init_5 α h a) φ a := by
  have p := kt_X11_6 α h a ha φ (by omega)
  have q := ka_X11_6 α h a ha φ
  exact ⟨p.1.trans q.1, p.2.trans q.2⟩
theorem kt_X11_4 (α : hp_T) (h a : Nat) (ha : a < h) (φ : Nat) (hφ : φ < 602) : hp_N (F_X11_init_46 α h a) φ a = hp_N (F_X11_init_4 α h a) φ a ∧ hp_I (F_X11_init_46 α h a) φ a = hp_I (F_X11_init_4 α h a) φ a := by
  have p := kt_X11_5 α h a ha φ (by omega)
  have q := ka_X11_5 α h a ha φ
  exact ⟨p.1.trans q.1, p.2.trans q.2⟩
theorem fd_X11_601 (α : hp_T) (h a : Nat) (ha : a < h) : hp_R (F_X11_init α h a) 601 a = h + 0 := cv_R ((kt_X11_4 α h a ha 601 (by decide)).1.trans (show hp_N (hp_sN (F_X11_init_3 α h a) 601 a (some (h + (0)))) 601 a = some (h + (0)) from sN_at))
theorem fd_X11_602 (α : hp_T) (h a : Nat) (ha : a < h) : hp_R (F_X11_init α h a) 602 a = h + 459 := cv_R ((kt_X11_7 α h a ha 602 (by decide)).1.trans (show hp_N (hp_sN (F_X11_init_6 α h a) 602 a (some (h + (459)))) 602 a = some (h + (459)) from sN_at))
theorem fd_X11_603 (α : hp_T) (h a : Nat) (ha : a < h) : hp_R (F_X11_init α h a) 603 a = h + 918 := cv_R ((kt_X11_10 α h a ha 603 (by decide)).1.trans (show hp_N (hp_sN (F_X11_init_9 α h a) 603 a (some (h + (918)))) 603 a = some (h + (918)) from sN_at))
theorem fd_X11_604 (α : hp_T) (h a : Nat) (ha : a < h) : hp_R (F_X11_init α h a) 604 a = h + 920 := cv_R ((kt_X11_12 α h a ha 604 (by decide)).1.trans (show hp_N (hp_sN (F_X11_init_11 α h a) 604 a (some (h + (920)))) 604 a = some (h + (920)) from sN_at))
theorem fd_X11_605 (α : hp_T) (h a : Nat) (ha : a < h) : hp_I (F_X11_init α h a) 605 a = 0 := hI_cv.trans ((kt_X11_13 α h a ha 605 (by decide)).2.trans (show hp_I (hp_sI (F_X11_init_12 α h a) 605 a 0) 605 a = 0 from hp_I_at))
theorem fd_X11_606 (α : hp_T) (h a : Nat) (ha : a < h) : hp_R (F_X11_init α h a) 606 a = h + 921 := cv_R ((kt_X11_16 α h a ha 606 (by decide)).1.trans (show hp_N (hp_sN (F_X11_init_15 α h a) 606 a (some (h + (921)))) 606 a = some (h + (921)) from sN_at))
theorem fd_X11_607 (α : hp_T) (h a : Nat) (ha : a < h) : hp_R (F_X11_init α h a) 607 a = h + 923 := cv_R ((kt_X11_19 α h a ha 607 (by decide)).1.trans (show hp_N (hp_sN (F_X11_init_18 α h a) 607 a (some (h + (923)))) 607 a = some (h + (923)) from sN_at))
theorem fd_X11_608 (α : hp_T) (h a : Nat) (ha : a < h) : hp_R (F_X11_init α h a) 608 a = h + 925 := cv_R ((kt_X11_22 α h a ha 608 (by decide)).1.trans (show hp_N (hp_sN (F_X11_init_21 α h a) 608 a (some (h + (925)))) 608 a = some (h + (925)) from sN_at))
theorem fd_X11_609 (α : hp_T) (h a : Nat) (ha : a < h) : hp_R (F_X11_init α h a) 609 a = h + 927 := cv_R ((kt_X11_25 α h a ha 609 (by decide)).1.trans (show hp_N (hp_sN (F_X11_init_24 α h a) 609 a (some (h + (927)))) 609 a = some (h + (927)) from sN_at))
end JN11_0
section JN11_1
set_option maxRecDepth 100000
theorem in_X3_500 (α : hp_T) (h a : Nat) (ha : a < h) : hp_R (F_X3_init α h a) 500 (h + 8) = h + 9 := by
  rw [(tl_X3_15 α h a (h + 8) (by omega) (by omega)).2.2.2.1 500]
  exact fd_X9_500 (F_X3_init_14 α h a) (h + (9)) (h + (8)) (by omega)
/-! ===== LX of a new record ===== -/
theorem LX_0 (α : hp_T) (x : Nat) (σ : ms_T) (hR : RI σ) (hσ : ms_i0 σ) : LX (F_X11_init α (x + 1) x) x σ := by
  obtain ⟨s1, s2, s3, s4, s5⟩ := hσ
  have z : ∀ j, 2 ≤ j → j < 1980 → (ms_E σ 40 j).toInt = 0 := fun j p q => by rw [s5 j p q]; rfl
  have n1 : NW (F_X11_init_3 α (x + 1) x) (x + 1) := NW_0 (F_X11_init_2 α (x + 1) x) (x + 1)
  have n1' : NW (F_X11_init α (x + 1) x) (x + 1) := NW_sa n1 (fun b p q => tl_X11_3 α (x + 1) x b (by omega) (by omega))
  have e6 : F_X11_init_6 α (x + 1) x = F_X10_init (F_X11_init_5 α (x + 1) x) (x + 460 + 1) (x + 460) := by
    show F_X10_init _ (x + 1 + 460) (x + 1 + 459) = _
    rw [show x + 1 + 460 = x + 460 + 1 by omega, show x + 1 + 459 = x + 460 by omega]
  have n2 : NW (F_X11_init_6 α (x + 1) x) (x + 460) := by rw [e6]; exact NW_0 _ (x + 460)
  have n2' : NW (F_X11_init α (x + 1) x) (x + 460) := NW_sa n2 (fun b p q => tl_X11_6 α (x + 1) x b (by omega) (by omega))
  have ha : x < x + 1 := by omega
  refine ⟨hR.2, ⟨?_, ?_, ?_, ?_, ?_, ?_, ?_, ?_⟩, ⟨x + 1, x + 460, ?_, ?_, Or.inl ⟨rfl, rfl⟩, ⟨n1'.1, ?_, fun r hr => ?_, fun i hi => ?_, fun i hi => ?_⟩, n2'.1⟩, ⟨fun v hv => Or.inl (s5 _ (by omega) (by omega)), fun i hi => by rw [z 3 (by omega) (by omega)] at hi; omega⟩, ⟨?_, fun j hj => ?_⟩, [], ⟨by simp, ?_, fun k hk => absurd hk (by simp)⟩, Or.inl ⟨?_, ?_⟩, ?_, ?_, by simp, ?_, fun k hk => absurd hk (by simp), fun x hx => by cases hx⟩
  · rw [fd_X11_603 α (x + 1) x ha]
  · rw [(tl_X11_9 α (x + 1) x (x + 919) (by omega) (by omega)).2.2.2.1 300]
    have : hp_R (F_X5_init (F_X11_init_8 α (x + 1) x) (x + 1 + 919) (x + 1 + 918)) 300 (x + 1 + 918) = _ := fd_X5_300 _ _ _ (by omega)
    rw [show x + 919 = x + 1 + 918 by omega]
    exact this.trans (by omega)
  · rw [fd_X11_604 α (x + 1) x ha]
  · rw [(tl_X11_11 α (x + 1) x (x + 921) (by omega) (by omega)).1]
    rw [show x + 921 = x + 1 + 920 by omega]
    exact nw_k
  · rw [fd_X11_616 α (x + 1) x ha]
  · have q := tl_X11_42 α (x + 1) x (x + 944) (by omega) (by omega)
    have f : hp_R (F_X3_init (F_X11_init_41 α (x + 1) x) (x + 1 + 944) (x + 1 + 943)) 200 (x + 1 + 943) = _ := fd_X3_200 _ _ _ (by omega)
    rw [q.2.2.2.1 200, show x + 944 = x + 1 + 943 by omega]
    exact f.trans (by omega)
  · have q := tl_X11_42 α (x + 1) x (x + 944) (by omega) (by omega)
    have f : hp_R (F_X3_init (F_X11_init_41 α (x + 1) x) (x + 1 + 944) (x + 1 + 943)) 207 (x + 1 + 943) = _ := fd_X3_207 _ _ _ (by omega)
    rw [q.2.2.2.1 207, show x + 944 = x + 1 + 943 by omega]
    exact f.trans (by omega)
  · have q := tl_X11_42 α (x + 1) x (x + 944 + 9) (by omega) (by omega)
    have f : hp_R (F_X3_init (F_X11_init_41 α (x + 1) x) (x + 1 + 944) (x + 1 + 943)) 500 (x + 1 + 944 + 8) = _ := in_X3_500 _ _ _ (by omega)
    rw [q.2.2.2.1 500, show x + 944 + 9 = x + 1 + 944 + 8 by omega]
    exact f.trans (by omega)
  · rw [fd_X11_601 α (x + 1) x ha]
  · rw [fd_X11_602 α (x + 1) x ha]
  · rw [s3, s4, s5 3 (by omega) (by omega), s5 4 (by omega) (by omega)]
    exact n1'.2.1
  · rw [s3] at hr
    have hr0 : r = 0 := by
      have h9 : ((1 : Int32).toInt).toNat = 1 := by decide
      rw [h9] at hr
      omega
    subst hr0
    rw [s5 (72 + 0) (by omega) (by omega)]
    exact ⟨n1'.2.2.1, fun i hi => absurd hi (by rw [lt0]; simp)⟩
  · rw [s5 3 (by omega) (by omega), lt0] at hi
    exact absurd hi (by simp)
  · obtain ⟨w1, w2, w3, w4⟩ := n1'.2.2.2 i hi
    unfold WTN
    rw [s5 (76 + 4 * i) (by omega) (by omega), s5 (77 + 4 * i) (by omega) (by omega), s5 (78 + 4 * i) (by omega) (by omega), s5 (79 + 4 * i) (by omega) (by omega)]
    exact ⟨w1, w2, w4, w3⟩
  · rw [fd_X11_605 α (x + 1) x ha, s1 667, if_neg (by decide)]
  · rw [s1 667, if_neg (by decide), lt0] at hj
    omega
  · rw [s1 664, if_neg (by decide)]; rfl
  · rw [fd_X11_606 α (x + 1) x ha]
  · rw [fd_X11_607 α (x + 1) x ha]
  · have q := tl_X11_15 α (x + 1) x (x + 922) (by omega) (by omega)
    have f : hp_R (F_X9_init (F_X11_init_14 α (x + 1) x) (x + 1 + 922) (x + 1 + 921)) 500 (x + 1 + 921) = _ := fd_X9_500 _ _ _ (by omega)
    rw [q.2.2.2.1 500, show x + 922 = x + 1 + 921 by omega]
    exact f.trans (by omega)
  · have q := tl_X11_18 α (x + 1) x (x + 924) (by omega) (by omega)
    have f : hp_R (F_X9_init (F_X11_init_17 α (x + 1) x) (x + 1 + 924) (x + 1 + 923)) 500 (x + 1 + 923) = _ := fd_X9_500 _ _ _ (by omega)
    rw [q.2.2.2.1 500, show x + 924 = x + 1 + 923 by omega]
    exact f.trans (by omega)
  · have q := tl_X11_15 α (x + 1) x (x + 1 + 921) (by omega) (by omega)
    have f : hp_I (F_X9_init (F_X11_init_14 α (x + 1) x) (x + 1 + 922) (x + 1 + 921)) 501 (x + 1 + 921) = _ := fd_X9_501 _ _ _ (by omega)
    rw [fd_X11_606 α (x + 1) x ha, q.2.1 501]
    rw [show F_X11_init_15 α (x + 1) x = F_X9_init (F_X11_init_14 α (x + 1) x) (x + 1 + 922) (x + 1 + 921) from rfl, f]
    rfl
theorem LX_C {α β : hp_T} {x : Nat} {σ : ms_T} (g : GC α) (hk : hp_K α x = 12) (h : LX α x σ) (c : ∀ q, hp_K α q ≠ 0 → saC α β q) : LX β x σ := by
  have hK := LXK g hk h
  refine LX_p h (fun φ b p r => (c b (hK b p)).2.2.1 φ) (fun κ b j p => (c b (hK b p)).2.2.2.2.2 κ j) (fun φ b p r => (c b (hK b p)).2.1 φ ?_) (fun κ b j p r => (c b (hK b p)).2.2.2.2.1 κ j (by omega)) ((c _ (hK _ (by unfold inX; omega))).1)
  rcases r with r | r
  · simp only [okI, List.contains_cons, List.contains_nil, Bool.or_false, Bool.or_eq_true, beq_iff_eq] at r
    omega
  · omega
end JN11_1
section JN11_2
set_option maxRecDepth 100000
theorem LX_load {α β : hp_T} {x : Nat} {σ τ : ms_T} (h : LX α x σ) (hL : LXW β x τ) (hf : ldf x α β) (hr : fr ldw [40, 41, 42, 43, 44, 46] σ τ) (hC : rC (ms_E τ 40)) : LX β x τ := by
  obtain ⟨-, -, -, -, -, l, h5, ⟨y1, y2, y3, y4⟩⟩ := h
  obtain ⟨l1, l2, l3, l4, -, -⟩ := hL
  obtain ⟨f1, f2, f3, f4, f5, f6, f7⟩ := hf
  have e6 : hp_R β 606 x = hp_R α 606 x := f1 606 x (by omega) (by omega)
  have e7 : hp_R β 607 x = hp_R α 607 x := f1 607 x (by omega) (by omega)
  have e8 : hp_R β 500 (x + 922) = hp_R α 500 (x + 922) := f1 500 _ (by omega) (by omega)
  have e9 : hp_R β 500 (x + 924) = hp_R α 500 (x + 924) := f1 500 _ (by omega) (by omega)
  refine ⟨hC, l1, RWZ_X l2, l3, l4, l, TYS_e h5 (hr.1 664 (by decide)) (fun j => hr.2 45 (by decide) j), by rw [e6, e7]; exact y1, e8.trans y2, e9.trans y3, ?_⟩
  rw [e6]
  obtain ⟨b1, b2, b3, b4⟩ := y4
  have ht : hp_R α 606 x = x + 922 ∨ hp_R α 606 x = x + 924 := by rcases y1 with q | q; exact Or.inl q.1; exact Or.inr q.1
  have hE : hp_R β 500 (hp_R α 606 x) = hp_R α 500 (hp_R α 606 x) ∧ x + 922 ≤ hp_R α 500 (hp_R α 606 x) ∧ hp_R α 500 (hp_R α 606 x) < x + 926 := by
    rcases ht with q | q
    · rw [q, e8, y2]; omega
    · rw [q, e9, y3]; omega
  refine ⟨b1, by rw [f5 501 _ (by omega) (by omega)]; exact b2, fun k hk => ?_, b4⟩
  rw [hE.1, f7 27 _ k (by omega) (by omega) (by omega)]; exact b3 k hk
/-- two ends of one run -/
theorem ws_2 {R : Type} {o : Option R} {P Q : R → Prop} (h : ws o P) (g : ws o Q) : ws o (fun r => P r ∧ Q r) := ws_pr h (pr_w g)
/-- how the law's loop takes them -/
theorem lx_kq {α β : hp_T} {x : Nat} {σ τ : ms_T} (h : LX α x σ) (c : mo α β) (k : kq σ τ) (e7 : ms_I τ 667 = ms_I σ 667) (hR : RI τ) : LX β x τ :=
  LX_mo (LX_s h (cel_kq k) hR.2 (k.1 664 rfl) e7 (fun j => k.2 45 rfl j) (fun j => k.2 47 rfl j)) c
theorem lx_kpd {α β : hp_T} {x : Nat} {σ τ : ms_T} (h : LX α x σ) (c : mo α β) (k : kpd σ τ) (e7 : ms_I τ 667 = ms_I σ 667) (hR : RI τ) : LX β x τ :=
  LX_mo (LX_s h (cel_kpd k hR.2) hR.2 k.1 e7 (fun j => k.2.1 45 rfl j) (fun j => k.2.1 47 rfl j)) c
end JN11_2
section JN11_3
def f_X8_folded_L6 (n : Nat) (α : hp_T) (a0 : Nat) : Nat → Int32 → Nat → Int32 → Int32 → Int32 → Option Int32
  | 0, _, _, _, _, _ => none
  | k6 + 1, v1_h1, v2_h1, v4_h1, v5_h1, v6_h1 =>
    if v4_h1 ≤ v6_h1 then
      some v5_h1
    else
      ms_l (hp_I α 453 a0) fun x3 =>
      if x3 ≤ v6_h1 then
        some v5_h1
      else
        ms_b (f_X5_at n α v2_h1 v6_h1) fun rh5 =>
        ms_b (f_X8_joined n α a0 v1_h1 v6_h1 v5_h1 rh5) fun rh6 =>
        ms_l (v6_h1 + 1) fun x7 =>
        (f_X8_folded_L6 n α a0 k6) v1_h1 v2_h1 v4_h1 rh6 x7
def f_X8_folded (n : Nat) (α : hp_T) (a0 : Nat) (a1 : Int32) (a2 : Nat) (a3 : Int32) (a4 : Int32) : Option Int32 :=
  f_X8_folded_L6 n α a0 n a1 a2 a4 a3 (0 : Int32)
set_option maxRecDepth 100000 in
set_option maxHeartbeats 4000000 in
theorem n_X8_folded (n : Nat) (Γ : hp_G) (l : Launch) (α : hp_T) (g : GC α) (a0 : Nat) (k0 : hp_K α a0 = 9) (a1 : Int32) (a2 : Nat) (k2 : hp_K α a2 = 6) (a3 : Int32) (a4 : Int32) (res : Int32) (hf : f_X8_folded n α a0 a1 a2 a3 a4 = some res) : Met l yX8_folded (hp_ws yX8_folded cX8_folded 7 (some .int)) (hp_rm 2 0 0) (hp_Pc Γ α [.ref a0, .int a1, .ref a2, .int a3, .int a4]) (hp_Qi Γ (fun r β => β = α ∧ r = res)) 0 0 (hp_A Γ) := by
  unfold f_X8_folded at hf
  refine hp_start (by decide) ?_
  intro p e s m below meth c C hr hlk B0 hnm
  have C : hp_C Γ p m c cX8_folded 7 s ([.ref a0, .int a1, .ref a2, .int a3, .int a4] : List Value).toArray RX8 := C
  have hx := C.1.1
  have hb := C.1.2.1
  have hown := C.1.2.2.2.1
  have hts := C.1.2.2.2.2
  have B : hp_B Γ (cw w_X8_folded) s α α s.heap [] := ⟨B0.1, B0.2.1, cw_rf g⟩
  have hl := lv_entry ([.ref a0, .int a1, .ref a2, .int a3, .int a4]) (n := 7) (Nat.le_of_ble_eq_true rfl)
  show W p l e (hp_rm 2 0 0) s m ([.ref a0, .int a1, .ref a2, .int a3, .int a4] : List Value).toArray below meth c s.heap [] 0 0 (MQ below (hp_Qi Γ (fun r β => β = α ∧ r = res)) ([.ref a0, .int a1, .ref a2, .int a3, .int a4] : List Value).toArray s 0 0 (hp_A Γ)) (entryFrame m ([.ref a0, .int a1, .ref a2, .int a3, .int a4] : List Value).toArray 7)
  rw [lg_entry_eq]
  generalize (lg_sl ([.ref a0, .int a1, .ref a2, .int a3, .int a4]) ++ List.replicate (7 - (lg_sl ([.ref a0, .int a1, .ref a2, .int a3, .int a4])).length) Slot.unset).toArray = ls at hl ⊢
  have hl : lv_has ls 7 [(0, .ref a0), (1, .int a1), (2, .ref a2), (3, .int a3), (4, .int a4)] := hl
  refine lv_iload_n hx hb dX8_folded_0 rfl (lv_at hl 3 rfl) (hp_n (n := 1) rfl ?_)
  refine lv_istore (lv' := [(5, .int a3), (0, .ref a0), (1, .int a1), (2, .ref a2), (3, .int a3), (4, .int a4)]) hx hb dX8_folded_1 hl (by decide) rfl (fun ls hl => hp_n (n := 3) rfl ?_)
  refine lv_iconst (v := 0) hx hb dX8_folded_3 (by decide) (hp_n (n := 4) rfl ?_)
  have J6 : ∀ (k6 : Nat) (Hh1 : Heap) (Lh1 : List Loc) (Bh1 : hp_B Γ (cw w_X8_folded) s α α Hh1 Lh1) (v1_h1 : Int32) (v2_h1 : Nat) (kv2_h1 : hp_K α v2_h1 = 6) (v4_h1 : Int32) (v5_h1 : Int32) (v6_h1 : Int32) (ls : Array Slot) (hl : lv_has ls 7 [(0, .ref a0), (1, .int v1_h1), (2, .ref v2_h1), (4, .int v4_h1), (5, .int v5_h1), (6, .int v6_h1)]) (hf : f_X8_folded_L6 n α a0 k6 v1_h1 v2_h1 v4_h1 v5_h1 v6_h1 = some res), W p l e (hp_rm 2 0 0) s m ([.ref a0, .int a1, .ref a2, .int a3, .int a4] : List Value).toArray below meth c Hh1 Lh1 0 0 (MQ below (hp_Qi Γ (fun r β => β = α ∧ r = res)) ([.ref a0, .int a1, .ref a2, .int a3, .int a4] : List Value).toArray s 0 0 (hp_A Γ)) (F0 m 6 ls []) := by
    intro k6
    induction k6 with
    | zero => intro Hh1 Lh1 Bh1 v1_h1 v2_h1 kv2_h1 v4_h1 v5_h1 v6_h1 ls hl hf; rw [f_X8_folded_L6.eq_1] at hf; cases hf
    | succ k6 ih6 =>
      intro Hh1 Lh1 Bh1 v1_h1 v2_h1 kv2_h1 v4_h1 v5_h1 v6_h1 ls hl hf
      rw [f_X8_folded_L6.eq_2] at hf
      refine lv_iload hx hb dX8_folded_6 (lv_at hl 5 rfl) (hp_n (n := 8) rfl ?_)
      refine lv_iload hx hb dX8_folded_8 (lv_at hl 3 rfl) (hp_n (n := 10) rfl ?_)
      refine lv_icmp_ge (tgt := 45) hx hb dX8_folded_10 (by decide) (fun c2 => ?_) (fun c2 => hp_n (n := 13) rfl ?_)
      ·
        replace hf := ms_iT c2 hf
        refine lv_iload hx hb dX8_folded_45 (lv_at hl 4 rfl) (hp_n (n := 47) rfl ?_)
        cases hf
        exact q_iret C Bh1 hr hlk ⟨rfl, rfl⟩ dX8_folded_47
      ·
        replace hf := ms_iF c2 hf
        refine lv_iload hx hb dX8_folded_13 (lv_at hl 5 rfl) (hp_n (n := 15) rfl ?_)
        refine lv_aload_n hx hb dX8_folded_15 rfl (lv_at hl 0 rfl) (hp_n (n := 16) rfl ?_)
        refine q_geti (κ := 9) (k := 3) (φ := 453) (pc' := 19) C Bh1 (cw_k Bh1.2.2 k0) fl_X8_22 rfl rfl rfl dX8_folded_16 rfl (fun x3 ex3 => ?_)
        replace hf := ms_lE ex3 hf
        refine lv_icmp_ge (tgt := 45) hx hb dX8_folded_19 (by decide) (fun c4 => ?_) (fun c4 => hp_n (n := 22) rfl ?_)
        ·
          replace hf := ms_iT c4 hf
          refine lv_iload hx hb dX8_folded_45 (lv_at hl 4 rfl) (hp_n (n := 47) rfl ?_)
          cases hf
          exact q_iret C Bh1 hr hlk ⟨rfl, rfl⟩ dX8_folded_47
        ·
          replace hf := ms_iF c4 hf
          refine lv_aload_n hx hb dX8_folded_22 rfl (lv_at hl 0 rfl) (hp_n (n := 23) rfl ?_)
          refine lv_iload_n hx hb dX8_folded_23 rfl (lv_at hl 1 rfl) (hp_n (n := 24) rfl ?_)
          refine lv_iload hx hb dX8_folded_24 (lv_at hl 5 rfl) (hp_n (n := 26) rfl ?_)
          refine lv_iload hx hb dX8_folded_26 (lv_at hl 4 rfl) (hp_n (n := 28) rfl ?_)
          refine lv_aload_n hx hb dX8_folded_28 rfl (lv_at hl 2 rfl) (hp_n (n := 29) rfl ?_)
          refine lv_iload hx hb dX8_folded_29 (lv_at hl 5 rfl) (hp_n (n := 31) rfl ?_)
          obtain ⟨rh5, qh5, hf⟩ := ms_bE hf
          refine d_pi (pc' := 34) Bh1 (hp_runV (As := [.int v6_h1]) (rest := [.int v5_h1, .int v6_h1, .int v1_h1, .ref a0]) C Bh1 (n_X5_at n Γ l α Bh1.2.2.1 v2_h1 (cw_k Bh1.2.2 kv2_h1) v6_h1 rh5 qh5) lb_X5_at lv_X5_at lk_X8_65 (cw_k Bh1.2.2 kv2_h1) rfl (by decide) rfl hl.1 rfl (Nat.le_of_ble_eq_true rfl) dX8_folded_31 ⟨Nat.le_refl _, Nat.le_refl _⟩) rfl (fun Hh5 Lh5 Bh5 => ?_)
          obtain ⟨rh6, qh6, hf⟩ := ms_bE hf
          refine d_pi (pc' := 37) Bh5 (hp_runV (As := [.int v1_h1, .int v6_h1, .int v5_h1, .int rh5]) (rest := []) C Bh5 (n_X8_joined n Γ l α Bh5.2.2.1 a0 (cw_k Bh5.2.2 k0) v1_h1 v6_h1 v5_h1 rh5 rh6 qh6) lb_X8_joined lv_X8_joined lk_X8_70 (cw_k Bh5.2.2 k0) rfl (by decide) rfl hl.1 rfl (Nat.le_of_ble_eq_true rfl) dX8_folded_34 ⟨Nat.le_refl _, Nat.le_refl _⟩) rfl (fun Hh6 Lh6 Bh6 => ?_)
          refine lv_istore (lv' := [(5, .int rh6), (0, .ref a0), (1, .int v1_h1), (2, .ref v2_h1), (4, .int v4_h1), (6, .int v6_h1)]) hx hb dX8_folded_37 hl (by decide) rfl (fun ls hl => hp_n (n := 39) rfl ?_)
          obtain ⟨x7, ex7⟩ : ∃ y : Int32, y = v6_h1 + 1 := ⟨_, rfl⟩
          replace hf := ms_lE ex7 hf
          refine lv_iinc (v := x7) (lv' := [(6, .int x7), (5, .int rh6), (0, .ref a0), (1, .int v1_h1), (2, .ref v2_h1), (4, .int v4_h1)]) hx hb dX8_folded_39 hl (k := 5) rfl (by rw [ex7]; rfl) (by decide) rfl (fun ls hl => hp_n (n := 42) rfl ?_)
          refine lv_goto (tgt := 6) hx hb dX8_folded_42 (by decide) ?_
          exact ih6 Hh6 Lh6 Bh6 v1_h1 v2_h1 kv2_h1 v4_h1 rh6 x7 ls (lv_sub hl [2, 3, 4, 5, 1, 0] rfl) hf
  refine lv_istore (lv' := [(6, .int (0 : Int32)), (5, .int a3), (0, .ref a0), (1, .int a1), (2, .ref a2), (3, .int a3), (4, .int a4)]) hx hb dX8_folded_4 hl (by decide) rfl (fun ls hl => hp_n (n := 6) rfl ?_)
  exact J6 n s.heap [] B a1 a2 k2 a4 a3 (0 : Int32) ls (lv_sub hl [2, 3, 4, 6, 1, 0] rfl) hf
def f_X8_whyInclusion (n : Nat) (α : hp_T) (a0 : Nat) (a1 : Int32) (a2 : Nat) (a3 : Int32) (a4 : Int32) : Option Int32 :=
  ms_l (hp_I α 301 a2) fun x1 =>
  ms_l (hp_I α 453 a0) fun x2 =>
  if x1 = x2 then
    ms_l (hp_I α 453 a0) fun x4 =>
    ms_b (f_X8_folded n α a0 a1 a2 a3 x4) fun rh5 =>
    if rh5 = a4 then
      some (0 : Int32)
    else
      some (3 : Int32)
  else
    ms_l (hp_I α 301 a2) fun x7 =>
    ms_l (hp_I α 453 a0) fun x8 =>
    if x8 ≤ x7 then
      some (2 : Int32)
    else
      some (1 : Int32)
set_option maxRecDepth 100000 in
set_option maxHeartbeats 4000000 in
theorem n_X8_whyInclusion (n : Nat) (Γ : hp_G) (l : Launch) (α : hp_T) (g : GC α) (a0 : Nat) (k0 : hp_K α a0 = 9) (a1 : Int32) (a2 : Nat) (k2 : hp_K α a2 = 6) (a3 : Int32) (a4 : Int32) (res : Int32) (hf : f_X8_whyInclusion n α a0 a1 a2 a3 a4 = some res) : Met l yX8_whyInclusion (hp_ws yX8_whyInclusion cX8_whyInclusion 5 (some .int)) (hp_rm 3 0 0) (hp_Pc Γ α [.ref a0, .int a1, .ref a2, .int a3, .int a4]) (hp_Qi Γ (fun r β => β = α ∧ r = res)) 0 0 (hp_A Γ) := by
  unfold f_X8_whyInclusion at hf
  refine hp_start (by decide) ?_
  intro p e s m below meth c C hr hlk B0 hnm
  have C : hp_C Γ p m c cX8_whyInclusion 5 s ([.ref a0, .int a1, .ref a2, .int a3, .int a4] : List Value).toArray RX8 := C
  have hx := C.1.1
  have hb := C.1.2.1
  have hown := C.1.2.2.2.1
  have hts := C.1.2.2.2.2
  have B : hp_B Γ (cw w_X8_whyInclusion) s α α s.heap [] := ⟨B0.1, B0.2.1, cw_rf g⟩
  have hl := lv_entry ([.ref a0, .int a1, .ref a2, .int a3, .int a4]) (n := 5) (Nat.le_of_ble_eq_true rfl)
  show W p l e (hp_rm 3 0 0) s m ([.ref a0, .int a1, .ref a2, .int a3, .int a4] : List Value).toArray below meth c s.heap [] 0 0 (MQ below (hp_Qi Γ (fun r β => β = α ∧ r = res)) ([.ref a0, .int a1, .ref a2, .int a3, .int a4] : List Value).toArray s 0 0 (hp_A Γ)) (entryFrame m ([.ref a0, .int a1, .ref a2, .int a3, .int a4] : List Value).toArray 5)
  rw [lg_entry_eq]
  generalize (lg_sl ([.ref a0, .int a1, .ref a2, .int a3, .int a4]) ++ List.replicate (5 - (lg_sl ([.ref a0, .int a1, .ref a2, .int a3, .int a4])).length) Slot.unset).toArray = ls at hl ⊢
  have hl : lv_has ls 5 [(0, .ref a0), (1, .int a1), (2, .ref a2), (3, .int a3), (4, .int a4)] := hl
  refine lv_aload_n hx hb dX8_whyInclusion_0 rfl (lv_at hl 2 rfl) (hp_n (n := 1) rfl ?_)
  refine q_geti (κ := 6) (k := 1) (φ := 301) (pc' := 4) C B (cw_k B.2.2 k2) fl_X8_74 rfl rfl rfl dX8_whyInclusion_1 rfl (fun x1 ex1 => ?_)
  replace hf := ms_lE ex1 hf
  refine lv_aload_n hx hb dX8_whyInclusion_4 rfl (lv_at hl 0 rfl) (hp_n (n := 5) rfl ?_)
  refine q_geti (κ := 9) (k := 3) (φ := 453) (pc' := 8) C B (cw_k B.2.2 k0) fl_X8_22 rfl rfl rfl dX8_whyInclusion_5 rfl (fun x2 ex2 => ?_)
  replace hf := ms_lE ex2 hf
  refine lv_icmp_eq (tgt := 28) hx hb dX8_whyInclusion_8 (by decide) (fun c3 => ?_) (fun c3 => hp_n (n := 11) rfl ?_)
  ·
    replace hf := ms_iT c3 hf
    refine lv_aload_n hx hb dX8_whyInclusion_28 rfl (lv_at hl 0 rfl) (hp_n (n := 29) rfl ?_)
    refine lv_iload_n hx hb dX8_whyInclusion_29 rfl (lv_at hl 1 rfl) (hp_n (n := 30) rfl ?_)
    refine lv_aload_n hx hb dX8_whyInclusion_30 rfl (lv_at hl 2 rfl) (hp_n (n := 31) rfl ?_)
    refine lv_iload_n hx hb dX8_whyInclusion_31 rfl (lv_at hl 3 rfl) (hp_n (n := 32) rfl ?_)
    refine lv_aload_n hx hb dX8_whyInclusion_32 rfl (lv_at hl 0 rfl) (hp_n (n := 33) rfl ?_)
    refine q_geti (κ := 9) (k := 3) (φ := 453) (pc' := 36) C B (cw_k B.2.2 k0) fl_X8_22 rfl rfl rfl dX8_whyInclusion_33 rfl (fun x4 ex4 => ?_)
    replace hf := ms_lE ex4 hf
    obtain ⟨rh5, qh5, hf⟩ := ms_bE hf
    refine d_pi (pc' := 39) B (hp_runV (As := [.int a1, .ref a2, .int a3, .int x4]) (rest := []) C B (n_X8_folded n Γ l α B.2.2.1 a0 (cw_k B.2.2 k0) a1 a2 (cw_k B.2.2 k2) a3 x4 rh5 qh5) lb_X8_folded lv_X8_folded lk_X8_75 (cw_k B.2.2 k0) rfl (by decide) rfl hl.1 rfl (Nat.le_of_ble_eq_true rfl) dX8_whyInclusion_36 ⟨Nat.le_refl _, Nat.le_refl _⟩) rfl (fun Hh5 Lh5 Bh5 => ?_)
    refine lv_iload hx hb dX8_whyInclusion_39 (lv_at hl 4 rfl) (hp_n (n := 41) rfl ?_)
    refine lv_icmp_ne (tgt := 48) hx hb dX8_whyInclusion_41 (by decide) (fun c6 => ?_) (fun c6 => hp_n (n := 44) rfl ?_)
    ·
      replace hf := ms_iF c6 hf
      refine lv_iconst (v := 3) hx hb dX8_whyInclusion_48 (by decide) (hp_n (n := 49) rfl ?_)
      cases hf
      exact q_iret C Bh5 hr hlk ⟨rfl, rfl⟩ dX8_whyInclusion_49
    ·
      replace hf := ms_iT c6 hf
      refine lv_iconst (v := 0) hx hb dX8_whyInclusion_44 (by decide) (hp_n (n := 45) rfl ?_)
      refine lv_goto (tgt := 49) hx hb dX8_whyInclusion_45 (by decide) ?_
      cases hf
      exact q_iret C Bh5 hr hlk ⟨rfl, rfl⟩ dX8_whyInclusion_49
  ·
    replace hf := ms_iF c3 hf
    refine lv_aload_n hx hb dX8_whyInclusion_11 rfl (lv_at hl 2 rfl) (hp_n (n := 12) rfl ?_)
    refine q_geti (κ := 6) (k := 1) (φ := 301) (pc' := 15) C B (cw_k B.2.2 k2) fl_X8_74 rfl rfl rfl dX8_whyInclusion_12 rfl (fun x7 ex7 => ?_)
    replace hf := ms_lE ex7 hf
    refine lv_aload_n hx hb dX8_whyInclusion_15 rfl (lv_at hl 0 rfl) (hp_n (n := 16) rfl ?_)
    refine q_geti (κ := 9) (k := 3) (φ := 453) (pc' := 19) C B (cw_k B.2.2 k0) fl_X8_22 rfl rfl rfl dX8_whyInclusion_16 rfl (fun x8 ex8 => ?_)
    replace hf := ms_lE ex8 hf
    refine lv_icmp_ge (tgt := 26) hx hb dX8_whyInclusion_19 (by decide) (fun c9 => ?_) (fun c9 => hp_n (n := 22) rfl ?_)
    ·
      replace hf := ms_iT c9 hf
      refine lv_iconst (v := 2) hx hb dX8_whyInclusion_26 (by decide) (hp_n (n := 27) rfl ?_)
      cases hf
      exact q_iret C B hr hlk ⟨rfl, rfl⟩ dX8_whyInclusion_27
    ·
      replace hf := ms_iF c9 hf
      refine lv_iconst (v := 1) hx hb dX8_whyInclusion_22 (by decide) (hp_n (n := 23) rfl ?_)
      refine lv_goto (tgt := 27) hx hb dX8_whyInclusion_23 (by decide) ?_
      cases hf
      exact q_iret C B hr hlk ⟨rfl, rfl⟩ dX8_whyInclusion_27
def f_X3_readMark (n : Nat) (α : hp_T) (a0 : Nat) (i1 : Nat) : Option (Int32 × hp_T) :=
  hq_c (f_X3_readWord n α a0 i1) fun rh1 αh1 =>
  if rh1 = 0 then
    some ((0 : Int32), αh1)
  else
    ms_l (hp_I αh1 203 a0) fun x3 =>
    hq_c (f_X3_readNumber n αh1 a0 (0 : Int32) (x3 - (1 : Int32))) fun rh4 αh4 =>
    if rh4 = 0 then
      some ((0 : Int32), αh4)
    else
      some ((1 : Int32), αh4)
set_option maxRecDepth 100000 in
set_option maxHeartbeats 4000000 in
theorem n_X3_readMark (n : Nat) (Γ : hp_G) (l : Launch) (α : hp_T) (g : GC α) (a0 : Nat) (k0 : hp_K α a0 = 4) (i1 : Nat) (h1 : i1 < 21) (res : (Int32 × hp_T)) (hf : f_X3_readMark n α a0 i1 = some res) : Met l yX3_readMark (hp_ws yX3_readMark cX3_readMark 2 (some .boolean)) (hp_rm 6 0 0) (hp_Pc Γ α [.ref a0, .ref (Γ.2.2.2.2.1 i1)]) (hp_Qi Γ (fun r β => r = res.1 ∧ β = res.2 ∧ cw w_X3_readMark α β)) 0 0 (hp_A Γ) := by
  unfold f_X3_readMark at hf
  refine hp_start (by decide) ?_
  intro p e s m below meth c C hr hlk B0 hnm
  have C : hp_C Γ p m c cX3_readMark 2 s ([.ref a0, .ref (Γ.2.2.2.2.1 i1)] : List Value).toArray RX3 := C
  have hx := C.1.1
  have hb := C.1.2.1
  have hown := C.1.2.2.2.1
  have hts := C.1.2.2.2.2
  have B : hp_B Γ (cw w_X3_readMark) s α α s.heap [] := ⟨B0.1, B0.2.1, cw_rf g⟩
  have hl := lv_entry ([.ref a0, .ref (Γ.2.2.2.2.1 i1)]) (n := 2) (Nat.le_of_ble_eq_true rfl)
  show W p l e (hp_rm 6 0 0) s m ([.ref a0, .ref (Γ.2.2.2.2.1 i1)] : List Value).toArray below meth c s.heap [] 0 0 (MQ below (hp_Qi Γ (fun r β => r = res.1 ∧ β = res.2 ∧ cw w_X3_readMark α β)) ([.ref a0, .ref (Γ.2.2.2.2.1 i1)] : List Value).toArray s 0 0 (hp_A Γ)) (entryFrame m ([.ref a0, .ref (Γ.2.2.2.2.1 i1)] : List Value).toArray 2)
  rw [lg_entry_eq]
  generalize (lg_sl ([.ref a0, .ref (Γ.2.2.2.2.1 i1)]) ++ List.replicate (2 - (lg_sl ([.ref a0, .ref (Γ.2.2.2.2.1 i1)])).length) Slot.unset).toArray = ls at hl ⊢
  have hl : lv_has ls 2 [(0, .ref a0), (1, .ref (Γ.2.2.2.2.1 i1))] := hl
  refine lv_aload_n hx hb dX3_readMark_0 rfl (lv_at hl 0 rfl) (hp_n (n := 1) rfl ?_)
  refine lv_aload_n hx hb dX3_readMark_1 rfl (lv_at hl 1 rfl) (hp_n (n := 2) rfl ?_)
  obtain ⟨rh1, αh1, qh1, hf⟩ := hq_cE hf
  refine d_ci (pc' := 5) B (hp_runV (As := [.ref (Γ.2.2.2.2.1 i1)]) (rest := []) C B (n_X3_readWord n Γ l α B.2.2.1 a0 (cw_k B.2.2 k0) i1 h1 (rh1, αh1) qh1) lb_X3_readWord lv_X3_readWord lk_X3_158 (cw_k B.2.2 k0) rfl (by decide) rfl hl.1 rfl (Nat.le_of_ble_eq_true rfl) dX3_readMark_2 ⟨Nat.le_refl _, Nat.le_refl _⟩) (by decide) rfl (fun Hh1 Lh1 Bh1 => ?_)
  refine lv_if_eq (tgt := 26) hx hb dX3_readMark_5 (by decide) (fun c2 => ?_) (fun c2 => hp_n (n := 8) rfl ?_)
  ·
    replace hf := ms_iT c2 hf
    refine lv_iconst (v := 0) hx hb dX3_readMark_26 (by decide) (hp_n (n := 27) rfl ?_)
    cases hf
    exact q_zret C Bh1 hr hlk (by decide) ⟨rfl, rfl, Bh1.2.2⟩ dX3_readMark_27
  ·
    replace hf := ms_iF c2 hf
    refine lv_aload_n hx hb dX3_readMark_8 rfl (lv_at hl 0 rfl) (hp_n (n := 9) rfl ?_)
    refine lv_iconst (v := 0) hx hb dX3_readMark_9 (by decide) (hp_n (n := 10) rfl ?_)
    refine lv_aload_n hx hb dX3_readMark_10 rfl (lv_at hl 0 rfl) (hp_n (n := 11) rfl ?_)
    refine q_geti (κ := 4) (k := 3) (φ := 203) (pc' := 14) C Bh1 (cw_k Bh1.2.2 k0) fl_X3_33 rfl rfl rfl dX3_readMark_11 rfl (fun x3 ex3 => ?_)
    replace hf := ms_lE ex3 hf
    refine lv_iconst (v := 1) hx hb dX3_readMark_14 (by decide) (hp_n (n := 15) rfl ?_)
    refine lv_isub hx hb dX3_readMark_15 (hp_n (n := 16) rfl ?_)
    obtain ⟨rh4, αh4, qh4, hf⟩ := hq_cE hf
    refine d_ci (pc' := 19) Bh1 (hp_runV (As := [.int (0 : Int32), .int (x3 - (1 : Int32))]) (rest := []) C Bh1 (n_X3_readNumber n Γ l αh1 Bh1.2.2.1 a0 (cw_k Bh1.2.2 k0) (0 : Int32) (x3 - (1 : Int32)) (rh4, αh4) qh4) lb_X3_readNumber lv_X3_readNumber lk_X3_75 (cw_k Bh1.2.2 k0) rfl (by decide) rfl hl.1 rfl (Nat.le_of_ble_eq_true rfl) dX3_readMark_16 ⟨Nat.le_refl _, Nat.le_refl _⟩) (by decide) rfl (fun Hh4 Lh4 Bh4 => ?_)
    refine lv_if_eq (tgt := 26) hx hb dX3_readMark_19 (by decide) (fun c5 => ?_) (fun c5 => hp_n (n := 22) rfl ?_)
    ·
      replace hf := ms_iT c5 hf
      refine lv_iconst (v := 0) hx hb dX3_readMark_26 (by decide) (hp_n (n := 27) rfl ?_)
      cases hf
      exact q_zret C Bh4 hr hlk (by decide) ⟨rfl, rfl, Bh4.2.2⟩ dX3_readMark_27
    ·
      replace hf := ms_iF c5 hf
      refine lv_iconst (v := 1) hx hb dX3_readMark_22 (by decide) (hp_n (n := 23) rfl ?_)
      refine lv_goto (tgt := 27) hx hb dX3_readMark_23 (by decide) ?_
      cases hf
      exact q_zret C Bh4 hr hlk (by decide) ⟨rfl, rfl, Bh4.2.2⟩ dX3_readMark_27
def f_X3_readRow_J128 (n : Nat) (a0 : Nat) (αh11 : hp_T) : Option (Int32 × hp_T) :=
  some ((1 : Int32), αh11)
def f_X3_readRow_J110 (n : Nat) (a0 : Nat) (αh8 : hp_T) : Option (Int32 × hp_T) :=
  ms_l (hp_R αh8 200 a0) fun b9 =>
  ms_l (hp_I αh8 353 b9) fun x10 =>
  if x10 = (3 : Int32) then
    f_X3_readRow_J128 n a0 αh8
  else
    hq_c (f_X3_stray n αh8 a0) fun rh13 αh13 =>
    if rh13 = 0 then
      some ((0 : Int32), αh13)
    else
      f_X3_readRow_J128 n a0 αh13
def f_X3_readRow_L28 (n : Nat) (a0 : Nat) : Nat → hp_T → Int32 → Option (Int32 × hp_T)
  | 0, _, _ => none
  | k28 + 1, αh7, v1_h7 =>
    if (64 : Int32) < v1_h7 then
      f_X3_readRow_J110 n a0 αh7
    else
      ms_l (hp_R αh7 200 a0) fun b16 =>
      ms_l (hp_I αh7 353 b16) fun x17 =>
      if x17 = (2 : Int32) then
        ms_l (hp_R αh7 200 a0) fun b19 =>
        ms_l (hp_I αh7 356 b19) fun x20 =>
        ms_l (hp_I αh7 203 a0) fun x21 =>
        if x20 < x21 then
          ms_l (hp_R αh7 201 a0) fun b23 =>
          ms_l (hp_I αh7 301 b23) fun x24 =>
          hq_c (f_X3_hasRoom n αh7 a0 x24 (64 : Int32)) fun rh25 αh25 =>
          if rh25 = 0 then
            some ((0 : Int32), αh25)
          else
            ms_l (hp_R αh25 201 a0) fun b27 =>
            ms_l (hp_R αh25 200 a0) fun b28 =>
            ms_l (hp_I αh25 356 b28) fun x29 =>
            ms_b (f_X5_put n αh25 b27 x29) fun αh30 =>
            ms_l (hp_R αh30 200 a0) fun b31 =>
            ms_b (f_X6_advance n αh30 b31) fun αh32 =>
            ms_l (v1_h7 + 1) fun x33 =>
            (f_X3_readRow_L28 n a0 k28) αh32 x33
        else
          hq_c (f_X3_fail n αh7 a0 (3 : Int32)) fun rh34 αh34 =>
          ms_z rh34 <|
          some (rh34, αh34)
      else
        f_X3_readRow_J110 n a0 αh7
def f_X3_readRow (n : Nat) (α : hp_T) (a0 : Nat) : Option (Int32 × hp_T) :=
  hq_c (f_X3_readWord n α a0 8) fun rh1 αh1 =>
  if rh1 = 0 then
    some ((0 : Int32), αh1)
  else
    ms_l (hp_R αh1 201 a0) fun b3 =>
    ms_b (f_X5_shorten n αh1 b3 (0 : Int32)) fun αh4 =>
    ms_l (hp_R αh4 200 a0) fun b5 =>
    ms_b (f_X6_advance n αh4 b5) fun αh6 =>
    f_X3_readRow_L28 n a0 n αh6 (0 : Int32)
set_option maxRecDepth 100000 in
set_option maxHeartbeats 4000000 in
theorem n_X3_readRow (n : Nat) (Γ : hp_G) (l : Launch) (α : hp_T) (g : GC α) (a0 : Nat) (k0 : hp_K α a0 = 4) (res : (Int32 × hp_T)) (hf : f_X3_readRow n α a0 = some res) : Met l yX3_readRow (hp_ws yX3_readRow cX3_readRow 2 (some .boolean)) (hp_rm 6 0 0) (hp_Pc Γ α [.ref a0]) (hp_Qi Γ (fun r β => r = res.1 ∧ β = res.2 ∧ cw w_X3_readRow α β)) 0 0 (hp_A Γ) := by
  unfold f_X3_readRow at hf
  refine hp_start (by decide) ?_
  intro p e s m below meth c C hr hlk B0 hnm
  have C : hp_C Γ p m c cX3_readRow 2 s ([.ref a0] : List Value).toArray RX3 := C
  have hx := C.1.1
  have hb := C.1.2.1
  have hown := C.1.2.2.2.1
  have hts := C.1.2.2.2.2
  have B : hp_B Γ (cw w_X3_readRow) s α α s.heap [] := ⟨B0.1, B0.2.1, cw_rf g⟩
  have hl := lv_entry ([.ref a0]) (n := 2) (Nat.le_of_ble_eq_true rfl)
  show W p l e (hp_rm 6 0 0) s m ([.ref a0] : List Value).toArray below meth c s.heap [] 0 0 (MQ below (hp_Qi Γ (fun r β => r = res.1 ∧ β = res.2 ∧ cw w_X3_readRow α β)) ([.ref a0] : List Value).toArray s 0 0 (hp_A Γ)) (entryFrame m ([.ref a0] : List Value).toArray 2)
  rw [lg_entry_eq]
  generalize (lg_sl ([.ref a0]) ++ List.replicate (2 - (lg_sl ([.ref a0])).length) Slot.unset).toArray = ls at hl ⊢
  have hl : lv_has ls 2 [(0, .ref a0)] := hl
  refine lv_aload_n hx hb dX3_readRow_0 rfl (lv_at hl 0 rfl) (hp_n (n := 1) rfl ?_)
  refine va_ldcS hx hb hown (sr_X3_186 C.2) dX3_readRow_1 (hp_n (n := 3) rfl ?_)
  obtain ⟨rh1, αh1, qh1, hf⟩ := hq_cE hf
  refine d_ci (pc' := 6) B (hp_runV (As := [.ref (Γ.2.2.2.2.1 8)]) (rest := []) C B (n_X3_readWord n Γ l α B.2.2.1 a0 (cw_k B.2.2 k0) 8 (by decide) (rh1, αh1) qh1) lb_X3_readWord lv_X3_readWord lk_X3_158 (cw_k B.2.2 k0) rfl (by decide) rfl hl.1 rfl (Nat.le_of_ble_eq_true rfl) dX3_readRow_3 ⟨Nat.le_refl _, Nat.le_refl _⟩) (by decide) rfl (fun Hh1 Lh1 Bh1 => ?_)
  refine lv_if_ne (tgt := 11) hx hb dX3_readRow_6 (by decide) (fun c2 => ?_) (fun c2 => hp_n (n := 9) rfl ?_)
  ·
    replace hf := ms_iF c2 hf
    refine lv_aload_n hx hb dX3_readRow_11 rfl (lv_at hl 0 rfl) (hp_n (n := 12) rfl ?_)
    refine q_getr (κ := 4) (k := 1) (φ := 201) (pc' := 15) C Bh1 (cw_k Bh1.2.2 k0) fl_X3_21 rfl rfl rfl (cw_r Bh1.2.2 k0 rfl rfl (by decide) (by decide)) dX3_readRow_12 rfl (fun b3 eb3 kb3 => ?_)
    replace hf := ms_lE eb3 hf
    refine lv_iconst (v := 0) hx hb dX3_readRow_15 (by decide) (hp_n (n := 16) rfl ?_)
    obtain ⟨αh4, qh4, hf⟩ := ms_bE hf
    refine d_cv (pc' := 19) Bh1 (hp_runV (As := [.int (0 : Int32)]) (rest := []) C Bh1 (n_X5_shorten n Γ l αh1 Bh1.2.2.1 b3 (cw_k Bh1.2.2 kb3) (0 : Int32) αh4 qh4) lb_X5_shorten lv_X5_shorten lk_X3_120 (cw_k Bh1.2.2 kb3) rfl (by decide) rfl hl.1 rfl (Nat.le_of_ble_eq_true rfl) dX3_readRow_16 ⟨Nat.le_refl _, Nat.le_refl _⟩) (by decide) rfl (fun Hh4 Lh4 Bh4 => ?_)
    refine lv_aload_n hx hb dX3_readRow_19 rfl (lv_at hl 0 rfl) (hp_n (n := 20) rfl ?_)
    refine q_getr (κ := 4) (k := 0) (φ := 200) (pc' := 23) C Bh4 (cw_k Bh4.2.2 k0) fl_X3_12 rfl rfl rfl (cw_r Bh4.2.2 k0 rfl rfl (by decide) (by decide)) dX3_readRow_20 rfl (fun b5 eb5 kb5 => ?_)
    replace hf := ms_lE eb5 hf
    obtain ⟨αh6, qh6, hf⟩ := ms_bE hf
    refine d_cv (pc' := 26) Bh4 (hp_runV (As := []) (rest := []) C Bh4 (n_X6_advance n Γ l αh4 Bh4.2.2.1 b5 (cw_k Bh4.2.2 kb5) αh6 qh6) lb_X6_advance lv_X6_advance lk_X3_63 (cw_k Bh4.2.2 kb5) rfl (by decide) rfl hl.1 rfl (Nat.le_of_ble_eq_true rfl) dX3_readRow_23 ⟨Nat.le_refl _, Nat.le_refl _⟩) (by decide) rfl (fun Hh6 Lh6 Bh6 => ?_)
    refine lv_iconst (v := 0) hx hb dX3_readRow_26 (by decide) (hp_n (n := 27) rfl ?_)
    have J28 : ∀ (k28 : Nat) (αh7 : hp_T) (Hh7 : Heap) (Lh7 : List Loc) (Bh7 : hp_B Γ (cw w_X3_readRow) s α αh7 Hh7 Lh7) (v1_h7 : Int32) (ls : Array Slot) (hl : lv_has ls 2 [(0, .ref a0), (1, .int v1_h7)]) (hf : f_X3_readRow_L28 n a0 k28 αh7 v1_h7 = some res), W p l e (hp_rm 6 0 0) s m ([.ref a0] : List Value).toArray below meth c Hh7 Lh7 0 0 (MQ below (hp_Qi Γ (fun r β => r = res.1 ∧ β = res.2 ∧ cw w_X3_readRow α β)) ([.ref a0] : List Value).toArray s 0 0 (hp_A Γ)) (F0 m 28 ls []) := by
      intro k28
      induction k28 with
      | zero => intro αh7 Hh7 Lh7 Bh7 v1_h7 ls hl hf; rw [f_X3_readRow_L28.eq_1] at hf; cases hf
      | succ k28 ih28 =>
        intro αh7 Hh7 Lh7 Bh7 v1_h7 ls hl hf
        rw [f_X3_readRow_L28.eq_2] at hf
        refine lv_iload_n hx hb dX3_readRow_28 rfl (lv_at hl 1 rfl) (hp_n (n := 29) rfl ?_)
        refine lv_bipush (v := 64) hx hb dX3_readRow_29 (by decide) (hp_n (n := 31) rfl ?_)
        have J110 : ∀ (αh8 : hp_T) (Hh8 : Heap) (Lh8 : List Loc) (Bh8 : hp_B Γ (cw w_X3_readRow) s α αh8 Hh8 Lh8) (ls : Array Slot) (hl : lv_has ls 2 [(0, .ref a0)]) (hf : f_X3_readRow_J110 n a0 αh8 = some res), W p l e (hp_rm 6 0 0) s m ([.ref a0] : List Value).toArray below meth c Hh8 Lh8 0 0 (MQ below (hp_Qi Γ (fun r β => r = res.1 ∧ β = res.2 ∧ cw w_X3_readRow α β)) ([.ref a0] : List Value).toArray s 0 0 (hp_A Γ)) (F0 m 110 ls []) := by
          intro αh8 Hh8 Lh8 Bh8 ls hl hf
          unfold f_X3_readRow_J110 at hf
          refine lv_aload_n hx hb dX3_readRow_110 rfl (lv_at hl 0 rfl) (hp_n (n := 111) rfl ?_)
          refine q_getr (κ := 4) (k := 0) (φ := 200) (pc' := 114) C Bh8 (cw_k Bh8.2.2 k0) fl_X3_12 rfl rfl rfl (cw_r Bh8.2.2 k0 rfl rfl (by decide) (by decide)) dX3_readRow_111 rfl (fun b9 eb9 kb9 => ?_)
          replace hf := ms_lE eb9 hf
          refine q_geti (κ := 7) (k := 3) (φ := 353) (pc' := 117) C Bh8 (cw_k Bh8.2.2 kb9) fl_X3_66 rfl rfl rfl dX3_readRow_114 rfl (fun x10 ex10 => ?_)
          replace hf := ms_lE ex10 hf
          refine lv_iconst (v := 3) hx hb dX3_readRow_117 (by decide) (hp_n (n := 118) rfl ?_)
          have J128 : ∀ (αh11 : hp_T) (Hh11 : Heap) (Lh11 : List Loc) (Bh11 : hp_B Γ (cw w_X3_readRow) s α αh11 Hh11 Lh11) (ls : Array Slot) (hl : lv_has ls 2 []) (hf : f_X3_readRow_J128 n a0 αh11 = some res), W p l e (hp_rm 6 0 0) s m ([.ref a0] : List Value).toArray below meth c Hh11 Lh11 0 0 (MQ below (hp_Qi Γ (fun r β => r = res.1 ∧ β = res.2 ∧ cw w_X3_readRow α β)) ([.ref a0] : List Value).toArray s 0 0 (hp_A Γ)) (F0 m 128 ls []) := by
            intro αh11 Hh11 Lh11 Bh11 ls hl hf
            unfold f_X3_readRow_J128 at hf
            refine lv_iconst (v := 1) hx hb dX3_readRow_128 (by decide) (hp_n (n := 129) rfl ?_)
            refine lv_goto (tgt := 133) hx hb dX3_readRow_129 (by decide) ?_
            cases hf
            exact q_zret C Bh11 hr hlk (by decide) ⟨rfl, rfl, Bh11.2.2⟩ dX3_readRow_133
          refine lv_icmp_eq (tgt := 128) hx hb dX3_readRow_118 (by decide) (fun c12 => ?_) (fun c12 => hp_n (n := 121) rfl ?_)
          ·
            replace hf := ms_iT c12 hf
            exact J128 αh8 Hh8 Lh8 Bh8 ls (lv_sub hl [] rfl) hf
          ·
            replace hf := ms_iF c12 hf
            refine lv_aload_n hx hb dX3_readRow_121 rfl (lv_at hl 0 rfl) (hp_n (n := 122) rfl ?_)
            obtain ⟨rh13, αh13, qh13, hf⟩ := hq_cE hf
            refine d_ci (pc' := 125) Bh8 (hp_runV (As := []) (rest := []) C Bh8 (n_X3_stray n Γ l αh8 Bh8.2.2.1 a0 (cw_k Bh8.2.2 k0) (rh13, αh13) qh13) lb_X3_stray lv_X3_stray lk_X3_117 (cw_k Bh8.2.2 k0) rfl (by decide) rfl hl.1 rfl (Nat.le_of_ble_eq_true rfl) dX3_readRow_122 ⟨Nat.le_refl _, Nat.le_refl _⟩) (by decide) rfl (fun Hh13 Lh13 Bh13 => ?_)
            refine lv_if_eq (tgt := 132) hx hb dX3_readRow_125 (by decide) (fun c14 => ?_) (fun c14 => hp_n (n := 128) rfl ?_)
            ·
              replace hf := ms_iT c14 hf
              refine lv_iconst (v := 0) hx hb dX3_readRow_132 (by decide) (hp_n (n := 133) rfl ?_)
              cases hf
              exact q_zret C Bh13 hr hlk (by decide) ⟨rfl, rfl, Bh13.2.2⟩ dX3_readRow_133
            ·
              replace hf := ms_iF c14 hf
              exact J128 αh13 Hh13 Lh13 Bh13 ls (lv_sub hl [] rfl) hf
        refine lv_icmp_gt (tgt := 110) hx hb dX3_readRow_31 (by decide) (fun c15 => ?_) (fun c15 => hp_n (n := 34) rfl ?_)
        ·
          replace hf := ms_iT c15 hf
          exact J110 αh7 Hh7 Lh7 Bh7 ls (lv_sub hl [0] rfl) hf
        ·
          replace hf := ms_iF c15 hf
          refine lv_aload_n hx hb dX3_readRow_34 rfl (lv_at hl 0 rfl) (hp_n (n := 35) rfl ?_)
          refine q_getr (κ := 4) (k := 0) (φ := 200) (pc' := 38) C Bh7 (cw_k Bh7.2.2 k0) fl_X3_12 rfl rfl rfl (cw_r Bh7.2.2 k0 rfl rfl (by decide) (by decide)) dX3_readRow_35 rfl (fun b16 eb16 kb16 => ?_)
          replace hf := ms_lE eb16 hf
          refine q_geti (κ := 7) (k := 3) (φ := 353) (pc' := 41) C Bh7 (cw_k Bh7.2.2 kb16) fl_X3_66 rfl rfl rfl dX3_readRow_38 rfl (fun x17 ex17 => ?_)
          replace hf := ms_lE ex17 hf
          refine lv_iconst (v := 2) hx hb dX3_readRow_41 (by decide) (hp_n (n := 42) rfl ?_)
          refine lv_icmp_ne (tgt := 110) hx hb dX3_readRow_42 (by decide) (fun c18 => ?_) (fun c18 => hp_n (n := 45) rfl ?_)
          ·
            replace hf := ms_iF c18 hf
            exact J110 αh7 Hh7 Lh7 Bh7 ls (lv_sub hl [0] rfl) hf
          ·
            replace hf := ms_iT c18 hf
            refine lv_aload_n hx hb dX3_readRow_45 rfl (lv_at hl 0 rfl) (hp_n (n := 46) rfl ?_)
            refine q_getr (κ := 4) (k := 0) (φ := 200) (pc' := 49) C Bh7 (cw_k Bh7.2.2 k0) fl_X3_12 rfl rfl rfl (cw_r Bh7.2.2 k0 rfl rfl (by decide) (by decide)) dX3_readRow_46 rfl (fun b19 eb19 kb19 => ?_)
            replace hf := ms_lE eb19 hf
            refine q_geti (κ := 7) (k := 6) (φ := 356) (pc' := 52) C Bh7 (cw_k Bh7.2.2 kb19) fl_X3_188 rfl rfl rfl dX3_readRow_49 rfl (fun x20 ex20 => ?_)
            replace hf := ms_lE ex20 hf
            refine lv_aload_n hx hb dX3_readRow_52 rfl (lv_at hl 0 rfl) (hp_n (n := 53) rfl ?_)
            refine q_geti (κ := 4) (k := 3) (φ := 203) (pc' := 56) C Bh7 (cw_k Bh7.2.2 k0) fl_X3_33 rfl rfl rfl dX3_readRow_53 rfl (fun x21 ex21 => ?_)
            replace hf := ms_lE ex21 hf
            refine lv_icmp_lt (tgt := 65) hx hb dX3_readRow_56 (by decide) (fun c22 => ?_) (fun c22 => hp_n (n := 59) rfl ?_)
            ·
              replace hf := ms_iT c22 hf
              refine lv_aload_n hx hb dX3_readRow_65 rfl (lv_at hl 0 rfl) (hp_n (n := 66) rfl ?_)
              refine lv_aload_n hx hb dX3_readRow_66 rfl (lv_at hl 0 rfl) (hp_n (n := 67) rfl ?_)
              refine q_getr (κ := 4) (k := 1) (φ := 201) (pc' := 70) C Bh7 (cw_k Bh7.2.2 k0) fl_X3_21 rfl rfl rfl (cw_r Bh7.2.2 k0 rfl rfl (by decide) (by decide)) dX3_readRow_67 rfl (fun b23 eb23 kb23 => ?_)
              replace hf := ms_lE eb23 hf
              refine q_geti (κ := 6) (k := 1) (φ := 301) (pc' := 73) C Bh7 (cw_k Bh7.2.2 kb23) fl_X3_131 rfl rfl rfl dX3_readRow_70 rfl (fun x24 ex24 => ?_)
              replace hf := ms_lE ex24 hf
              refine lv_bipush (v := 64) hx hb dX3_readRow_73 (by decide) (hp_n (n := 75) rfl ?_)
              obtain ⟨rh25, αh25, qh25, hf⟩ := hq_cE hf
              refine d_ci (pc' := 78) Bh7 (hp_runV (As := [.int x24, .int (64 : Int32)]) (rest := []) C Bh7 (n_X3_hasRoom n Γ l αh7 Bh7.2.2.1 a0 (cw_k Bh7.2.2 k0) x24 (64 : Int32) (rh25, αh25) qh25) lb_X3_hasRoom lv_X3_hasRoom lk_X3_99 (cw_k Bh7.2.2 k0) rfl (by decide) rfl hl.1 rfl (Nat.le_of_ble_eq_true rfl) dX3_readRow_75 ⟨Nat.le_refl _, Nat.le_refl _⟩) (by decide) rfl (fun Hh25 Lh25 Bh25 => ?_)
              refine lv_if_ne (tgt := 83) hx hb dX3_readRow_78 (by decide) (fun c26 => ?_) (fun c26 => hp_n (n := 81) rfl ?_)
              ·
                replace hf := ms_iF c26 hf
                refine lv_aload_n hx hb dX3_readRow_83 rfl (lv_at hl 0 rfl) (hp_n (n := 84) rfl ?_)
                refine q_getr (κ := 4) (k := 1) (φ := 201) (pc' := 87) C Bh25 (cw_k Bh25.2.2 k0) fl_X3_21 rfl rfl rfl (cw_r Bh25.2.2 k0 rfl rfl (by decide) (by decide)) dX3_readRow_84 rfl (fun b27 eb27 kb27 => ?_)
                replace hf := ms_lE eb27 hf
                refine lv_aload_n hx hb dX3_readRow_87 rfl (lv_at hl 0 rfl) (hp_n (n := 88) rfl ?_)
                refine q_getr (κ := 4) (k := 0) (φ := 200) (pc' := 91) C Bh25 (cw_k Bh25.2.2 k0) fl_X3_12 rfl rfl rfl (cw_r Bh25.2.2 k0 rfl rfl (by decide) (by decide)) dX3_readRow_88 rfl (fun b28 eb28 kb28 => ?_)
                replace hf := ms_lE eb28 hf
                refine q_geti (κ := 7) (k := 6) (φ := 356) (pc' := 94) C Bh25 (cw_k Bh25.2.2 kb28) fl_X3_188 rfl rfl rfl dX3_readRow_91 rfl (fun x29 ex29 => ?_)
                replace hf := ms_lE ex29 hf
                obtain ⟨αh30, qh30, hf⟩ := ms_bE hf
                refine d_cv (pc' := 97) Bh25 (hp_runV (As := [.int x29]) (rest := []) C Bh25 (n_X5_put n Γ l αh25 Bh25.2.2.1 b27 (cw_k Bh25.2.2 kb27) x29 αh30 qh30) lb_X5_put lv_X5_put lk_X3_179 (cw_k Bh25.2.2 kb27) rfl (by decide) rfl hl.1 rfl (Nat.le_of_ble_eq_true rfl) dX3_readRow_94 ⟨Nat.le_refl _, Nat.le_refl _⟩) (by decide) rfl (fun Hh30 Lh30 Bh30 => ?_)
                refine lv_aload_n hx hb dX3_readRow_97 rfl (lv_at hl 0 rfl) (hp_n (n := 98) rfl ?_)
                refine q_getr (κ := 4) (k := 0) (φ := 200) (pc' := 101) C Bh30 (cw_k Bh30.2.2 k0) fl_X3_12 rfl rfl rfl (cw_r Bh30.2.2 k0 rfl rfl (by decide) (by decide)) dX3_readRow_98 rfl (fun b31 eb31 kb31 => ?_)
                replace hf := ms_lE eb31 hf
                obtain ⟨αh32, qh32, hf⟩ := ms_bE hf
                refine d_cv (pc' := 104) Bh30 (hp_runV (As := []) (rest := []) C Bh30 (n_X6_advance n Γ l αh30 Bh30.2.2.1 b31 (cw_k Bh30.2.2 kb31) αh32 qh32) lb_X6_advance lv_X6_advance lk_X3_63 (cw_k Bh30.2.2 kb31) rfl (by decide) rfl hl.1 rfl (Nat.le_of_ble_eq_true rfl) dX3_readRow_101 ⟨Nat.le_refl _, Nat.le_refl _⟩) (by decide) rfl (fun Hh32 Lh32 Bh32 => ?_)
                obtain ⟨x33, ex33⟩ : ∃ y : Int32, y = v1_h7 + 1 := ⟨_, rfl⟩
                replace hf := ms_lE ex33 hf
                refine lv_iinc (v := x33) (lv' := [(1, .int x33), (0, .ref a0)]) hx hb dX3_readRow_104 hl (k := 1) rfl (by rw [ex33]; rfl) (by decide) rfl (fun ls hl => hp_n (n := 107) rfl ?_)
                refine lv_goto (tgt := 28) hx hb dX3_readRow_107 (by decide) ?_
                exact ih28 αh32 Hh32 Lh32 Bh32 x33 ls (lv_sub hl [1, 0] rfl) hf
              ·
                replace hf := ms_iT c26 hf
                refine lv_iconst (v := 0) hx hb dX3_readRow_81 (by decide) (hp_n (n := 82) rfl ?_)
                cases hf
                exact q_zret C Bh25 hr hlk (by decide) ⟨rfl, rfl, Bh25.2.2⟩ dX3_readRow_82
            ·
              replace hf := ms_iF c22 hf
              refine lv_aload_n hx hb dX3_readRow_59 rfl (lv_at hl 0 rfl) (hp_n (n := 60) rfl ?_)
              refine lv_iconst (v := 3) hx hb dX3_readRow_60 (by decide) (hp_n (n := 61) rfl ?_)
              obtain ⟨rh34, αh34, qh34, hf⟩ := hq_cE hf
              refine d_ci (pc' := 64) Bh7 (hp_runV (As := [.int (3 : Int32)]) (rest := []) C Bh7 (n_X3_fail n Γ l αh7 Bh7.2.2.1 a0 (cw_k Bh7.2.2 k0) (3 : Int32) (rh34, αh34) qh34) lb_X3_fail lv_X3_fail lk_X3_145 (cw_k Bh7.2.2 k0) rfl (by decide) rfl hl.1 rfl (Nat.le_of_ble_eq_true rfl) dX3_readRow_61 ⟨Nat.le_refl _, Nat.le_refl _⟩) (by decide) rfl (fun Hh34 Lh34 Bh34 => ?_)
              obtain ⟨g35, hf⟩ := ms_zE hf
              cases hf
              exact q_zret C Bh34 hr hlk (nz_z g35) ⟨rfl, rfl, Bh34.2.2⟩ dX3_readRow_64
    refine lv_istore_n (lv' := [(1, .int (0 : Int32)), (0, .ref a0)]) hx hb dX3_readRow_27 rfl hl (by decide) rfl (fun ls hl => hp_n (n := 28) rfl ?_)
    exact J28 n αh6 Hh6 Lh6 Bh6 (0 : Int32) ls (lv_sub hl [1, 0] rfl) hf
  ·
    replace hf := ms_iT c2 hf
    refine lv_iconst (v := 0) hx hb dX3_readRow_9 (by decide) (hp_n (n := 10) rfl ?_)
    cases hf
    exact q_zret C Bh1 hr hlk (by decide) ⟨rfl, rfl, Bh1.2.2⟩ dX3_readRow_10
def f_X3_readInclusion (n : Nat) (α : hp_T) (a0 : Nat) (a1 : Nat) : Option (Int32 × hp_T) :=
  hq_c (f_X3_readNumber n α a0 (0 : Int32) (2147483647 : Int32)) fun rh1 αh1 =>
  if rh1 = 0 then
    some ((0 : Int32), αh1)
  else
    ms_l (hp_I αh1 209 a0) fun x3 =>
    hq_c (f_X3_readWord n αh1 a0 18) fun rh4 αh4 =>
    if rh4 = 0 then
      some ((0 : Int32), αh4)
    else
      hq_c (f_X3_readNumber n αh4 a0 (x3 + (1 : Int32)) (2147483647 : Int32)) fun rh6 αh6 =>
      if rh6 = 0 then
        some ((0 : Int32), αh6)
      else
        ms_l (hp_I αh6 209 a0) fun x8 =>
        hq_c (f_X3_readMark n αh6 a0 16) fun rh9 αh9 =>
        if rh9 = 0 then
          some ((0 : Int32), αh9)
        else
          ms_l (hp_I αh9 209 a0) fun x11 =>
          hq_c (f_X3_readMark n αh9 a0 13) fun rh12 αh12 =>
          if rh12 = 0 then
            some ((0 : Int32), αh12)
          else
            hq_c (f_X3_readRow n αh12 a0) fun rh14 αh14 =>
            if rh14 = 0 then
              some ((0 : Int32), αh14)
            else
              ms_l (hp_R αh14 202 a0) fun b16 =>
              ms_b (f_X8_toThing n αh14 b16 x3 x8) fun αh17 =>
              ms_l (hp_R αh17 202 a0) fun b18 =>
              ms_l (hp_I αh17 203 a0) fun x19 =>
              ms_l (hp_R αh17 201 a0) fun b20 =>
              ms_l (hp_I αh17 209 a0) fun x21 =>
              ms_b (f_X8_whyInclusion n αh17 b18 x19 b20 x11 x21) fun rh22 =>
              ms_b (f_X5_put n αh17 a1 rh22) fun αh23 =>
              some ((1 : Int32), αh23)
set_option maxRecDepth 100000 in
set_option maxHeartbeats 4000000 in
theorem n_X3_readInclusion (n : Nat) (Γ : hp_G) (l : Launch) (α : hp_T) (g : GC α) (a0 : Nat) (k0 : hp_K α a0 = 4) (a1 : Nat) (k1 : hp_K α a1 = 6) (res : (Int32 × hp_T)) (hf : f_X3_readInclusion n α a0 a1 = some res) : Met l yX3_readInclusion (hp_ws yX3_readInclusion cX3_readInclusion 5 (some .boolean)) (hp_rm 7 0 0) (hp_Pc Γ α [.ref a0, .ref a1]) (hp_Qi Γ (fun r β => r = res.1 ∧ β = res.2 ∧ cw w_X3_readInclusion α β)) 0 0 (hp_A Γ) := by
  unfold f_X3_readInclusion at hf
  refine hp_start (by decide) ?_
  intro p e s m below meth c C hr hlk B0 hnm
  have C : hp_C Γ p m c cX3_readInclusion 5 s ([.ref a0, .ref a1] : List Value).toArray RX3 := C
  have hx := C.1.1
  have hb := C.1.2.1
  have hown := C.1.2.2.2.1
  have hts := C.1.2.2.2.2
  have B : hp_B Γ (cw w_X3_readInclusion) s α α s.heap [] := ⟨B0.1, B0.2.1, cw_rf g⟩
  have hl := lv_entry ([.ref a0, .ref a1]) (n := 5) (Nat.le_of_ble_eq_true rfl)
  show W p l e (hp_rm 7 0 0) s m ([.ref a0, .ref a1] : List Value).toArray below meth c s.heap [] 0 0 (MQ below (hp_Qi Γ (fun r β => r = res.1 ∧ β = res.2 ∧ cw w_X3_readInclusion α β)) ([.ref a0, .ref a1] : List Value).toArray s 0 0 (hp_A Γ)) (entryFrame m ([.ref a0, .ref a1] : List Value).toArray 5)
  rw [lg_entry_eq]
  generalize (lg_sl ([.ref a0, .ref a1]) ++ List.replicate (5 - (lg_sl ([.ref a0, .ref a1])).length) Slot.unset).toArray = ls at hl ⊢
  have hl : lv_has ls 5 [(0, .ref a0), (1, .ref a1)] := hl
  refine lv_aload_n hx hb dX3_readInclusion_0 rfl (lv_at hl 0 rfl) (hp_n (n := 1) rfl ?_)
  refine lv_iconst (v := 0) hx hb dX3_readInclusion_1 (by decide) (hp_n (n := 2) rfl ?_)
  refine lv_ldc hx hb hown (hts _ kc_X3_155) dX3_readInclusion_2 (hp_n (n := 4) rfl ?_)
  obtain ⟨rh1, αh1, qh1, hf⟩ := hq_cE hf
  refine d_ci (pc' := 7) B (hp_runV (As := [.int (0 : Int32), .int (2147483647 : Int32)]) (rest := []) C B (n_X3_readNumber n Γ l α B.2.2.1 a0 (cw_k B.2.2 k0) (0 : Int32) (2147483647 : Int32) (rh1, αh1) qh1) lb_X3_readNumber lv_X3_readNumber lk_X3_75 (cw_k B.2.2 k0) rfl (by decide) rfl hl.1 rfl (Nat.le_of_ble_eq_true rfl) dX3_readInclusion_4 ⟨Nat.le_refl _, Nat.le_refl _⟩) (by decide) rfl (fun Hh1 Lh1 Bh1 => ?_)
  refine lv_if_ne (tgt := 12) hx hb dX3_readInclusion_7 (by decide) (fun c2 => ?_) (fun c2 => hp_n (n := 10) rfl ?_)
  ·
    replace hf := ms_iF c2 hf
    refine lv_aload_n hx hb dX3_readInclusion_12 rfl (lv_at hl 0 rfl) (hp_n (n := 13) rfl ?_)
    refine q_geti (κ := 4) (k := 9) (φ := 209) (pc' := 16) C Bh1 (cw_k Bh1.2.2 k0) fl_X3_56 rfl rfl rfl dX3_readInclusion_13 rfl (fun x3 ex3 => ?_)
    replace hf := ms_lE ex3 hf
    refine lv_istore_n (lv' := [(2, .int x3), (0, .ref a0), (1, .ref a1)]) hx hb dX3_readInclusion_16 rfl hl (by decide) rfl (fun ls hl => hp_n (n := 17) rfl ?_)
    refine lv_aload_n hx hb dX3_readInclusion_17 rfl (lv_at hl 1 rfl) (hp_n (n := 18) rfl ?_)
    refine va_ldcS hx hb hown (sr_X3_156 C.2) dX3_readInclusion_18 (hp_n (n := 20) rfl ?_)
    obtain ⟨rh4, αh4, qh4, hf⟩ := hq_cE hf
    refine d_ci (pc' := 23) Bh1 (hp_runV (As := [.ref (Γ.2.2.2.2.1 18)]) (rest := []) C Bh1 (n_X3_readWord n Γ l αh1 Bh1.2.2.1 a0 (cw_k Bh1.2.2 k0) 18 (by decide) (rh4, αh4) qh4) lb_X3_readWord lv_X3_readWord lk_X3_158 (cw_k Bh1.2.2 k0) rfl (by decide) rfl hl.1 rfl (Nat.le_of_ble_eq_true rfl) dX3_readInclusion_20 ⟨Nat.le_refl _, Nat.le_refl _⟩) (by decide) rfl (fun Hh4 Lh4 Bh4 => ?_)
    refine lv_if_eq (tgt := 38) hx hb dX3_readInclusion_23 (by decide) (fun c5 => ?_) (fun c5 => hp_n (n := 26) rfl ?_)
    ·
      replace hf := ms_iT c5 hf
      refine lv_iconst (v := 0) hx hb dX3_readInclusion_38 (by decide) (hp_n (n := 39) rfl ?_)
      cases hf
      exact q_zret C Bh4 hr hlk (by decide) ⟨rfl, rfl, Bh4.2.2⟩ dX3_readInclusion_39
    ·
      replace hf := ms_iF c5 hf
      refine lv_aload_n hx hb dX3_readInclusion_26 rfl (lv_at hl 1 rfl) (hp_n (n := 27) rfl ?_)
      refine lv_iload_n hx hb dX3_readInclusion_27 rfl (lv_at hl 0 rfl) (hp_n (n := 28) rfl ?_)
      refine lv_iconst (v := 1) hx hb dX3_readInclusion_28 (by decide) (hp_n (n := 29) rfl ?_)
      refine lv_iadd hx hb dX3_readInclusion_29 (hp_n (n := 30) rfl ?_)
      refine lv_ldc hx hb hown (hts _ kc_X3_155) dX3_readInclusion_30 (hp_n (n := 32) rfl ?_)
      obtain ⟨rh6, αh6, qh6, hf⟩ := hq_cE hf
      refine d_ci (pc' := 35) Bh4 (hp_runV (As := [.int (x3 + (1 : Int32)), .int (2147483647 : Int32)]) (rest := []) C Bh4 (n_X3_readNumber n Γ l αh4 Bh4.2.2.1 a0 (cw_k Bh4.2.2 k0) (x3 + (1 : Int32)) (2147483647 : Int32) (rh6, αh6) qh6) lb_X3_readNumber lv_X3_readNumber lk_X3_75 (cw_k Bh4.2.2 k0) rfl (by decide) rfl hl.1 rfl (Nat.le_of_ble_eq_true rfl) dX3_readInclusion_32 ⟨Nat.le_refl _, Nat.le_refl _⟩) (by decide) rfl (fun Hh6 Lh6 Bh6 => ?_)
      refine lv_if_ne (tgt := 40) hx hb dX3_readInclusion_35 (by decide) (fun c7 => ?_) (fun c7 => hp_n (n := 38) rfl ?_)
      ·
        replace hf := ms_iF c7 hf
        refine lv_aload_n hx hb dX3_readInclusion_40 rfl (lv_at hl 1 rfl) (hp_n (n := 41) rfl ?_)
        refine q_geti (κ := 4) (k := 9) (φ := 209) (pc' := 44) C Bh6 (cw_k Bh6.2.2 k0) fl_X3_56 rfl rfl rfl dX3_readInclusion_41 rfl (fun x8 ex8 => ?_)
        replace hf := ms_lE ex8 hf
        refine lv_istore_n (lv' := [(3, .int x8), (2, .int x3), (0, .ref a0), (1, .ref a1)]) hx hb dX3_readInclusion_44 rfl hl (by decide) rfl (fun ls hl => hp_n (n := 45) rfl ?_)
        refine lv_aload_n hx hb dX3_readInclusion_45 rfl (lv_at hl 2 rfl) (hp_n (n := 46) rfl ?_)
        refine va_ldcS hx hb hown (sr_X3_161 C.2) dX3_readInclusion_46 (hp_n (n := 48) rfl ?_)
        obtain ⟨rh9, αh9, qh9, hf⟩ := hq_cE hf
        refine d_ci (pc' := 51) Bh6 (hp_runV (As := [.ref (Γ.2.2.2.2.1 16)]) (rest := []) C Bh6 (n_X3_readMark n Γ l αh6 Bh6.2.2.1 a0 (cw_k Bh6.2.2 k0) 16 (by decide) (rh9, αh9) qh9) lb_X3_readMark lv_X3_readMark lk_X3_163 (cw_k Bh6.2.2 k0) rfl (by decide) rfl hl.1 rfl (Nat.le_of_ble_eq_true rfl) dX3_readInclusion_48 ⟨Nat.le_refl _, Nat.le_refl _⟩) (by decide) rfl (fun Hh9 Lh9 Bh9 => ?_)
        refine lv_if_ne (tgt := 56) hx hb dX3_readInclusion_51 (by decide) (fun c10 => ?_) (fun c10 => hp_n (n := 54) rfl ?_)
        ·
          replace hf := ms_iF c10 hf
          refine lv_aload_n hx hb dX3_readInclusion_56 rfl (lv_at hl 2 rfl) (hp_n (n := 57) rfl ?_)
          refine q_geti (κ := 4) (k := 9) (φ := 209) (pc' := 60) C Bh9 (cw_k Bh9.2.2 k0) fl_X3_56 rfl rfl rfl dX3_readInclusion_57 rfl (fun x11 ex11 => ?_)
          replace hf := ms_lE ex11 hf
          refine lv_istore (lv' := [(4, .int x11), (3, .int x8), (2, .int x3), (0, .ref a0), (1, .ref a1)]) hx hb dX3_readInclusion_60 hl (by decide) rfl (fun ls hl => hp_n (n := 62) rfl ?_)
          refine lv_aload_n hx hb dX3_readInclusion_62 rfl (lv_at hl 3 rfl) (hp_n (n := 63) rfl ?_)
          refine va_ldcS hx hb hown (sr_X3_166 C.2) dX3_readInclusion_63 (hp_n (n := 65) rfl ?_)
          obtain ⟨rh12, αh12, qh12, hf⟩ := hq_cE hf
          refine d_ci (pc' := 68) Bh9 (hp_runV (As := [.ref (Γ.2.2.2.2.1 13)]) (rest := []) C Bh9 (n_X3_readMark n Γ l αh9 Bh9.2.2.1 a0 (cw_k Bh9.2.2 k0) 13 (by decide) (rh12, αh12) qh12) lb_X3_readMark lv_X3_readMark lk_X3_163 (cw_k Bh9.2.2 k0) rfl (by decide) rfl hl.1 rfl (Nat.le_of_ble_eq_true rfl) dX3_readInclusion_65 ⟨Nat.le_refl _, Nat.le_refl _⟩) (by decide) rfl (fun Hh12 Lh12 Bh12 => ?_)
          refine lv_if_eq (tgt := 78) hx hb dX3_readInclusion_68 (by decide) (fun c13 => ?_) (fun c13 => hp_n (n := 71) rfl ?_)
          ·
            replace hf := ms_iT c13 hf
            refine lv_iconst (v := 0) hx hb dX3_readInclusion_78 (by decide) (hp_n (n := 79) rfl ?_)
            cases hf
            exact q_zret C Bh12 hr hlk (by decide) ⟨rfl, rfl, Bh12.2.2⟩ dX3_readInclusion_79
          ·
            replace hf := ms_iF c13 hf
            refine lv_aload_n hx hb dX3_readInclusion_71 rfl (lv_at hl 3 rfl) (hp_n (n := 72) rfl ?_)
            obtain ⟨rh14, αh14, qh14, hf⟩ := hq_cE hf
            refine d_ci (pc' := 75) Bh12 (hp_runV (As := []) (rest := []) C Bh12 (n_X3_readRow n Γ l αh12 Bh12.2.2.1 a0 (cw_k Bh12.2.2 k0) (rh14, αh14) qh14) lb_X3_readRow lv_X3_readRow lk_X3_168 (cw_k Bh12.2.2 k0) rfl (by decide) rfl hl.1 rfl (Nat.le_of_ble_eq_true rfl) dX3_readInclusion_72 ⟨Nat.le_refl _, Nat.le_refl _⟩) (by decide) rfl (fun Hh14 Lh14 Bh14 => ?_)
            refine lv_if_ne (tgt := 80) hx hb dX3_readInclusion_75 (by decide) (fun c15 => ?_) (fun c15 => hp_n (n := 78) rfl ?_)
            ·
              replace hf := ms_iF c15 hf
              refine lv_aload_n hx hb dX3_readInclusion_80 rfl (lv_at hl 3 rfl) (hp_n (n := 81) rfl ?_)
              refine q_getr (κ := 4) (k := 2) (φ := 202) (pc' := 84) C Bh14 (cw_k Bh14.2.2 k0) fl_X3_28 rfl rfl rfl (cw_r Bh14.2.2 k0 rfl rfl (by decide) (by decide)) dX3_readInclusion_81 rfl (fun b16 eb16 kb16 => ?_)
              replace hf := ms_lE eb16 hf
              refine lv_iload_n hx hb dX3_readInclusion_84 rfl (lv_at hl 2 rfl) (hp_n (n := 85) rfl ?_)
              refine lv_iload_n hx hb dX3_readInclusion_85 rfl (lv_at hl 1 rfl) (hp_n (n := 86) rfl ?_)
              obtain ⟨αh17, qh17, hf⟩ := ms_bE hf
              refine d_cv (pc' := 89) Bh14 (hp_runV (As := [.int x3, .int x8]) (rest := []) C Bh14 (n_X8_toThing n Γ l αh14 Bh14.2.2.1 b16 (cw_k Bh14.2.2 kb16) x3 x8 αh17 qh17) lb_X8_toThing lv_X8_toThing lk_X3_171 (cw_k Bh14.2.2 kb16) rfl (by decide) rfl hl.1 rfl (Nat.le_of_ble_eq_true rfl) dX3_readInclusion_86 ⟨Nat.le_refl _, Nat.le_refl _⟩) (by decide) rfl (fun Hh17 Lh17 Bh17 => ?_)
              refine lv_aload_n hx hb dX3_readInclusion_89 rfl (lv_at hl 4 rfl) (hp_n (n := 90) rfl ?_)
              refine lv_aload_n hx hb dX3_readInclusion_90 rfl (lv_at hl 3 rfl) (hp_n (n := 91) rfl ?_)
              refine q_getr (κ := 4) (k := 2) (φ := 202) (pc' := 94) C Bh17 (cw_k Bh17.2.2 k0) fl_X3_28 rfl rfl rfl (cw_r Bh17.2.2 k0 rfl rfl (by decide) (by decide)) dX3_readInclusion_91 rfl (fun b18 eb18 kb18 => ?_)
              replace hf := ms_lE eb18 hf
              refine lv_aload_n hx hb dX3_readInclusion_94 rfl (lv_at hl 3 rfl) (hp_n (n := 95) rfl ?_)
              refine q_geti (κ := 4) (k := 3) (φ := 203) (pc' := 98) C Bh17 (cw_k Bh17.2.2 k0) fl_X3_33 rfl rfl rfl dX3_readInclusion_95 rfl (fun x19 ex19 => ?_)
              replace hf := ms_lE ex19 hf
              refine lv_aload_n hx hb dX3_readInclusion_98 rfl (lv_at hl 3 rfl) (hp_n (n := 99) rfl ?_)
              refine q_getr (κ := 4) (k := 1) (φ := 201) (pc' := 102) C Bh17 (cw_k Bh17.2.2 k0) fl_X3_21 rfl rfl rfl (cw_r Bh17.2.2 k0 rfl rfl (by decide) (by decide)) dX3_readInclusion_99 rfl (fun b20 eb20 kb20 => ?_)
              replace hf := ms_lE eb20 hf
              refine lv_iload hx hb dX3_readInclusion_102 (lv_at hl 0 rfl) (hp_n (n := 104) rfl ?_)
              refine lv_aload_n hx hb dX3_readInclusion_104 rfl (lv_at hl 3 rfl) (hp_n (n := 105) rfl ?_)
              refine q_geti (κ := 4) (k := 9) (φ := 209) (pc' := 108) C Bh17 (cw_k Bh17.2.2 k0) fl_X3_56 rfl rfl rfl dX3_readInclusion_105 rfl (fun x21 ex21 => ?_)
              replace hf := ms_lE ex21 hf
              obtain ⟨rh22, qh22, hf⟩ := ms_bE hf
              refine d_pi (pc' := 111) Bh17 (hp_runV (As := [.int x19, .ref b20, .int x11, .int x21]) (rest := [.ref a1]) C Bh17 (n_X8_whyInclusion n Γ l αh17 Bh17.2.2.1 b18 (cw_k Bh17.2.2 kb18) x19 b20 (cw_k Bh17.2.2 kb20) x11 x21 rh22 qh22) lb_X8_whyInclusion lv_X8_whyInclusion lk_X3_175 (cw_k Bh17.2.2 kb18) rfl (by decide) rfl hl.1 rfl (Nat.le_of_ble_eq_true rfl) dX3_readInclusion_108 ⟨Nat.le_refl _, Nat.le_refl _⟩) rfl (fun Hh22 Lh22 Bh22 => ?_)
              obtain ⟨αh23, qh23, hf⟩ := ms_bE hf
              refine d_cv (pc' := 114) Bh22 (hp_runV (As := [.int rh22]) (rest := []) C Bh22 (n_X5_put n Γ l αh17 Bh22.2.2.1 a1 (cw_k Bh22.2.2 k1) rh22 αh23 qh23) lb_X5_put lv_X5_put lk_X3_179 (cw_k Bh22.2.2 k1) rfl (by decide) rfl hl.1 rfl (Nat.le_of_ble_eq_true rfl) dX3_readInclusion_111 ⟨Nat.le_refl _, Nat.le_refl _⟩) (by decide) rfl (fun Hh23 Lh23 Bh23 => ?_)
              refine lv_iconst (v := 1) hx hb dX3_readInclusion_114 (by decide) (hp_n (n := 115) rfl ?_)
              cases hf
              exact q_zret C Bh23 hr hlk (by decide) ⟨rfl, rfl, Bh23.2.2⟩ dX3_readInclusion_115
            ·
              replace hf := ms_iT c15 hf
              refine lv_iconst (v := 0) hx hb dX3_readInclusion_78 (by decide) (hp_n (n := 79) rfl ?_)
              cases hf
              exact q_zret C Bh14 hr hlk (by decide) ⟨rfl, rfl, Bh14.2.2⟩ dX3_readInclusion_79
        ·
          replace hf := ms_iT c10 hf
          refine lv_iconst (v := 0) hx hb dX3_readInclusion_54 (by decide) (hp_n (n := 55) rfl ?_)
          cases hf
          exact q_zret C Bh9 hr hlk (by decide) ⟨rfl, rfl, Bh9.2.2⟩ dX3_readInclusion_55
      ·
        replace hf := ms_iT c7 hf
        refine lv_iconst (v := 0) hx hb dX3_readInclusion_38 (by decide) (hp_n (n := 39) rfl ?_)
        cases hf
        exact q_zret C Bh6 hr hlk (by decide) ⟨rfl, rfl, Bh6.2.2⟩ dX3_readInclusion_39
  ·
    replace hf := ms_iT c2 hf
    refine lv_iconst (v := 0) hx hb dX3_readInclusion_10 (by decide) (hp_n (n := 11) rfl ?_)
    cases hf
    exact q_zret C Bh1 hr hlk (by decide) ⟨rfl, rfl, Bh1.2.2⟩ dX3_readInclusion_11
def f_X3_readGrowth (n : Nat) (α : hp_T) (a0 : Nat) (a1 : Nat) : Option (Int32 × hp_T) :=
  hq_c (f_X3_readNumber n α a0 (0 : Int32) (2147483647 : Int32)) fun rh1 αh1 =>
  if rh1 = 0 then
    some ((0 : Int32), αh1)
  else
    ms_l (hp_I αh1 209 a0) fun x3 =>
    hq_c (f_X3_readMark n αh1 a0 16) fun rh4 αh4 =>
    if rh4 = 0 then
      some ((0 : Int32), αh4)
    else
      ms_l (hp_I αh4 209 a0) fun x6 =>
      hq_c (f_X3_readWord n αh4 a0 20) fun rh7 αh7 =>
      if rh7 = 0 then
        some ((0 : Int32), αh7)
      else
        hq_c (f_X3_readNumber n αh7 a0 x3 (2147483647 : Int32)) fun rh9 αh9 =>
        if rh9 = 0 then
          some ((0 : Int32), αh9)
        else
          ms_l (hp_I αh9 209 a0) fun x11 =>
          hq_c (f_X3_readMark n αh9 a0 13) fun rh12 αh12 =>
          if rh12 = 0 then
            some ((0 : Int32), αh12)
          else
            hq_c (f_X3_readRow n αh12 a0) fun rh14 αh14 =>
            if rh14 = 0 then
              some ((0 : Int32), αh14)
            else
              ms_l (hp_R αh14 202 a0) fun b16 =>
              ms_l (hp_I αh14 203 a0) fun x17 =>
              ms_l (hp_R αh14 201 a0) fun b18 =>
              ms_l (hp_I αh14 209 a0) fun x19 =>
              hq_c (f_X8_whyGrowth n αh14 b16 x17 b18 x3 x6 x11 x19) fun rh20 αh20 =>
              ms_b (f_X5_put n αh20 a1 rh20) fun αh21 =>
              some ((1 : Int32), αh21)
set_option maxRecDepth 100000 in
set_option maxHeartbeats 4000000 in
theorem n_X3_readGrowth (n : Nat) (Γ : hp_G) (l : Launch) (α : hp_T) (g : GC α) (a0 : Nat) (k0 : hp_K α a0 = 4) (a1 : Nat) (k1 : hp_K α a1 = 6) (res : (Int32 × hp_T)) (hf : f_X3_readGrowth n α a0 a1 = some res) : Met l yX3_readGrowth (hp_ws yX3_readGrowth cX3_readGrowth 5 (some .boolean)) (hp_rm 7 0 0) (hp_Pc Γ α [.ref a0, .ref a1]) (hp_Qi Γ (fun r β => r = res.1 ∧ β = res.2 ∧ cw w_X3_readGrowth α β)) 0 0 (hp_A Γ) := by
  unfold f_X3_readGrowth at hf
  refine hp_start (by decide) ?_
  intro p e s m below meth c C hr hlk B0 hnm
  have C : hp_C Γ p m c cX3_readGrowth 5 s ([.ref a0, .ref a1] : List Value).toArray RX3 := C
  have hx := C.1.1
  have hb := C.1.2.1
  have hown := C.1.2.2.2.1
  have hts := C.1.2.2.2.2
  have B : hp_B Γ (cw w_X3_readGrowth) s α α s.heap [] := ⟨B0.1, B0.2.1, cw_rf g⟩
  have hl := lv_entry ([.ref a0, .ref a1]) (n := 5) (Nat.le_of_ble_eq_true rfl)
  show W p l e (hp_rm 7 0 0) s m ([.ref a0, .ref a1] : List Value).toArray below meth c s.heap [] 0 0 (MQ below (hp_Qi Γ (fun r β => r = res.1 ∧ β = res.2 ∧ cw w_X3_readGrowth α β)) ([.ref a0, .ref a1] : List Value).toArray s 0 0 (hp_A Γ)) (entryFrame m ([.ref a0, .ref a1] : List Value).toArray 5)
  rw [lg_entry_eq]
  generalize (lg_sl ([.ref a0, .ref a1]) ++ List.replicate (5 - (lg_sl ([.ref a0, .ref a1])).length) Slot.unset).toArray = ls at hl ⊢
  have hl : lv_has ls 5 [(0, .ref a0), (1, .ref a1)] := hl
  refine lv_aload_n hx hb dX3_readGrowth_0 rfl (lv_at hl 0 rfl) (hp_n (n := 1) rfl ?_)
  refine lv_iconst (v := 0) hx hb dX3_readGrowth_1 (by decide) (hp_n (n := 2) rfl ?_)
  refine lv_ldc hx hb hown (hts _ kc_X3_155) dX3_readGrowth_2 (hp_n (n := 4) rfl ?_)
  obtain ⟨rh1, αh1, qh1, hf⟩ := hq_cE hf
  refine d_ci (pc' := 7) B (hp_runV (As := [.int (0 : Int32), .int (2147483647 : Int32)]) (rest := []) C B (n_X3_readNumber n Γ l α B.2.2.1 a0 (cw_k B.2.2 k0) (0 : Int32) (2147483647 : Int32) (rh1, αh1) qh1) lb_X3_readNumber lv_X3_readNumber lk_X3_75 (cw_k B.2.2 k0) rfl (by decide) rfl hl.1 rfl (Nat.le_of_ble_eq_true rfl) dX3_readGrowth_4 ⟨Nat.le_refl _, Nat.le_refl _⟩) (by decide) rfl (fun Hh1 Lh1 Bh1 => ?_)
  refine lv_if_ne (tgt := 12) hx hb dX3_readGrowth_7 (by decide) (fun c2 => ?_) (fun c2 => hp_n (n := 10) rfl ?_)
  ·
    replace hf := ms_iF c2 hf
    refine lv_aload_n hx hb dX3_readGrowth_12 rfl (lv_at hl 0 rfl) (hp_n (n := 13) rfl ?_)
    refine q_geti (κ := 4) (k := 9) (φ := 209) (pc' := 16) C Bh1 (cw_k Bh1.2.2 k0) fl_X3_56 rfl rfl rfl dX3_readGrowth_13 rfl (fun x3 ex3 => ?_)
    replace hf := ms_lE ex3 hf
    refine lv_istore_n (lv' := [(2, .int x3), (0, .ref a0), (1, .ref a1)]) hx hb dX3_readGrowth_16 rfl hl (by decide) rfl (fun ls hl => hp_n (n := 17) rfl ?_)
    refine lv_aload_n hx hb dX3_readGrowth_17 rfl (lv_at hl 1 rfl) (hp_n (n := 18) rfl ?_)
    refine va_ldcS hx hb hown (sr_X3_161 C.2) dX3_readGrowth_18 (hp_n (n := 20) rfl ?_)
    obtain ⟨rh4, αh4, qh4, hf⟩ := hq_cE hf
    refine d_ci (pc' := 23) Bh1 (hp_runV (As := [.ref (Γ.2.2.2.2.1 16)]) (rest := []) C Bh1 (n_X3_readMark n Γ l αh1 Bh1.2.2.1 a0 (cw_k Bh1.2.2 k0) 16 (by decide) (rh4, αh4) qh4) lb_X3_readMark lv_X3_readMark lk_X3_163 (cw_k Bh1.2.2 k0) rfl (by decide) rfl hl.1 rfl (Nat.le_of_ble_eq_true rfl) dX3_readGrowth_20 ⟨Nat.le_refl _, Nat.le_refl _⟩) (by decide) rfl (fun Hh4 Lh4 Bh4 => ?_)
    refine lv_if_ne (tgt := 28) hx hb dX3_readGrowth_23 (by decide) (fun c5 => ?_) (fun c5 => hp_n (n := 26) rfl ?_)
    ·
      replace hf := ms_iF c5 hf
      refine lv_aload_n hx hb dX3_readGrowth_28 rfl (lv_at hl 1 rfl) (hp_n (n := 29) rfl ?_)
      refine q_geti (κ := 4) (k := 9) (φ := 209) (pc' := 32) C Bh4 (cw_k Bh4.2.2 k0) fl_X3_56 rfl rfl rfl dX3_readGrowth_29 rfl (fun x6 ex6 => ?_)
      replace hf := ms_lE ex6 hf
      refine lv_istore_n (lv' := [(3, .int x6), (2, .int x3), (0, .ref a0), (1, .ref a1)]) hx hb dX3_readGrowth_32 rfl hl (by decide) rfl (fun ls hl => hp_n (n := 33) rfl ?_)
      refine lv_aload_n hx hb dX3_readGrowth_33 rfl (lv_at hl 2 rfl) (hp_n (n := 34) rfl ?_)
      refine va_ldcS hx hb hown (sr_X3_92 C.2) dX3_readGrowth_34 (hp_n (n := 36) rfl ?_)
      obtain ⟨rh7, αh7, qh7, hf⟩ := hq_cE hf
      refine d_ci (pc' := 39) Bh4 (hp_runV (As := [.ref (Γ.2.2.2.2.1 20)]) (rest := []) C Bh4 (n_X3_readWord n Γ l αh4 Bh4.2.2.1 a0 (cw_k Bh4.2.2 k0) 20 (by decide) (rh7, αh7) qh7) lb_X3_readWord lv_X3_readWord lk_X3_158 (cw_k Bh4.2.2 k0) rfl (by decide) rfl hl.1 rfl (Nat.le_of_ble_eq_true rfl) dX3_readGrowth_36 ⟨Nat.le_refl _, Nat.le_refl _⟩) (by decide) rfl (fun Hh7 Lh7 Bh7 => ?_)
      refine lv_if_eq (tgt := 52) hx hb dX3_readGrowth_39 (by decide) (fun c8 => ?_) (fun c8 => hp_n (n := 42) rfl ?_)
      ·
        replace hf := ms_iT c8 hf
        refine lv_iconst (v := 0) hx hb dX3_readGrowth_52 (by decide) (hp_n (n := 53) rfl ?_)
        cases hf
        exact q_zret C Bh7 hr hlk (by decide) ⟨rfl, rfl, Bh7.2.2⟩ dX3_readGrowth_53
      ·
        replace hf := ms_iF c8 hf
        refine lv_aload_n hx hb dX3_readGrowth_42 rfl (lv_at hl 2 rfl) (hp_n (n := 43) rfl ?_)
        refine lv_iload_n hx hb dX3_readGrowth_43 rfl (lv_at hl 1 rfl) (hp_n (n := 44) rfl ?_)
        refine lv_ldc hx hb hown (hts _ kc_X3_155) dX3_readGrowth_44 (hp_n (n := 46) rfl ?_)
        obtain ⟨rh9, αh9, qh9, hf⟩ := hq_cE hf
        refine d_ci (pc' := 49) Bh7 (hp_runV (As := [.int x3, .int (2147483647 : Int32)]) (rest := []) C Bh7 (n_X3_readNumber n Γ l αh7 Bh7.2.2.1 a0 (cw_k Bh7.2.2 k0) x3 (2147483647 : Int32) (rh9, αh9) qh9) lb_X3_readNumber lv_X3_readNumber lk_X3_75 (cw_k Bh7.2.2 k0) rfl (by decide) rfl hl.1 rfl (Nat.le_of_ble_eq_true rfl) dX3_readGrowth_46 ⟨Nat.le_refl _, Nat.le_refl _⟩) (by decide) rfl (fun Hh9 Lh9 Bh9 => ?_)
        refine lv_if_ne (tgt := 54) hx hb dX3_readGrowth_49 (by decide) (fun c10 => ?_) (fun c10 => hp_n (n := 52) rfl ?_)
        ·
          replace hf := ms_iF c10 hf
          refine lv_aload_n hx hb dX3_readGrowth_54 rfl (lv_at hl 2 rfl) (hp_n (n := 55) rfl ?_)
          refine q_geti (κ := 4) (k := 9) (φ := 209) (pc' := 58) C Bh9 (cw_k Bh9.2.2 k0) fl_X3_56 rfl rfl rfl dX3_readGrowth_55 rfl (fun x11 ex11 => ?_)
          replace hf := ms_lE ex11 hf
          refine lv_istore (lv' := [(4, .int x11), (3, .int x6), (2, .int x3), (0, .ref a0), (1, .ref a1)]) hx hb dX3_readGrowth_58 hl (by decide) rfl (fun ls hl => hp_n (n := 60) rfl ?_)
          refine lv_aload_n hx hb dX3_readGrowth_60 rfl (lv_at hl 3 rfl) (hp_n (n := 61) rfl ?_)
          refine va_ldcS hx hb hown (sr_X3_166 C.2) dX3_readGrowth_61 (hp_n (n := 63) rfl ?_)
          obtain ⟨rh12, αh12, qh12, hf⟩ := hq_cE hf
          refine d_ci (pc' := 66) Bh9 (hp_runV (As := [.ref (Γ.2.2.2.2.1 13)]) (rest := []) C Bh9 (n_X3_readMark n Γ l αh9 Bh9.2.2.1 a0 (cw_k Bh9.2.2 k0) 13 (by decide) (rh12, αh12) qh12) lb_X3_readMark lv_X3_readMark lk_X3_163 (cw_k Bh9.2.2 k0) rfl (by decide) rfl hl.1 rfl (Nat.le_of_ble_eq_true rfl) dX3_readGrowth_63 ⟨Nat.le_refl _, Nat.le_refl _⟩) (by decide) rfl (fun Hh12 Lh12 Bh12 => ?_)
          refine lv_if_eq (tgt := 76) hx hb dX3_readGrowth_66 (by decide) (fun c13 => ?_) (fun c13 => hp_n (n := 69) rfl ?_)
          ·
            replace hf := ms_iT c13 hf
            refine lv_iconst (v := 0) hx hb dX3_readGrowth_76 (by decide) (hp_n (n := 77) rfl ?_)
            cases hf
            exact q_zret C Bh12 hr hlk (by decide) ⟨rfl, rfl, Bh12.2.2⟩ dX3_readGrowth_77
          ·
            replace hf := ms_iF c13 hf
            refine lv_aload_n hx hb dX3_readGrowth_69 rfl (lv_at hl 3 rfl) (hp_n (n := 70) rfl ?_)
            obtain ⟨rh14, αh14, qh14, hf⟩ := hq_cE hf
            refine d_ci (pc' := 73) Bh12 (hp_runV (As := []) (rest := []) C Bh12 (n_X3_readRow n Γ l αh12 Bh12.2.2.1 a0 (cw_k Bh12.2.2 k0) (rh14, αh14) qh14) lb_X3_readRow lv_X3_readRow lk_X3_168 (cw_k Bh12.2.2 k0) rfl (by decide) rfl hl.1 rfl (Nat.le_of_ble_eq_true rfl) dX3_readGrowth_70 ⟨Nat.le_refl _, Nat.le_refl _⟩) (by decide) rfl (fun Hh14 Lh14 Bh14 => ?_)
            refine lv_if_ne (tgt := 78) hx hb dX3_readGrowth_73 (by decide) (fun c15 => ?_) (fun c15 => hp_n (n := 76) rfl ?_)
            ·
              replace hf := ms_iF c15 hf
              refine lv_aload_n hx hb dX3_readGrowth_78 rfl (lv_at hl 4 rfl) (hp_n (n := 79) rfl ?_)
              refine lv_aload_n hx hb dX3_readGrowth_79 rfl (lv_at hl 3 rfl) (hp_n (n := 80) rfl ?_)
              refine q_getr (κ := 4) (k := 2) (φ := 202) (pc' := 83) C Bh14 (cw_k Bh14.2.2 k0) fl_X3_28 rfl rfl rfl (cw_r Bh14.2.2 k0 rfl rfl (by decide) (by decide)) dX3_readGrowth_80 rfl (fun b16 eb16 kb16 => ?_)
              replace hf := ms_lE eb16 hf
              refine lv_aload_n hx hb dX3_readGrowth_83 rfl (lv_at hl 3 rfl) (hp_n (n := 84) rfl ?_)
              refine q_geti (κ := 4) (k := 3) (φ := 203) (pc' := 87) C Bh14 (cw_k Bh14.2.2 k0) fl_X3_33 rfl rfl rfl dX3_readGrowth_84 rfl (fun x17 ex17 => ?_)
              replace hf := ms_lE ex17 hf
              refine lv_aload_n hx hb dX3_readGrowth_87 rfl (lv_at hl 3 rfl) (hp_n (n := 88) rfl ?_)
              refine q_getr (κ := 4) (k := 1) (φ := 201) (pc' := 91) C Bh14 (cw_k Bh14.2.2 k0) fl_X3_21 rfl rfl rfl (cw_r Bh14.2.2 k0 rfl rfl (by decide) (by decide)) dX3_readGrowth_88 rfl (fun b18 eb18 kb18 => ?_)
              replace hf := ms_lE eb18 hf
              refine lv_iload_n hx hb dX3_readGrowth_91 rfl (lv_at hl 2 rfl) (hp_n (n := 92) rfl ?_)
              refine lv_iload_n hx hb dX3_readGrowth_92 rfl (lv_at hl 1 rfl) (hp_n (n := 93) rfl ?_)
              refine lv_iload hx hb dX3_readGrowth_93 (lv_at hl 0 rfl) (hp_n (n := 95) rfl ?_)
              refine lv_aload_n hx hb dX3_readGrowth_95 rfl (lv_at hl 3 rfl) (hp_n (n := 96) rfl ?_)
              refine q_geti (κ := 4) (k := 9) (φ := 209) (pc' := 99) C Bh14 (cw_k Bh14.2.2 k0) fl_X3_56 rfl rfl rfl dX3_readGrowth_96 rfl (fun x19 ex19 => ?_)
              replace hf := ms_lE ex19 hf
              obtain ⟨rh20, αh20, qh20, hf⟩ := hq_cE hf
              refine d_ci (pc' := 102) Bh14 (hp_runV (As := [.int x17, .ref b18, .int x3, .int x6, .int x11, .int x19]) (rest := [.ref a1]) C Bh14 (n_X8_whyGrowth n Γ l αh14 Bh14.2.2.1 b16 (cw_k Bh14.2.2 kb16) x17 b18 (cw_k Bh14.2.2 kb18) x3 x6 x11 x19 (rh20, αh20) qh20) lb_X8_whyGrowth lv_X8_whyGrowth lk_X3_182 (cw_k Bh14.2.2 kb16) rfl (by decide) rfl hl.1 rfl (Nat.le_of_ble_eq_true rfl) dX3_readGrowth_99 ⟨Nat.le_refl _, Nat.le_refl _⟩) (by decide) rfl (fun Hh20 Lh20 Bh20 => ?_)
              obtain ⟨αh21, qh21, hf⟩ := ms_bE hf
              refine d_cv (pc' := 105) Bh20 (hp_runV (As := [.int rh20]) (rest := []) C Bh20 (n_X5_put n Γ l αh20 Bh20.2.2.1 a1 (cw_k Bh20.2.2 k1) rh20 αh21 qh21) lb_X5_put lv_X5_put lk_X3_179 (cw_k Bh20.2.2 k1) rfl (by decide) rfl hl.1 rfl (Nat.le_of_ble_eq_true rfl) dX3_readGrowth_102 ⟨Nat.le_refl _, Nat.le_refl _⟩) (by decide) rfl (fun Hh21 Lh21 Bh21 => ?_)
              refine lv_iconst (v := 1) hx hb dX3_readGrowth_105 (by decide) (hp_n (n := 106) rfl ?_)
              cases hf
              exact q_zret C Bh21 hr hlk (by decide) ⟨rfl, rfl, Bh21.2.2⟩ dX3_readGrowth_106
            ·
              replace hf := ms_iT c15 hf
              refine lv_iconst (v := 0) hx hb dX3_readGrowth_76 (by decide) (hp_n (n := 77) rfl ?_)
              cases hf
              exact q_zret C Bh14 hr hlk (by decide) ⟨rfl, rfl, Bh14.2.2⟩ dX3_readGrowth_77
        ·
          replace hf := ms_iT c10 hf
          refine lv_iconst (v := 0) hx hb dX3_readGrowth_52 (by decide) (hp_n (n := 53) rfl ?_)
          cases hf
          exact q_zret C Bh9 hr hlk (by decide) ⟨rfl, rfl, Bh9.2.2⟩ dX3_readGrowth_53
    ·
      replace hf := ms_iT c5 hf
      refine lv_iconst (v := 0) hx hb dX3_readGrowth_26 (by decide) (hp_n (n := 27) rfl ?_)
      cases hf
      exact q_zret C Bh4 hr hlk (by decide) ⟨rfl, rfl, Bh4.2.2⟩ dX3_readGrowth_27
  ·
    replace hf := ms_iT c2 hf
    refine lv_iconst (v := 0) hx hb dX3_readGrowth_10 (by decide) (hp_n (n := 11) rfl ?_)
    cases hf
    exact q_zret C Bh1 hr hlk (by decide) ⟨rfl, rfl, Bh1.2.2⟩ dX3_readGrowth_11
def f_X3_readProofs_J98 (n : Nat) (a0 : Nat) (rec12 : hp_T → Nat → Int32 → Option (Int32 × hp_T)) (αh13 : hp_T) (v2_h13 : Nat) (v3_h13 : Int32) : Option (Int32 × hp_T) :=
  ms_l (hp_R αh13 200 a0) fun b14 =>
  ms_b (f_X6_advance n αh13 b14) fun αh15 =>
  ms_l (v3_h13 + 1) fun x16 =>
  rec12 αh15 v2_h13 x16
def f_X3_readProofs_J59 (n : Nat) (a0 : Nat) (rec12 : hp_T → Nat → Int32 → Option (Int32 × hp_T)) (αh9 : hp_T) (v2_h9 : Nat) (v3_h9 : Int32) (v4_h9 : Int32) : Option (Int32 × hp_T) :=
  ms_l (hp_I αh9 301 v2_h9) fun x10 =>
  hq_c (f_X3_hasRoom n αh9 a0 x10 (20 : Int32)) fun rh11 αh11 =>
  if rh11 = 0 then
    some ((0 : Int32), αh11)
  else
    if v4_h9 = 0 then
      hq_c (f_X3_readGrowth n αh11 a0 v2_h9) fun rh18 αh18 =>
      if rh18 = 0 then
        some ((0 : Int32), αh18)
      else
        f_X3_readProofs_J98 n a0 rec12 αh18 v2_h9 v3_h9
    else
      hq_c (f_X3_readInclusion n αh11 a0 v2_h9) fun rh20 αh20 =>
      if rh20 = 0 then
        some ((0 : Int32), αh20)
      else
        f_X3_readProofs_J98 n a0 rec12 αh20 v2_h9 v3_h9
def f_X3_readProofs_L12 (n : Nat) (a0 : Nat) : Nat → hp_T → Nat → Int32 → Option (Int32 × hp_T)
  | 0, _, _, _ => none
  | k12 + 1, αh3, v2_h3, v3_h3 =>
    if (900 : Int32) ≤ v3_h3 then
      some ((1 : Int32), αh3)
    else
      ms_b (f_X3_isAtEnd n αh3 a0) fun rh5 =>
      if rh5 = 0 then
        ms_l (hp_R αh3 200 a0) fun b7 =>
        ms_b (f_X6_spells n αh3 b7 14) fun rh8 =>
        if rh8 = 0 then
          ms_l (hp_R αh3 200 a0) fun b23 =>
          ms_b (f_X6_spells n αh3 b23 11) fun rh24 =>
          if rh24 = 0 then
            hq_c (f_X3_stray n αh3 a0) fun rh26 αh26 =>
            ms_z rh26 <|
            some (rh26, αh26)
          else
            f_X3_readProofs_J59 n a0 (f_X3_readProofs_L12 n a0 k12) αh3 v2_h3 v3_h3 rh8
        else
          f_X3_readProofs_J59 n a0 (f_X3_readProofs_L12 n a0 k12) αh3 v2_h3 v3_h3 rh8
      else
        some ((1 : Int32), αh3)
def f_X3_readProofs (n : Nat) (α : hp_T) (a0 : Nat) (a1 : Int32) (a2 : Nat) : Option (Int32 × hp_T) :=
  ms_l (hp_sI α 203 a0 a1) fun αh1 =>
  ms_b (f_X5_shorten n αh1 a2 (0 : Int32)) fun αh2 =>
  f_X3_readProofs_L12 n a0 n αh2 a2 (0 : Int32)
set_option maxRecDepth 100000 in
set_option maxHeartbeats 4000000 in
theorem n_X3_readProofs (n : Nat) (Γ : hp_G) (l : Launch) (α : hp_T) (g : GC α) (a0 : Nat) (k0 : hp_K α a0 = 4) (a1 : Int32) (a2 : Nat) (k2 : hp_K α a2 = 6) (res : (Int32 × hp_T)) (hf : f_X3_readProofs n α a0 a1 a2 = some res) : Met l yX3_readProofs (hp_ws yX3_readProofs cX3_readProofs 5 (some .boolean)) (hp_rm 8 0 0) (hp_Pc Γ α [.ref a0, .int a1, .ref a2]) (hp_Qi Γ (fun r β => r = res.1 ∧ β = res.2 ∧ cw w_X3_readProofs α β)) 0 0 (hp_A Γ) := by
  unfold f_X3_readProofs at hf
  refine hp_start (by decide) ?_
  intro p e s m below meth c C hr hlk B0 hnm
  have C : hp_C Γ p m c cX3_readProofs 5 s ([.ref a0, .int a1, .ref a2] : List Value).toArray RX3 := C
  have hx := C.1.1
  have hb := C.1.2.1
  have hown := C.1.2.2.2.1
  have hts := C.1.2.2.2.2
  have B : hp_B Γ (cw w_X3_readProofs) s α α s.heap [] := ⟨B0.1, B0.2.1, cw_rf g⟩
  have hl := lv_entry ([.ref a0, .int a1, .ref a2]) (n := 5) (Nat.le_of_ble_eq_true rfl)
  show W p l e (hp_rm 8 0 0) s m ([.ref a0, .int a1, .ref a2] : List Value).toArray below meth c s.heap [] 0 0 (MQ below (hp_Qi Γ (fun r β => r = res.1 ∧ β = res.2 ∧ cw w_X3_readProofs α β)) ([.ref a0, .int a1, .ref a2] : List Value).toArray s 0 0 (hp_A Γ)) (entryFrame m ([.ref a0, .int a1, .ref a2] : List Value).toArray 5)
  rw [lg_entry_eq]
  generalize (lg_sl ([.ref a0, .int a1, .ref a2]) ++ List.replicate (5 - (lg_sl ([.ref a0, .int a1, .ref a2])).length) Slot.unset).toArray = ls at hl ⊢
  have hl : lv_has ls 5 [(0, .ref a0), (1, .int a1), (2, .ref a2)] := hl
  refine lv_aload_n hx hb dX3_readProofs_0 rfl (lv_at hl 0 rfl) (hp_n (n := 1) rfl ?_)
  refine lv_iload_n hx hb dX3_readProofs_1 rfl (lv_at hl 1 rfl) (hp_n (n := 2) rfl ?_)
  refine q_puti (κ := 4) (k := 3) (φ := 203) (pc' := 5) C B (cw_k B.2.2 k0) fl_X3_33 rfl rfl rfl rfl rfl rfl (cw_sI B.2.2 (by decide) (fun h => absurd h (by decide))) dX3_readProofs_2 rfl (fun αh1 Hh1 Lh1 eh1 Bh1 => ?_)
  replace hf := ms_lE eh1 hf
  refine lv_aload_n hx hb dX3_readProofs_5 rfl (lv_at hl 2 rfl) (hp_n (n := 6) rfl ?_)
  refine lv_iconst (v := 0) hx hb dX3_readProofs_6 (by decide) (hp_n (n := 7) rfl ?_)
  obtain ⟨αh2, qh2, hf⟩ := ms_bE hf
  refine d_cv (pc' := 10) Bh1 (hp_runV (As := [.int (0 : Int32)]) (rest := []) C Bh1 (n_X5_shorten n Γ l αh1 Bh1.2.2.1 a2 (cw_k Bh1.2.2 k2) (0 : Int32) αh2 qh2) lb_X5_shorten lv_X5_shorten lk_X3_120 (cw_k Bh1.2.2 k2) rfl (by decide) rfl hl.1 rfl (Nat.le_of_ble_eq_true rfl) dX3_readProofs_7 ⟨Nat.le_refl _, Nat.le_refl _⟩) (by decide) rfl (fun Hh2 Lh2 Bh2 => ?_)
  refine lv_iconst (v := 0) hx hb dX3_readProofs_10 (by decide) (hp_n (n := 11) rfl ?_)
  have J12 : ∀ (k12 : Nat) (αh3 : hp_T) (Hh3 : Heap) (Lh3 : List Loc) (Bh3 : hp_B Γ (cw w_X3_readProofs) s α αh3 Hh3 Lh3) (v2_h3 : Nat) (kv2_h3 : hp_K α v2_h3 = 6) (v3_h3 : Int32) (ls : Array Slot) (hl : lv_has ls 5 [(0, .ref a0), (2, .ref v2_h3), (3, .int v3_h3)]) (hf : f_X3_readProofs_L12 n a0 k12 αh3 v2_h3 v3_h3 = some res), W p l e (hp_rm 8 0 0) s m ([.ref a0, .int a1, .ref a2] : List Value).toArray below meth c Hh3 Lh3 0 0 (MQ below (hp_Qi Γ (fun r β => r = res.1 ∧ β = res.2 ∧ cw w_X3_readProofs α β)) ([.ref a0, .int a1, .ref a2] : List Value).toArray s 0 0 (hp_A Γ)) (F0 m 12 ls []) := by
    intro k12
    induction k12 with
    | zero => intro αh3 Hh3 Lh3 Bh3 v2_h3 kv2_h3 v3_h3 ls hl hf; rw [f_X3_readProofs_L12.eq_1] at hf; cases hf
    | succ k12 ih12 =>
      intro αh3 Hh3 Lh3 Bh3 v2_h3 kv2_h3 v3_h3 ls hl hf
      rw [f_X3_readProofs_L12.eq_2] at hf
      refine lv_iload_n hx hb dX3_readProofs_12 rfl (lv_at hl 2 rfl) (hp_n (n := 13) rfl ?_)
      refine lv_sipush (v := 900) hx hb dX3_readProofs_13 (by decide) (hp_n (n := 16) rfl ?_)
      refine lv_icmp_ge (tgt := 111) hx hb dX3_readProofs_16 (by decide) (fun c4 => ?_) (fun c4 => hp_n (n := 19) rfl ?_)
      ·
        replace hf := ms_iT c4 hf
        refine lv_iconst (v := 1) hx hb dX3_readProofs_111 (by decide) (hp_n (n := 112) rfl ?_)
        cases hf
        exact q_zret C Bh3 hr hlk (by decide) ⟨rfl, rfl, Bh3.2.2⟩ dX3_readProofs_112
      ·
        replace hf := ms_iF c4 hf
        refine lv_aload_n hx hb dX3_readProofs_19 rfl (lv_at hl 0 rfl) (hp_n (n := 20) rfl ?_)
        obtain ⟨rh5, qh5, hf⟩ := ms_bE hf
        refine d_pi (pc' := 23) Bh3 (hp_runV (As := []) (rest := []) C Bh3 (n_X3_isAtEnd n Γ l αh3 Bh3.2.2.1 a0 (cw_k Bh3.2.2 k0) rh5 qh5) lb_X3_isAtEnd lv_X3_isAtEnd lk_X3_124 (cw_k Bh3.2.2 k0) rfl (by decide) rfl hl.1 rfl (Nat.le_of_ble_eq_true rfl) dX3_readProofs_20 ⟨Nat.le_refl _, Nat.le_refl _⟩) rfl (fun Hh5 Lh5 Bh5 => ?_)
        refine lv_if_ne (tgt := 111) hx hb dX3_readProofs_23 (by decide) (fun c6 => ?_) (fun c6 => hp_n (n := 26) rfl ?_)
        ·
          replace hf := ms_iF c6 hf
          refine lv_iconst (v := 1) hx hb dX3_readProofs_111 (by decide) (hp_n (n := 112) rfl ?_)
          cases hf
          exact q_zret C Bh5 hr hlk (by decide) ⟨rfl, rfl, Bh5.2.2⟩ dX3_readProofs_112
        ·
          replace hf := ms_iT c6 hf
          refine lv_aload_n hx hb dX3_readProofs_26 rfl (lv_at hl 0 rfl) (hp_n (n := 27) rfl ?_)
          refine q_getr (κ := 4) (k := 0) (φ := 200) (pc' := 30) C Bh5 (cw_k Bh5.2.2 k0) fl_X3_12 rfl rfl rfl (cw_r Bh5.2.2 k0 rfl rfl (by decide) (by decide)) dX3_readProofs_27 rfl (fun b7 eb7 kb7 => ?_)
          replace hf := ms_lE eb7 hf
          refine va_ldcS hx hb hown (sr_X3_127 C.2) dX3_readProofs_30 (hp_n (n := 32) rfl ?_)
          obtain ⟨rh8, qh8, hf⟩ := ms_bE hf
          refine d_pi (pc' := 35) Bh5 (hp_runV (As := [.ref (Γ.2.2.2.2.1 14)]) (rest := []) C Bh5 (n_X6_spells n Γ l αh3 Bh5.2.2.1 b7 (cw_k Bh5.2.2 kb7) 14 (by decide) rh8 qh8) lb_X6_spells lv_X6_spells lk_X3_71 (cw_k Bh5.2.2 kb7) rfl (by decide) rfl hl.1 rfl (Nat.le_of_ble_eq_true rfl) dX3_readProofs_32 ⟨Nat.le_refl _, Nat.le_refl _⟩) rfl (fun Hh8 Lh8 Bh8 => ?_)
          refine lv_istore (lv' := [(4, .int rh8), (0, .ref a0), (2, .ref v2_h3), (3, .int v3_h3)]) hx hb dX3_readProofs_35 hl (by decide) rfl (fun ls hl => hp_n (n := 37) rfl ?_)
          refine lv_iload hx hb dX3_readProofs_37 (lv_at hl 0 rfl) (hp_n (n := 39) rfl ?_)
          have J59 : ∀ (αh9 : hp_T) (Hh9 : Heap) (Lh9 : List Loc) (Bh9 : hp_B Γ (cw w_X3_readProofs) s α αh9 Hh9 Lh9) (v2_h9 : Nat) (kv2_h9 : hp_K α v2_h9 = 6) (v3_h9 : Int32) (v4_h9 : Int32) (ls : Array Slot) (hl : lv_has ls 5 [(0, .ref a0), (2, .ref v2_h9), (3, .int v3_h9), (4, .int v4_h9)]) (hf : f_X3_readProofs_J59 n a0 (f_X3_readProofs_L12 n a0 k12) αh9 v2_h9 v3_h9 v4_h9 = some res), W p l e (hp_rm 8 0 0) s m ([.ref a0, .int a1, .ref a2] : List Value).toArray below meth c Hh9 Lh9 0 0 (MQ below (hp_Qi Γ (fun r β => r = res.1 ∧ β = res.2 ∧ cw w_X3_readProofs α β)) ([.ref a0, .int a1, .ref a2] : List Value).toArray s 0 0 (hp_A Γ)) (F0 m 59 ls []) := by
            intro αh9 Hh9 Lh9 Bh9 v2_h9 kv2_h9 v3_h9 v4_h9 ls hl hf
            unfold f_X3_readProofs_J59 at hf
            refine lv_aload_n hx hb dX3_readProofs_59 rfl (lv_at hl 0 rfl) (hp_n (n := 60) rfl ?_)
            refine lv_aload_n hx hb dX3_readProofs_60 rfl (lv_at hl 1 rfl) (hp_n (n := 61) rfl ?_)
            refine q_geti (κ := 6) (k := 1) (φ := 301) (pc' := 64) C Bh9 (cw_k Bh9.2.2 kv2_h9) fl_X3_131 rfl rfl rfl dX3_readProofs_61 rfl (fun x10 ex10 => ?_)
            replace hf := ms_lE ex10 hf
            refine lv_bipush (v := 20) hx hb dX3_readProofs_64 (by decide) (hp_n (n := 66) rfl ?_)
            obtain ⟨rh11, αh11, qh11, hf⟩ := hq_cE hf
            refine d_ci (pc' := 69) Bh9 (hp_runV (As := [.int x10, .int (20 : Int32)]) (rest := []) C Bh9 (n_X3_hasRoom n Γ l αh9 Bh9.2.2.1 a0 (cw_k Bh9.2.2 k0) x10 (20 : Int32) (rh11, αh11) qh11) lb_X3_hasRoom lv_X3_hasRoom lk_X3_99 (cw_k Bh9.2.2 k0) rfl (by decide) rfl hl.1 rfl (Nat.le_of_ble_eq_true rfl) dX3_readProofs_66 ⟨Nat.le_refl _, Nat.le_refl _⟩) (by decide) rfl (fun Hh11 Lh11 Bh11 => ?_)
            refine lv_if_eq (tgt := 96) hx hb dX3_readProofs_69 (by decide) (fun c12 => ?_) (fun c12 => hp_n (n := 72) rfl ?_)
            ·
              replace hf := ms_iT c12 hf
              refine lv_iconst (v := 0) hx hb dX3_readProofs_96 (by decide) (hp_n (n := 97) rfl ?_)
              cases hf
              exact q_zret C Bh11 hr hlk (by decide) ⟨rfl, rfl, Bh11.2.2⟩ dX3_readProofs_97
            ·
              replace hf := ms_iF c12 hf
              refine lv_iload hx hb dX3_readProofs_72 (lv_at hl 3 rfl) (hp_n (n := 74) rfl ?_)
              have J98 : ∀ (αh13 : hp_T) (Hh13 : Heap) (Lh13 : List Loc) (Bh13 : hp_B Γ (cw w_X3_readProofs) s α αh13 Hh13 Lh13) (v2_h13 : Nat) (kv2_h13 : hp_K α v2_h13 = 6) (v3_h13 : Int32) (ls : Array Slot) (hl : lv_has ls 5 [(0, .ref a0), (2, .ref v2_h13), (3, .int v3_h13)]) (hf : f_X3_readProofs_J98 n a0 (f_X3_readProofs_L12 n a0 k12) αh13 v2_h13 v3_h13 = some res), W p l e (hp_rm 8 0 0) s m ([.ref a0, .int a1, .ref a2] : List Value).toArray below meth c Hh13 Lh13 0 0 (MQ below (hp_Qi Γ (fun r β => r = res.1 ∧ β = res.2 ∧ cw w_X3_readProofs α β)) ([.ref a0, .int a1, .ref a2] : List Value).toArray s 0 0 (hp_A Γ)) (F0 m 98 ls []) := by
                intro αh13 Hh13 Lh13 Bh13 v2_h13 kv2_h13 v3_h13 ls hl hf
                unfold f_X3_readProofs_J98 at hf
                refine lv_aload_n hx hb dX3_readProofs_98 rfl (lv_at hl 0 rfl) (hp_n (n := 99) rfl ?_)
                refine q_getr (κ := 4) (k := 0) (φ := 200) (pc' := 102) C Bh13 (cw_k Bh13.2.2 k0) fl_X3_12 rfl rfl rfl (cw_r Bh13.2.2 k0 rfl rfl (by decide) (by decide)) dX3_readProofs_99 rfl (fun b14 eb14 kb14 => ?_)
                replace hf := ms_lE eb14 hf
                obtain ⟨αh15, qh15, hf⟩ := ms_bE hf
                refine d_cv (pc' := 105) Bh13 (hp_runV (As := []) (rest := []) C Bh13 (n_X6_advance n Γ l αh13 Bh13.2.2.1 b14 (cw_k Bh13.2.2 kb14) αh15 qh15) lb_X6_advance lv_X6_advance lk_X3_63 (cw_k Bh13.2.2 kb14) rfl (by decide) rfl hl.1 rfl (Nat.le_of_ble_eq_true rfl) dX3_readProofs_102 ⟨Nat.le_refl _, Nat.le_refl _⟩) (by decide) rfl (fun Hh15 Lh15 Bh15 => ?_)
                obtain ⟨x16, ex16⟩ : ∃ y : Int32, y = v3_h13 + 1 := ⟨_, rfl⟩
                replace hf := ms_lE ex16 hf
                refine lv_iinc (v := x16) (lv' := [(3, .int x16), (0, .ref a0), (2, .ref v2_h13)]) hx hb dX3_readProofs_105 hl (k := 2) rfl (by rw [ex16]; rfl) (by decide) rfl (fun ls hl => hp_n (n := 108) rfl ?_)
                refine lv_goto (tgt := 12) hx hb dX3_readProofs_108 (by decide) ?_
                exact ih12 αh15 Hh15 Lh15 Bh15 v2_h13 kv2_h13 x16 ls (lv_sub hl [1, 2, 0] rfl) hf
              refine lv_if_eq (tgt := 88) hx hb dX3_readProofs_74 (by decide) (fun c17 => ?_) (fun c17 => hp_n (n := 77) rfl ?_)
              ·
                replace hf := ms_iT c17 hf
                refine lv_aload_n hx hb dX3_readProofs_88 rfl (lv_at hl 0 rfl) (hp_n (n := 89) rfl ?_)
                refine lv_aload_n hx hb dX3_readProofs_89 rfl (lv_at hl 1 rfl) (hp_n (n := 90) rfl ?_)
                obtain ⟨rh18, αh18, qh18, hf⟩ := hq_cE hf
                refine d_ci (pc' := 93) Bh11 (hp_runV (As := [.ref v2_h9]) (rest := []) C Bh11 (n_X3_readGrowth n Γ l αh11 Bh11.2.2.1 a0 (cw_k Bh11.2.2 k0) v2_h9 (cw_k Bh11.2.2 kv2_h9) (rh18, αh18) qh18) lb_X3_readGrowth lv_X3_readGrowth lk_X3_138 (cw_k Bh11.2.2 k0) rfl (by decide) rfl hl.1 rfl (Nat.le_of_ble_eq_true rfl) dX3_readProofs_90 ⟨Nat.le_refl _, Nat.le_refl _⟩) (by decide) rfl (fun Hh18 Lh18 Bh18 => ?_)
                refine lv_if_ne (tgt := 98) hx hb dX3_readProofs_93 (by decide) (fun c19 => ?_) (fun c19 => hp_n (n := 96) rfl ?_)
                ·
                  replace hf := ms_iF c19 hf
                  exact J98 αh18 Hh18 Lh18 Bh18 v2_h9 kv2_h9 v3_h9 ls (lv_sub hl [0, 1, 2] rfl) hf
                ·
                  replace hf := ms_iT c19 hf
                  refine lv_iconst (v := 0) hx hb dX3_readProofs_96 (by decide) (hp_n (n := 97) rfl ?_)
                  cases hf
                  exact q_zret C Bh18 hr hlk (by decide) ⟨rfl, rfl, Bh18.2.2⟩ dX3_readProofs_97
              ·
                replace hf := ms_iF c17 hf
                refine lv_aload_n hx hb dX3_readProofs_77 rfl (lv_at hl 0 rfl) (hp_n (n := 78) rfl ?_)
                refine lv_aload_n hx hb dX3_readProofs_78 rfl (lv_at hl 1 rfl) (hp_n (n := 79) rfl ?_)
                obtain ⟨rh20, αh20, qh20, hf⟩ := hq_cE hf
                refine d_ci (pc' := 82) Bh11 (hp_runV (As := [.ref v2_h9]) (rest := []) C Bh11 (n_X3_readInclusion n Γ l αh11 Bh11.2.2.1 a0 (cw_k Bh11.2.2 k0) v2_h9 (cw_k Bh11.2.2 kv2_h9) (rh20, αh20) qh20) lb_X3_readInclusion lv_X3_readInclusion lk_X3_134 (cw_k Bh11.2.2 k0) rfl (by decide) rfl hl.1 rfl (Nat.le_of_ble_eq_true rfl) dX3_readProofs_79 ⟨Nat.le_refl _, Nat.le_refl _⟩) (by decide) rfl (fun Hh20 Lh20 Bh20 => ?_)
                refine lv_if_eq (tgt := 96) hx hb dX3_readProofs_82 (by decide) (fun c21 => ?_) (fun c21 => hp_n (n := 85) rfl ?_)
                ·
                  replace hf := ms_iT c21 hf
                  refine lv_iconst (v := 0) hx hb dX3_readProofs_96 (by decide) (hp_n (n := 97) rfl ?_)
                  cases hf
                  exact q_zret C Bh20 hr hlk (by decide) ⟨rfl, rfl, Bh20.2.2⟩ dX3_readProofs_97
                ·
                  replace hf := ms_iF c21 hf
                  refine lv_goto (tgt := 98) hx hb dX3_readProofs_85 (by decide) ?_
                  exact J98 αh20 Hh20 Lh20 Bh20 v2_h9 kv2_h9 v3_h9 ls (lv_sub hl [0, 1, 2] rfl) hf
          refine lv_if_ne (tgt := 59) hx hb dX3_readProofs_39 (by decide) (fun c22 => ?_) (fun c22 => hp_n (n := 42) rfl ?_)
          ·
            replace hf := ms_iF c22 hf
            exact J59 αh3 Hh8 Lh8 Bh8 v2_h3 kv2_h3 v3_h3 rh8 ls (lv_sub hl [1, 2, 3, 0] rfl) hf
          ·
            replace hf := ms_iT c22 hf
            refine lv_aload_n hx hb dX3_readProofs_42 rfl (lv_at hl 1 rfl) (hp_n (n := 43) rfl ?_)
            refine q_getr (κ := 4) (k := 0) (φ := 200) (pc' := 46) C Bh8 (cw_k Bh8.2.2 k0) fl_X3_12 rfl rfl rfl (cw_r Bh8.2.2 k0 rfl rfl (by decide) (by decide)) dX3_readProofs_43 rfl (fun b23 eb23 kb23 => ?_)
            replace hf := ms_lE eb23 hf
            refine va_ldcS hx hb hown (sr_X3_129 C.2) dX3_readProofs_46 (hp_n (n := 48) rfl ?_)
            obtain ⟨rh24, qh24, hf⟩ := ms_bE hf
            refine d_pi (pc' := 51) Bh8 (hp_runV (As := [.ref (Γ.2.2.2.2.1 11)]) (rest := []) C Bh8 (n_X6_spells n Γ l αh3 Bh8.2.2.1 b23 (cw_k Bh8.2.2 kb23) 11 (by decide) rh24 qh24) lb_X6_spells lv_X6_spells lk_X3_71 (cw_k Bh8.2.2 kb23) rfl (by decide) rfl hl.1 rfl (Nat.le_of_ble_eq_true rfl) dX3_readProofs_48 ⟨Nat.le_refl _, Nat.le_refl _⟩) rfl (fun Hh24 Lh24 Bh24 => ?_)
            refine lv_if_ne (tgt := 59) hx hb dX3_readProofs_51 (by decide) (fun c25 => ?_) (fun c25 => hp_n (n := 54) rfl ?_)
            ·
              replace hf := ms_iF c25 hf
              exact J59 αh3 Hh24 Lh24 Bh24 v2_h3 kv2_h3 v3_h3 rh8 ls (lv_sub hl [1, 2, 3, 0] rfl) hf
            ·
              replace hf := ms_iT c25 hf
              refine lv_aload_n hx hb dX3_readProofs_54 rfl (lv_at hl 1 rfl) (hp_n (n := 55) rfl ?_)
              obtain ⟨rh26, αh26, qh26, hf⟩ := hq_cE hf
              refine d_ci (pc' := 58) Bh24 (hp_runV (As := []) (rest := []) C Bh24 (n_X3_stray n Γ l αh3 Bh24.2.2.1 a0 (cw_k Bh24.2.2 k0) (rh26, αh26) qh26) lb_X3_stray lv_X3_stray lk_X3_117 (cw_k Bh24.2.2 k0) rfl (by decide) rfl hl.1 rfl (Nat.le_of_ble_eq_true rfl) dX3_readProofs_55 ⟨Nat.le_refl _, Nat.le_refl _⟩) (by decide) rfl (fun Hh26 Lh26 Bh26 => ?_)
              obtain ⟨g27, hf⟩ := ms_zE hf
              cases hf
              exact q_zret C Bh26 hr hlk (nz_z g27) ⟨rfl, rfl, Bh26.2.2⟩ dX3_readProofs_58
  refine lv_istore_n (lv' := [(3, .int (0 : Int32)), (0, .ref a0), (1, .int a1), (2, .ref a2)]) hx hb dX3_readProofs_11 rfl hl (by decide) rfl (fun ls hl => hp_n (n := 12) rfl ?_)
  exact J12 n αh2 Hh2 Lh2 Bh2 a2 k2 (0 : Int32) ls (lv_sub hl [1, 3, 0] rfl) hf
def f_X5_countOf_J24 (n : Nat) (α : hp_T) (a0 : Nat) (rec4 : Int32 → Int32 → Int32 → Option Int32) (v1_h5 : Int32) (v2_h5 : Int32) (v3_h5 : Int32) : Option Int32 :=
  ms_l (v3_h5 + 1) fun x6 =>
  rec4 v1_h5 v2_h5 x6
def f_X5_countOf_L4 (n : Nat) (α : hp_T) (a0 : Nat) : Nat → Int32 → Int32 → Int32 → Option Int32
  | 0, _, _, _ => none
  | k4 + 1, v1_h1, v2_h1, v3_h1 =>
    ms_l (hp_I α 301 a0) fun x2 =>
    if x2 ≤ v3_h1 then
      some v2_h1
    else
      ms_b (f_X5_at n α a0 v3_h1) fun rh4 =>
      if rh4 = v1_h1 then
        ms_l (v2_h1 + 1) fun x8 =>
        f_X5_countOf_J24 n α a0 (f_X5_countOf_L4 n α a0 k4) v1_h1 x8 v3_h1
      else
        f_X5_countOf_J24 n α a0 (f_X5_countOf_L4 n α a0 k4) v1_h1 v2_h1 v3_h1
def f_X5_countOf (n : Nat) (α : hp_T) (a0 : Nat) (a1 : Int32) : Option Int32 :=
  f_X5_countOf_L4 n α a0 n a1 (0 : Int32) (0 : Int32)
set_option maxRecDepth 100000 in
set_option maxHeartbeats 4000000 in
theorem n_X5_countOf (n : Nat) (Γ : hp_G) (l : Launch) (α : hp_T) (g : GC α) (a0 : Nat) (k0 : hp_K α a0 = 6) (a1 : Int32) (res : Int32) (hf : f_X5_countOf n α a0 a1 = some res) : Met l yX5_countOf (hp_ws yX5_countOf cX5_countOf 4 (some .int)) (hp_rm 1 0 0) (hp_Pc Γ α [.ref a0, .int a1]) (hp_Qi Γ (fun r β => β = α ∧ r = res)) 0 0 (hp_A Γ) := by
  unfold f_X5_countOf at hf
  refine hp_start (by decide) ?_
  intro p e s m below meth c C hr hlk B0 hnm
  have C : hp_C Γ p m c cX5_countOf 4 s ([.ref a0, .int a1] : List Value).toArray RX5 := C
  have hx := C.1.1
  have hb := C.1.2.1
  have hown := C.1.2.2.2.1
  have hts := C.1.2.2.2.2
  have B : hp_B Γ (cw w_X5_countOf) s α α s.heap [] := ⟨B0.1, B0.2.1, cw_rf g⟩
  have hl := lv_entry ([.ref a0, .int a1]) (n := 4) (Nat.le_of_ble_eq_true rfl)
  show W p l e (hp_rm 1 0 0) s m ([.ref a0, .int a1] : List Value).toArray below meth c s.heap [] 0 0 (MQ below (hp_Qi Γ (fun r β => β = α ∧ r = res)) ([.ref a0, .int a1] : List Value).toArray s 0 0 (hp_A Γ)) (entryFrame m ([.ref a0, .int a1] : List Value).toArray 4)
  rw [lg_entry_eq]
  generalize (lg_sl ([.ref a0, .int a1]) ++ List.replicate (4 - (lg_sl ([.ref a0, .int a1])).length) Slot.unset).toArray = ls at hl ⊢
  have hl : lv_has ls 4 [(0, .ref a0), (1, .int a1)] := hl
  refine lv_iconst (v := 0) hx hb dX5_countOf_0 (by decide) (hp_n (n := 1) rfl ?_)
  refine lv_istore_n (lv' := [(2, .int (0 : Int32)), (0, .ref a0), (1, .int a1)]) hx hb dX5_countOf_1 rfl hl (by decide) rfl (fun ls hl => hp_n (n := 2) rfl ?_)
  refine lv_iconst (v := 0) hx hb dX5_countOf_2 (by decide) (hp_n (n := 3) rfl ?_)
  have J4 : ∀ (k4 : Nat) (Hh1 : Heap) (Lh1 : List Loc) (Bh1 : hp_B Γ (cw w_X5_countOf) s α α Hh1 Lh1) (v1_h1 : Int32) (v2_h1 : Int32) (v3_h1 : Int32) (ls : Array Slot) (hl : lv_has ls 4 [(0, .ref a0), (1, .int v1_h1), (2, .int v2_h1), (3, .int v3_h1)]) (hf : f_X5_countOf_L4 n α a0 k4 v1_h1 v2_h1 v3_h1 = some res), W p l e (hp_rm 1 0 0) s m ([.ref a0, .int a1] : List Value).toArray below meth c Hh1 Lh1 0 0 (MQ below (hp_Qi Γ (fun r β => β = α ∧ r = res)) ([.ref a0, .int a1] : List Value).toArray s 0 0 (hp_A Γ)) (F0 m 4 ls []) := by
    intro k4
    induction k4 with
    | zero => intro Hh1 Lh1 Bh1 v1_h1 v2_h1 v3_h1 ls hl hf; rw [f_X5_countOf_L4.eq_1] at hf; cases hf
    | succ k4 ih4 =>
      intro Hh1 Lh1 Bh1 v1_h1 v2_h1 v3_h1 ls hl hf
      rw [f_X5_countOf_L4.eq_2] at hf
      refine lv_iload_n hx hb dX5_countOf_4 rfl (lv_at hl 3 rfl) (hp_n (n := 5) rfl ?_)
      refine lv_aload_n hx hb dX5_countOf_5 rfl (lv_at hl 0 rfl) (hp_n (n := 6) rfl ?_)
      refine q_geti (κ := 6) (k := 1) (φ := 301) (pc' := 9) C Bh1 (cw_k Bh1.2.2 k0) fl_X5_15 rfl rfl rfl dX5_countOf_6 rfl (fun x2 ex2 => ?_)
      replace hf := ms_lE ex2 hf
      refine lv_icmp_ge (tgt := 30) hx hb dX5_countOf_9 (by decide) (fun c3 => ?_) (fun c3 => hp_n (n := 12) rfl ?_)
      ·
        replace hf := ms_iT c3 hf
        refine lv_iload_n hx hb dX5_countOf_30 rfl (lv_at hl 2 rfl) (hp_n (n := 31) rfl ?_)
        cases hf
        exact q_iret C Bh1 hr hlk ⟨rfl, rfl⟩ dX5_countOf_31
      ·
        replace hf := ms_iF c3 hf
        refine lv_aload_n hx hb dX5_countOf_12 rfl (lv_at hl 0 rfl) (hp_n (n := 13) rfl ?_)
        refine lv_iload_n hx hb dX5_countOf_13 rfl (lv_at hl 3 rfl) (hp_n (n := 14) rfl ?_)
        obtain ⟨rh4, qh4, hf⟩ := ms_bE hf
        refine d_pi (pc' := 17) Bh1 (hp_runV (As := [.int v3_h1]) (rest := []) C Bh1 (n_X5_at n Γ l α Bh1.2.2.1 a0 (cw_k Bh1.2.2 k0) v3_h1 rh4 qh4) lb_X5_at lv_X5_at lk_X5_19 (cw_k Bh1.2.2 k0) rfl (by decide) rfl hl.1 rfl (Nat.le_of_ble_eq_true rfl) dX5_countOf_14 ⟨Nat.le_refl _, Nat.le_refl _⟩) rfl (fun Hh4 Lh4 Bh4 => ?_)
        refine lv_iload_n hx hb dX5_countOf_17 rfl (lv_at hl 1 rfl) (hp_n (n := 18) rfl ?_)
        have J24 : ∀ (Hh5 : Heap) (Lh5 : List Loc) (Bh5 : hp_B Γ (cw w_X5_countOf) s α α Hh5 Lh5) (v1_h5 : Int32) (v2_h5 : Int32) (v3_h5 : Int32) (ls : Array Slot) (hl : lv_has ls 4 [(0, .ref a0), (1, .int v1_h5), (2, .int v2_h5), (3, .int v3_h5)]) (hf : f_X5_countOf_J24 n α a0 (f_X5_countOf_L4 n α a0 k4) v1_h5 v2_h5 v3_h5 = some res), W p l e (hp_rm 1 0 0) s m ([.ref a0, .int a1] : List Value).toArray below meth c Hh5 Lh5 0 0 (MQ below (hp_Qi Γ (fun r β => β = α ∧ r = res)) ([.ref a0, .int a1] : List Value).toArray s 0 0 (hp_A Γ)) (F0 m 24 ls []) := by
          intro Hh5 Lh5 Bh5 v1_h5 v2_h5 v3_h5 ls hl hf
          unfold f_X5_countOf_J24 at hf
          obtain ⟨x6, ex6⟩ : ∃ y : Int32, y = v3_h5 + 1 := ⟨_, rfl⟩
          replace hf := ms_lE ex6 hf
          refine lv_iinc (v := x6) (lv' := [(3, .int x6), (0, .ref a0), (1, .int v1_h5), (2, .int v2_h5)]) hx hb dX5_countOf_24 hl (k := 3) rfl (by rw [ex6]; rfl) (by decide) rfl (fun ls hl => hp_n (n := 27) rfl ?_)
          refine lv_goto (tgt := 4) hx hb dX5_countOf_27 (by decide) ?_
          exact ih4 Hh5 Lh5 Bh5 v1_h5 v2_h5 x6 ls (lv_sub hl [1, 2, 3, 0] rfl) hf
        refine lv_icmp_ne (tgt := 24) hx hb dX5_countOf_18 (by decide) (fun c7 => ?_) (fun c7 => hp_n (n := 21) rfl ?_)
        ·
          replace hf := ms_iF c7 hf
          exact J24 Hh4 Lh4 Bh4 v1_h1 v2_h1 v3_h1 ls (lv_sub hl [0, 1, 2, 3] rfl) hf
        ·
          replace hf := ms_iT c7 hf
          obtain ⟨x8, ex8⟩ : ∃ y : Int32, y = v2_h1 + 1 := ⟨_, rfl⟩
          replace hf := ms_lE ex8 hf
          refine lv_iinc (v := x8) (lv' := [(2, .int x8), (0, .ref a0), (1, .int v1_h1), (3, .int v3_h1)]) hx hb dX5_countOf_21 hl (k := 2) rfl (by rw [ex8]; rfl) (by decide) rfl (fun ls hl => hp_n (n := 24) rfl ?_)
          exact J24 Hh4 Lh4 Bh4 v1_h1 x8 v3_h1 ls (lv_sub hl [1, 2, 0, 3] rfl) hf
  refine lv_istore_n (lv' := [(3, .int (0 : Int32)), (2, .int (0 : Int32)), (0, .ref a0), (1, .int a1)]) hx hb dX5_countOf_3 rfl hl (by decide) rfl (fun ls hl => hp_n (n := 4) rfl ?_)
  exact J4 n s.heap [] B a1 (0 : Int32) (0 : Int32) ls (lv_sub hl [2, 3, 1, 0] rfl) hf
def f_X11_hear_J12 (n : Nat) (a0 : Nat) (αh1 : hp_T) : Option (Int32 × hp_T) :=
  hq_c (f_X11_refuse n αh1 a0 (1 : Int32)) fun rh2 αh2 =>
  some (rh2, αh2)
def f_X11_hear (n : Nat) (α : hp_T) (a0 : Nat) (a1 : Int32) : Option (Int32 × hp_T) :=
  if a1 < 0 then
    f_X11_hear_J12 n a0 α
  else
    ms_l (hp_I α 605 a0) fun x4 =>
    if a1 ≤ x4 then
      ms_l (hp_R α 616 a0) fun b6 =>
      ms_l (hp_R α 604 a0) fun b7 =>
      ms_b (f_X3_begin n α b6 b7 a1) fun αh8 =>
      ms_l (hp_R αh8 616 a0) fun b9 =>
      ms_l (hp_R αh8 601 a0) fun b10 =>
      ms_l (hp_I αh8 550 b10) fun x11 =>
      ms_l (hp_R αh8 609 a0) fun b12 =>
      hq_c (f_X3_readProofs n αh8 b9 x11 b12) fun rh13 αh13 =>
      ms_l (hp_sI αh13 605 a0 (0 : Int32)) fun αh14 =>
      if rh13 = 0 then
        hq_c (f_X11_refuse n αh14 a0 (9 : Int32)) fun rh23 αh23 =>
        some (rh23, αh23)
      else
        ms_l (hp_R αh14 608 a0) fun b16 =>
        ms_l (hp_R αh14 609 a0) fun b17 =>
        ms_l (hp_sR αh14 608 a0 b17) fun αh18 =>
        ms_l (hp_sR αh18 609 a0 b16) fun αh19 =>
        ms_l (hp_R αh19 608 a0) fun b20 =>
        ms_b (f_X5_countOf n αh19 b20 (0 : Int32)) fun rh21 =>
        hq_c (f_X11_answer n αh19 a0 rh21) fun rh22 αh22 =>
        some (rh22, αh22)
    else
      f_X11_hear_J12 n a0 α
set_option maxRecDepth 100000 in
set_option maxHeartbeats 4000000 in
theorem n_X11_hear (n : Nat) (Γ : hp_G) (l : Launch) (α : hp_T) (g : GC α) (a0 : Nat) (k0 : hp_K α a0 = 12) (a1 : Int32) (res : (Int32 × hp_T)) (hf : f_X11_hear n α a0 a1 = some res) : Met l yX11_hear (hp_ws yX11_hear cX11_hear 4 (some .int)) (hp_rm 9 0 0) (hp_Pc Γ α [.ref a0, .int a1]) (hp_Qi Γ (fun r β => r = res.1 ∧ β = res.2 ∧ cw w_X11_hear α β)) 0 0 (hp_A Γ) := by
  unfold f_X11_hear at hf
  refine hp_start (by decide) ?_
  intro p e s m below meth c C hr hlk B0 hnm
  have C : hp_C Γ p m c cX11_hear 4 s ([.ref a0, .int a1] : List Value).toArray RX11 := C
  have hx := C.1.1
  have hb := C.1.2.1
  have hown := C.1.2.2.2.1
  have hts := C.1.2.2.2.2
  have B : hp_B Γ (cw w_X11_hear) s α α s.heap [] := ⟨B0.1, B0.2.1, cw_rf g⟩
  have hl := lv_entry ([.ref a0, .int a1]) (n := 4) (Nat.le_of_ble_eq_true rfl)
  show W p l e (hp_rm 9 0 0) s m ([.ref a0, .int a1] : List Value).toArray below meth c s.heap [] 0 0 (MQ below (hp_Qi Γ (fun r β => r = res.1 ∧ β = res.2 ∧ cw w_X11_hear α β)) ([.ref a0, .int a1] : List Value).toArray s 0 0 (hp_A Γ)) (entryFrame m ([.ref a0, .int a1] : List Value).toArray 4)
  rw [lg_entry_eq]
  generalize (lg_sl ([.ref a0, .int a1]) ++ List.replicate (4 - (lg_sl ([.ref a0, .int a1])).length) Slot.unset).toArray = ls at hl ⊢
  have hl : lv_has ls 4 [(0, .ref a0), (1, .int a1)] := hl
  refine lv_iload_n hx hb dX11_hear_0 rfl (lv_at hl 1 rfl) (hp_n (n := 1) rfl ?_)
  have J12 : ∀ (αh1 : hp_T) (Hh1 : Heap) (Lh1 : List Loc) (Bh1 : hp_B Γ (cw w_X11_hear) s α αh1 Hh1 Lh1) (ls : Array Slot) (hl : lv_has ls 4 [(0, .ref a0)]) (hf : f_X11_hear_J12 n a0 αh1 = some res), W p l e (hp_rm 9 0 0) s m ([.ref a0, .int a1] : List Value).toArray below meth c Hh1 Lh1 0 0 (MQ below (hp_Qi Γ (fun r β => r = res.1 ∧ β = res.2 ∧ cw w_X11_hear α β)) ([.ref a0, .int a1] : List Value).toArray s 0 0 (hp_A Γ)) (F0 m 12 ls []) := by
    intro αh1 Hh1 Lh1 Bh1 ls hl hf
    unfold f_X11_hear_J12 at hf
    refine lv_aload_n hx hb dX11_hear_12 rfl (lv_at hl 0 rfl) (hp_n (n := 13) rfl ?_)
    refine lv_iconst (v := 1) hx hb dX11_hear_13 (by decide) (hp_n (n := 14) rfl ?_)
    obtain ⟨rh2, αh2, qh2, hf⟩ := hq_cE hf
    refine d_ci (pc' := 17) Bh1 (hp_runV (As := [.int (1 : Int32)]) (rest := []) C Bh1 (n_X11_refuse n Γ l αh1 Bh1.2.2.1 a0 (cw_k Bh1.2.2 k0) (1 : Int32) (rh2, αh2) qh2) lb_X11_refuse lv_X11_refuse lk_X11_98 (cw_k Bh1.2.2 k0) rfl (by decide) rfl hl.1 rfl (Nat.le_of_ble_eq_true rfl) dX11_hear_14 ⟨Nat.le_refl _, Nat.le_refl _⟩) (by decide) rfl (fun Hh2 Lh2 Bh2 => ?_)
    cases hf
    exact q_iret C Bh2 hr hlk ⟨rfl, rfl, Bh2.2.2⟩ dX11_hear_17
  refine lv_if_lt (tgt := 12) hx hb dX11_hear_1 (by decide) (fun c3 => ?_) (fun c3 => hp_n (n := 4) rfl ?_)
  ·
    replace hf := ms_iT c3 hf
    exact J12 α s.heap [] B ls (lv_sub hl [0] rfl) hf
  ·
    replace hf := ms_iF c3 hf
    refine lv_iload_n hx hb dX11_hear_4 rfl (lv_at hl 1 rfl) (hp_n (n := 5) rfl ?_)
    refine lv_aload_n hx hb dX11_hear_5 rfl (lv_at hl 0 rfl) (hp_n (n := 6) rfl ?_)
    refine q_geti (κ := 12) (k := 5) (φ := 605) (pc' := 9) C B (cw_k B.2.2 k0) fl_X11_34 rfl rfl rfl dX11_hear_6 rfl (fun x4 ex4 => ?_)
    replace hf := ms_lE ex4 hf
    refine lv_icmp_le (tgt := 18) hx hb dX11_hear_9 (by decide) (fun c5 => ?_) (fun c5 => hp_n (n := 12) rfl ?_)
    ·
      replace hf := ms_iT c5 hf
      refine lv_aload_n hx hb dX11_hear_18 rfl (lv_at hl 0 rfl) (hp_n (n := 19) rfl ?_)
      refine q_getr (κ := 12) (k := 16) (φ := 616) (pc' := 22) C B (cw_k B.2.2 k0) fl_X11_82 rfl rfl rfl (cw_r B.2.2 k0 rfl rfl (by decide) (by decide)) dX11_hear_19 rfl (fun b6 eb6 kb6 => ?_)
      replace hf := ms_lE eb6 hf
      refine lv_aload_n hx hb dX11_hear_22 rfl (lv_at hl 0 rfl) (hp_n (n := 23) rfl ?_)
      refine q_getr (κ := 12) (k := 4) (φ := 604) (pc' := 26) C B (cw_k B.2.2 k0) fl_X11_30 rfl rfl rfl (cw_r B.2.2 k0 rfl rfl (by decide) (by decide)) dX11_hear_23 rfl (fun b7 eb7 kb7 => ?_)
      replace hf := ms_lE eb7 hf
      refine lv_iload_n hx hb dX11_hear_26 rfl (lv_at hl 1 rfl) (hp_n (n := 27) rfl ?_)
      obtain ⟨αh8, qh8, hf⟩ := ms_bE hf
      refine d_cv (pc' := 30) B (hp_runV (As := [.ref b7, .int a1]) (rest := []) C B (n_X3_begin n Γ l α B.2.2.1 b6 (cw_k B.2.2 kb6) b7 (cw_k B.2.2 kb7) a1 αh8 qh8) lb_X3_begin lv_X3_begin lk_X11_118 (cw_k B.2.2 kb6) rfl (by decide) rfl hl.1 rfl (Nat.le_of_ble_eq_true rfl) dX11_hear_27 ⟨Nat.le_refl _, Nat.le_refl _⟩) (by decide) rfl (fun Hh8 Lh8 Bh8 => ?_)
      refine lv_aload_n hx hb dX11_hear_30 rfl (lv_at hl 0 rfl) (hp_n (n := 31) rfl ?_)
      refine q_getr (κ := 12) (k := 16) (φ := 616) (pc' := 34) C Bh8 (cw_k Bh8.2.2 k0) fl_X11_82 rfl rfl rfl (cw_r Bh8.2.2 k0 rfl rfl (by decide) (by decide)) dX11_hear_31 rfl (fun b9 eb9 kb9 => ?_)
      replace hf := ms_lE eb9 hf
      refine lv_aload_n hx hb dX11_hear_34 rfl (lv_at hl 0 rfl) (hp_n (n := 35) rfl ?_)
      refine q_getr (κ := 12) (k := 1) (φ := 601) (pc' := 38) C Bh8 (cw_k Bh8.2.2 k0) fl_X11_16 rfl rfl rfl (cw_r Bh8.2.2 k0 rfl rfl (by decide) (by decide)) dX11_hear_35 rfl (fun b10 eb10 kb10 => ?_)
      replace hf := ms_lE eb10 hf
      refine q_geti (κ := 11) (k := 0) (φ := 550) (pc' := 41) C Bh8 (cw_k Bh8.2.2 kb10) fl_X11_122 rfl rfl rfl dX11_hear_38 rfl (fun x11 ex11 => ?_)
      replace hf := ms_lE ex11 hf
      refine lv_aload_n hx hb dX11_hear_41 rfl (lv_at hl 0 rfl) (hp_n (n := 42) rfl ?_)
      refine q_getr (κ := 12) (k := 9) (φ := 609) (pc' := 45) C Bh8 (cw_k Bh8.2.2 k0) fl_X11_50 rfl rfl rfl (cw_r Bh8.2.2 k0 rfl rfl (by decide) (by decide)) dX11_hear_42 rfl (fun b12 eb12 kb12 => ?_)
      replace hf := ms_lE eb12 hf
      obtain ⟨rh13, αh13, qh13, hf⟩ := hq_cE hf
      refine d_ci (pc' := 48) Bh8 (hp_runV (As := [.int x11, .ref b12]) (rest := []) C Bh8 (n_X3_readProofs n Γ l αh8 Bh8.2.2.1 b9 (cw_k Bh8.2.2 kb9) x11 b12 (cw_k Bh8.2.2 kb12) (rh13, αh13) qh13) lb_X3_readProofs lv_X3_readProofs lk_X11_125 (cw_k Bh8.2.2 kb9) rfl (by decide) rfl hl.1 rfl (Nat.le_of_ble_eq_true rfl) dX11_hear_45 ⟨Nat.le_refl _, Nat.le_refl _⟩) (by decide) rfl (fun Hh13 Lh13 Bh13 => ?_)
      refine lv_istore_n (lv' := [(2, .int rh13), (0, .ref a0), (1, .int a1)]) hx hb dX11_hear_48 rfl hl (by decide) rfl (fun ls hl => hp_n (n := 49) rfl ?_)
      refine lv_aload_n hx hb dX11_hear_49 rfl (lv_at hl 1 rfl) (hp_n (n := 50) rfl ?_)
      refine lv_iconst (v := 0) hx hb dX11_hear_50 (by decide) (hp_n (n := 51) rfl ?_)
      refine q_puti (κ := 12) (k := 5) (φ := 605) (pc' := 54) C Bh13 (cw_k Bh13.2.2 k0) fl_X11_34 rfl rfl rfl rfl rfl rfl (cw_sI Bh13.2.2 (by decide) (fun h => absurd h (by decide))) dX11_hear_51 rfl (fun αh14 Hh14 Lh14 eh14 Bh14 => ?_)
      replace hf := ms_lE eh14 hf
      refine lv_iload_n hx hb dX11_hear_54 rfl (lv_at hl 0 rfl) (hp_n (n := 55) rfl ?_)
      refine lv_if_ne (tgt := 65) hx hb dX11_hear_55 (by decide) (fun c15 => ?_) (fun c15 => hp_n (n := 58) rfl ?_)
      ·
        replace hf := ms_iF c15 hf
        refine lv_aload_n hx hb dX11_hear_65 rfl (lv_at hl 1 rfl) (hp_n (n := 66) rfl ?_)
        refine q_getr (κ := 12) (k := 8) (φ := 608) (pc' := 69) C Bh14 (cw_k Bh14.2.2 k0) fl_X11_47 rfl rfl rfl (cw_r Bh14.2.2 k0 rfl rfl (by decide) (by decide)) dX11_hear_66 rfl (fun b16 eb16 kb16 => ?_)
        replace hf := ms_lE eb16 hf
        refine lv_astore_n (lv' := [(3, .ref b16), (2, .int rh13), (0, .ref a0), (1, .int a1)]) hx hb dX11_hear_69 rfl hl (by decide) rfl (fun ls hl => hp_n (n := 70) rfl ?_)
        refine lv_aload_n hx hb dX11_hear_70 rfl (lv_at hl 2 rfl) (hp_n (n := 71) rfl ?_)
        refine lv_aload_n hx hb dX11_hear_71 rfl (lv_at hl 2 rfl) (hp_n (n := 72) rfl ?_)
        refine q_getr (κ := 12) (k := 9) (φ := 609) (pc' := 75) C Bh14 (cw_k Bh14.2.2 k0) fl_X11_50 rfl rfl rfl (cw_r Bh14.2.2 k0 rfl rfl (by decide) (by decide)) dX11_hear_72 rfl (fun b17 eb17 kb17 => ?_)
        replace hf := ms_lE eb17 hf
        refine q_putr (κ := 12) (k := 8) (φ := 608) (pc' := 78) C Bh14 (cw_k Bh14.2.2 k0) fl_X11_47 rfl rfl rfl rfl rfl rfl (cw_sR Bh14.2.2 (by decide) (Or.inl kb17)) dX11_hear_75 rfl (fun αh18 Hh18 Lh18 eh18 Bh18 => ?_)
        replace hf := ms_lE eh18 hf
        refine lv_aload_n hx hb dX11_hear_78 rfl (lv_at hl 2 rfl) (hp_n (n := 79) rfl ?_)
        refine lv_aload_n hx hb dX11_hear_79 rfl (lv_at hl 0 rfl) (hp_n (n := 80) rfl ?_)
        refine q_putr (κ := 12) (k := 9) (φ := 609) (pc' := 83) C Bh18 (cw_k Bh18.2.2 k0) fl_X11_50 rfl rfl rfl rfl rfl rfl (cw_sR Bh18.2.2 (by decide) (Or.inl kb16)) dX11_hear_80 rfl (fun αh19 Hh19 Lh19 eh19 Bh19 => ?_)
        replace hf := ms_lE eh19 hf
        refine lv_aload_n hx hb dX11_hear_83 rfl (lv_at hl 2 rfl) (hp_n (n := 84) rfl ?_)
        refine lv_aload_n hx hb dX11_hear_84 rfl (lv_at hl 2 rfl) (hp_n (n := 85) rfl ?_)
        refine q_getr (κ := 12) (k := 8) (φ := 608) (pc' := 88) C Bh19 (cw_k Bh19.2.2 k0) fl_X11_47 rfl rfl rfl (cw_r Bh19.2.2 k0 rfl rfl (by decide) (by decide)) dX11_hear_85 rfl (fun b20 eb20 kb20 => ?_)
        replace hf := ms_lE eb20 hf
        refine lv_iconst (v := 0) hx hb dX11_hear_88 (by decide) (hp_n (n := 89) rfl ?_)
        obtain ⟨rh21, qh21, hf⟩ := ms_bE hf
        refine d_pi (pc' := 92) Bh19 (hp_runV (As := [.int (0 : Int32)]) (rest := [.ref a0]) C Bh19 (n_X5_countOf n Γ l αh19 Bh19.2.2.1 b20 (cw_k Bh19.2.2 kb20) (0 : Int32) rh21 qh21) lb_X5_countOf lv_X5_countOf lk_X11_129 (cw_k Bh19.2.2 kb20) rfl (by decide) rfl hl.1 rfl (Nat.le_of_ble_eq_true rfl) dX11_hear_89 ⟨Nat.le_refl _, Nat.le_refl _⟩) rfl (fun Hh21 Lh21 Bh21 => ?_)
        obtain ⟨rh22, αh22, qh22, hf⟩ := hq_cE hf
        refine d_ci (pc' := 95) Bh21 (hp_runV (As := [.int rh21]) (rest := []) C Bh21 (n_X11_answer n Γ l αh19 Bh21.2.2.1 a0 (cw_k Bh21.2.2 k0) rh21 (rh22, αh22) qh22) lb_X11_answer lv_X11_answer lk_X11_115 (cw_k Bh21.2.2 k0) rfl (by decide) rfl hl.1 rfl (Nat.le_of_ble_eq_true rfl) dX11_hear_92 ⟨Nat.le_refl _, Nat.le_refl _⟩) (by decide) rfl (fun Hh22 Lh22 Bh22 => ?_)
        cases hf
        exact q_iret C Bh22 hr hlk ⟨rfl, rfl, Bh22.2.2⟩ dX11_hear_95
      ·
        replace hf := ms_iT c15 hf
        refine lv_aload_n hx hb dX11_hear_58 rfl (lv_at hl 1 rfl) (hp_n (n := 59) rfl ?_)
        refine lv_bipush (v := 9) hx hb dX11_hear_59 (by decide) (hp_n (n := 61) rfl ?_)
        obtain ⟨rh23, αh23, qh23, hf⟩ := hq_cE hf
        refine d_ci (pc' := 64) Bh14 (hp_runV (As := [.int (9 : Int32)]) (rest := []) C Bh14 (n_X11_refuse n Γ l αh14 Bh14.2.2.1 a0 (cw_k Bh14.2.2 k0) (9 : Int32) (rh23, αh23) qh23) lb_X11_refuse lv_X11_refuse lk_X11_98 (cw_k Bh14.2.2 k0) rfl (by decide) rfl hl.1 rfl (Nat.le_of_ble_eq_true rfl) dX11_hear_61 ⟨Nat.le_refl _, Nat.le_refl _⟩) (by decide) rfl (fun Hh23 Lh23 Bh23 => ?_)
        cases hf
        exact q_iret C Bh23 hr hlk ⟨rfl, rfl, Bh23.2.2⟩ dX11_hear_64
    ·
      replace hf := ms_iF c5 hf
      exact J12 α s.heap [] B ls (lv_sub hl [0] rfl) hf
def f_X11_isMark (n : Nat) (α : hp_T) (a0 : Nat) (a1 : Int32) : Option Int32 :=
  if a1 < 0 then
    some (0 : Int32)
  else
    ms_l (hp_R α 601 a0) fun b2 =>
    ms_l (hp_I α 550 b2) fun x3 =>
    if x3 ≤ a1 then
      some (0 : Int32)
    else
      some (1 : Int32)
set_option maxRecDepth 100000 in
set_option maxHeartbeats 4000000 in
theorem n_X11_isMark (n : Nat) (Γ : hp_G) (l : Launch) (α : hp_T) (g : GC α) (a0 : Nat) (k0 : hp_K α a0 = 12) (a1 : Int32) (res : Int32) (hf : f_X11_isMark n α a0 a1 = some res) : Met l yX11_isMark (hp_ws yX11_isMark cX11_isMark 2 (some .boolean)) (hp_rm 0 0 0) (hp_Pc Γ α [.ref a0, .int a1]) (hp_Qi Γ (fun r β => β = α ∧ r = res)) 0 0 (hp_A Γ) := by
  unfold f_X11_isMark at hf
  refine hp_start (by decide) ?_
  intro p e s m below meth c C hr hlk B0 hnm
  have C : hp_C Γ p m c cX11_isMark 2 s ([.ref a0, .int a1] : List Value).toArray RX11 := C
  have hx := C.1.1
  have hb := C.1.2.1
  have hown := C.1.2.2.2.1
  have hts := C.1.2.2.2.2
  have B : hp_B Γ (cw w_X11_isMark) s α α s.heap [] := ⟨B0.1, B0.2.1, cw_rf g⟩
  have hl := lv_entry ([.ref a0, .int a1]) (n := 2) (Nat.le_of_ble_eq_true rfl)
  show W p l e (hp_rm 0 0 0) s m ([.ref a0, .int a1] : List Value).toArray below meth c s.heap [] 0 0 (MQ below (hp_Qi Γ (fun r β => β = α ∧ r = res)) ([.ref a0, .int a1] : List Value).toArray s 0 0 (hp_A Γ)) (entryFrame m ([.ref a0, .int a1] : List Value).toArray 2)
  rw [lg_entry_eq]
  generalize (lg_sl ([.ref a0, .int a1]) ++ List.replicate (2 - (lg_sl ([.ref a0, .int a1])).length) Slot.unset).toArray = ls at hl ⊢
  have hl : lv_has ls 2 [(0, .ref a0), (1, .int a1)] := hl
  refine lv_iload_n hx hb dX11_isMark_0 rfl (lv_at hl 1 rfl) (hp_n (n := 1) rfl ?_)
  refine lv_if_lt (tgt := 19) hx hb dX11_isMark_1 (by decide) (fun c1 => ?_) (fun c1 => hp_n (n := 4) rfl ?_)
  ·
    replace hf := ms_iT c1 hf
    refine lv_iconst (v := 0) hx hb dX11_isMark_19 (by decide) (hp_n (n := 20) rfl ?_)
    cases hf
    exact q_zret C B hr hlk (by decide) ⟨rfl, rfl⟩ dX11_isMark_20
  ·
    replace hf := ms_iF c1 hf
    refine lv_iload_n hx hb dX11_isMark_4 rfl (lv_at hl 1 rfl) (hp_n (n := 5) rfl ?_)
    refine lv_aload_n hx hb dX11_isMark_5 rfl (lv_at hl 0 rfl) (hp_n (n := 6) rfl ?_)
    refine q_getr (κ := 12) (k := 1) (φ := 601) (pc' := 9) C B (cw_k B.2.2 k0) fl_X11_16 rfl rfl rfl (cw_r B.2.2 k0 rfl rfl (by decide) (by decide)) dX11_isMark_6 rfl (fun b2 eb2 kb2 => ?_)
    replace hf := ms_lE eb2 hf
    refine q_geti (κ := 11) (k := 0) (φ := 550) (pc' := 12) C B (cw_k B.2.2 kb2) fl_X11_122 rfl rfl rfl dX11_isMark_9 rfl (fun x3 ex3 => ?_)
    replace hf := ms_lE ex3 hf
    refine lv_icmp_ge (tgt := 19) hx hb dX11_isMark_12 (by decide) (fun c4 => ?_) (fun c4 => hp_n (n := 15) rfl ?_)
    ·
      replace hf := ms_iT c4 hf
      refine lv_iconst (v := 0) hx hb dX11_isMark_19 (by decide) (hp_n (n := 20) rfl ?_)
      cases hf
      exact q_zret C B hr hlk (by decide) ⟨rfl, rfl⟩ dX11_isMark_20
    ·
      replace hf := ms_iF c4 hf
      refine lv_iconst (v := 1) hx hb dX11_isMark_15 (by decide) (hp_n (n := 16) rfl ?_)
      refine lv_goto (tgt := 20) hx hb dX11_isMark_16 (by decide) ?_
      cases hf
      exact q_zret C B hr hlk (by decide) ⟨rfl, rfl⟩ dX11_isMark_20
def f_X11_wrongGrowth (n : Nat) (α : hp_T) (o0 : Option Nat) (a1 : Int32) (a2 : Int32) : Option Int32 :=
  hq_m o0 (
    if a1 < 0 then
      some (1 : Int32)
    else
      if a1 ≤ a2 then
        some (2 : Int32)
      else
        some (1 : Int32)) fun a0 =>
  if a1 < 0 then
    some (1 : Int32)
  else
    if a1 ≤ a2 then
      ms_l (hp_I α 152 a0) fun x5 =>
      if a2 ≤ x5 then
        some (0 : Int32)
      else
        some (5 : Int32)
    else
      some (1 : Int32)
set_option maxRecDepth 100000 in
set_option maxHeartbeats 4000000 in
theorem n_X11_wrongGrowth (n : Nat) (Γ : hp_G) (l : Launch) (α : hp_T) (g : GC α) (o0 : Option Nat) (k0 : ∀ b, o0 = some b → hp_K α b = 3) (a1 : Int32) (a2 : Int32) (res : Int32) (hf : f_X11_wrongGrowth n α o0 a1 a2 = some res) : Met l yX11_wrongGrowth (hp_ws yX11_wrongGrowth cX11_wrongGrowth 3 (some .int)) (hp_rm 0 0 0) (hp_Pc Γ α [va_rf o0, .int a1, .int a2]) (hp_Qi Γ (fun r β => β = α ∧ r = res)) 0 0 (hp_A Γ) := by
  unfold f_X11_wrongGrowth at hf
  refine hp_start (by decide) ?_
  intro p e s m below meth c C hr hlk B0 hnm
  have C : hp_C Γ p m c cX11_wrongGrowth 3 s ([va_rf o0, .int a1, .int a2] : List Value).toArray RX11 := C
  have hx := C.1.1
  have hb := C.1.2.1
  have hown := C.1.2.2.2.1
  have hts := C.1.2.2.2.2
  have B : hp_B Γ (cw w_X11_wrongGrowth) s α α s.heap [] := ⟨B0.1, B0.2.1, cw_rf g⟩
  rcases o0 with _ | a0
  ·
    replace hf := hq_N hf
    have hl := lv_entry ([.null, .int a1, .int a2]) (n := 3) (Nat.le_of_ble_eq_true rfl)
    show W p l e (hp_rm 0 0 0) s m ([.null, .int a1, .int a2] : List Value).toArray below meth c s.heap [] 0 0 (MQ below (hp_Qi Γ (fun r β => β = α ∧ r = res)) ([.null, .int a1, .int a2] : List Value).toArray s 0 0 (hp_A Γ)) (entryFrame m ([.null, .int a1, .int a2] : List Value).toArray 3)
    rw [lg_entry_eq]
    generalize (lg_sl ([.null, .int a1, .int a2]) ++ List.replicate (3 - (lg_sl ([.null, .int a1, .int a2])).length) Slot.unset).toArray = ls at hl ⊢
    have hl : lv_has ls 3 [(0, .null), (1, .int a1), (2, .int a2)] := hl
    refine lv_iload_n hx hb dX11_wrongGrowth_0 rfl (lv_at hl 1 rfl) (hp_n (n := 1) rfl ?_)
    refine lv_if_lt (tgt := 9) hx hb dX11_wrongGrowth_1 (by decide) (fun c1 => ?_) (fun c1 => hp_n (n := 4) rfl ?_)
    ·
      replace hf := ms_iT c1 hf
      refine lv_iconst (v := 1) hx hb dX11_wrongGrowth_9 (by decide) (hp_n (n := 10) rfl ?_)
      cases hf
      exact q_iret C B hr hlk ⟨rfl, rfl⟩ dX11_wrongGrowth_10
    ·
      replace hf := ms_iF c1 hf
      refine lv_iload_n hx hb dX11_wrongGrowth_4 rfl (lv_at hl 1 rfl) (hp_n (n := 5) rfl ?_)
      refine lv_iload_n hx hb dX11_wrongGrowth_5 rfl (lv_at hl 2 rfl) (hp_n (n := 6) rfl ?_)
      refine lv_icmp_le (tgt := 11) hx hb dX11_wrongGrowth_6 (by decide) (fun c2 => ?_) (fun c2 => hp_n (n := 9) rfl ?_)
      ·
        replace hf := ms_iT c2 hf
        refine lv_aload_nN hx hb dX11_wrongGrowth_11 rfl (lv_at hl 0 rfl) (hp_n (n := 12) rfl ?_)
        refine lv_ifnonnullN hx hb dX11_wrongGrowth_12 (hp_n (n := 15) rfl ?_)
        refine lv_iconst (v := 2) hx hb dX11_wrongGrowth_15 (by decide) (hp_n (n := 16) rfl ?_)
        cases hf
        exact q_iret C B hr hlk ⟨rfl, rfl⟩ dX11_wrongGrowth_16
      ·
        replace hf := ms_iF c2 hf
        refine lv_iconst (v := 1) hx hb dX11_wrongGrowth_9 (by decide) (hp_n (n := 10) rfl ?_)
        cases hf
        exact q_iret C B hr hlk ⟨rfl, rfl⟩ dX11_wrongGrowth_10
  ·
    replace hf := hq_S hf
    have ka0 := k0 a0 rfl
    have hl := lv_entry ([.ref a0, .int a1, .int a2]) (n := 3) (Nat.le_of_ble_eq_true rfl)
    show W p l e (hp_rm 0 0 0) s m ([.ref a0, .int a1, .int a2] : List Value).toArray below meth c s.heap [] 0 0 (MQ below (hp_Qi Γ (fun r β => β = α ∧ r = res)) ([.ref a0, .int a1, .int a2] : List Value).toArray s 0 0 (hp_A Γ)) (entryFrame m ([.ref a0, .int a1, .int a2] : List Value).toArray 3)
    rw [lg_entry_eq]
    generalize (lg_sl ([.ref a0, .int a1, .int a2]) ++ List.replicate (3 - (lg_sl ([.ref a0, .int a1, .int a2])).length) Slot.unset).toArray = ls at hl ⊢
    have hl : lv_has ls 3 [(0, .ref a0), (1, .int a1), (2, .int a2)] := hl
    refine lv_iload_n hx hb dX11_wrongGrowth_0 rfl (lv_at hl 1 rfl) (hp_n (n := 1) rfl ?_)
    refine lv_if_lt (tgt := 9) hx hb dX11_wrongGrowth_1 (by decide) (fun c3 => ?_) (fun c3 => hp_n (n := 4) rfl ?_)
    ·
      replace hf := ms_iT c3 hf
      refine lv_iconst (v := 1) hx hb dX11_wrongGrowth_9 (by decide) (hp_n (n := 10) rfl ?_)
      cases hf
      exact q_iret C B hr hlk ⟨rfl, rfl⟩ dX11_wrongGrowth_10
    ·
      replace hf := ms_iF c3 hf
      refine lv_iload_n hx hb dX11_wrongGrowth_4 rfl (lv_at hl 1 rfl) (hp_n (n := 5) rfl ?_)
      refine lv_iload_n hx hb dX11_wrongGrowth_5 rfl (lv_at hl 2 rfl) (hp_n (n := 6) rfl ?_)
      refine lv_icmp_le (tgt := 11) hx hb dX11_wrongGrowth_6 (by decide) (fun c4 => ?_) (fun c4 => hp_n (n := 9) rfl ?_)
      ·
        replace hf := ms_iT c4 hf
        refine lv_aload_n hx hb dX11_wrongGrowth_11 rfl (lv_at hl 0 rfl) (hp_n (n := 12) rfl ?_)
        refine lv_ifnonnull (tgt := 17) hx hb dX11_wrongGrowth_12 (by decide) ?_
        refine lv_iload_n hx hb dX11_wrongGrowth_17 rfl (lv_at hl 2 rfl) (hp_n (n := 18) rfl ?_)
        refine lv_aload_n hx hb dX11_wrongGrowth_18 rfl (lv_at hl 0 rfl) (hp_n (n := 19) rfl ?_)
        refine q_geti (κ := 3) (k := 2) (φ := 152) (pc' := 22) C B (cw_k B.2.2 ka0) fl_X11_167 rfl rfl rfl dX11_wrongGrowth_19 rfl (fun x5 ex5 => ?_)
        replace hf := ms_lE ex5 hf
        refine lv_icmp_le (tgt := 29) hx hb dX11_wrongGrowth_22 (by decide) (fun c6 => ?_) (fun c6 => hp_n (n := 25) rfl ?_)
        ·
          replace hf := ms_iT c6 hf
          refine lv_iconst (v := 0) hx hb dX11_wrongGrowth_29 (by decide) (hp_n (n := 30) rfl ?_)
          cases hf
          exact q_iret C B hr hlk ⟨rfl, rfl⟩ dX11_wrongGrowth_30
        ·
          replace hf := ms_iF c6 hf
          refine lv_iconst (v := 5) hx hb dX11_wrongGrowth_25 (by decide) (hp_n (n := 26) rfl ?_)
          refine lv_goto (tgt := 30) hx hb dX11_wrongGrowth_26 (by decide) ?_
          cases hf
          exact q_iret C B hr hlk ⟨rfl, rfl⟩ dX11_wrongGrowth_30
      ·
        replace hf := ms_iF c4 hf
        refine lv_iconst (v := 1) hx hb dX11_wrongGrowth_9 (by decide) (hp_n (n := 10) rfl ?_)
        cases hf
        exact q_iret C B hr hlk ⟨rfl, rfl⟩ dX11_wrongGrowth_10
def f_X11_wrongInclusions_J29 (n : Nat) (α : hp_T) : Option Int32 :=
  some (5 : Int32)
def f_X11_wrongInclusion (n : Nat) (α : hp_T) (o0 : Option Nat) (a1 : Int32) (a2 : Int32) : Option Int32 :=
  hq_m o0 (
    if a1 < 0 then
      some (1 : Int32)
    else
      if 0 ≤ a2 then
        some (2 : Int32)
      else
        some (1 : Int32)) fun a0 =>
  if a1 < 0 then
    some (1 : Int32)
  else
    if 0 ≤ a2 then
      ms_l (hp_I α 152 a0) fun x5 =>
      if x5 < a2 then
        f_X11_wrongInclusions_J29 n α 
      else
        if a1 < a2 then
          some (0 : Int32)
        else
          f_X11_wrongInclusions_J29 n α 
    else
      some (1 : Int32)
set_option maxRecDepth 100000 in
set_option maxHeartbeats 4000000 in
theorem n_X11_wrongInclusion (n : Nat) (Γ : hp_G) (l : Launch) (α : hp_T) (g : GC α) (o0 : Option Nat) (k0 : ∀ b, o0 = some b → hp_K α b = 3) (a1 : Int32) (a2 : Int32) (res : Int32) (hf : f_X11_wrongInclusion n α o0 a1 a2 = some res) : Met l yX11_wrongInclusion (hp_ws yX11_wrongInclusion cX11_wrongInclusion 3 (some .int)) (hp_rm 0 0 0) (hp_Pc Γ α [va_rf o0, .int a1, .int a2]) (hp_Qi Γ (fun r β => β = α ∧ r = res)) 0 0 (hp_A Γ) := by
  unfold f_X11_wrongInclusion at hf
  refine hp_start (by decide) ?_
  intro p e s m below meth c C hr hlk B0 hnm
  have C : hp_C Γ p m c cX11_wrongInclusion 3 s ([va_rf o0, .int a1, .int a2] : List Value).toArray RX11 := C
  have hx := C.1.1
  have hb := C.1.2.1
  have hown := C.1.2.2.2.1
  have hts := C.1.2.2.2.2
  have B : hp_B Γ (cw w_X11_wrongInclusion) s α α s.heap [] := ⟨B0.1, B0.2.1, cw_rf g⟩
  rcases o0 with _ | a0
  ·
    replace hf := hq_N hf
    have hl := lv_entry ([.null, .int a1, .int a2]) (n := 3) (Nat.le_of_ble_eq_true rfl)
    show W p l e (hp_rm 0 0 0) s m ([.null, .int a1, .int a2] : List Value).toArray below meth c s.heap [] 0 0 (MQ below (hp_Qi Γ (fun r β => β = α ∧ r = res)) ([.null, .int a1, .int a2] : List Value).toArray s 0 0 (hp_A Γ)) (entryFrame m ([.null, .int a1, .int a2] : List Value).toArray 3)
    rw [lg_entry_eq]
    generalize (lg_sl ([.null, .int a1, .int a2]) ++ List.replicate (3 - (lg_sl ([.null, .int a1, .int a2])).length) Slot.unset).toArray = ls at hl ⊢
    have hl : lv_has ls 3 [(0, .null), (1, .int a1), (2, .int a2)] := hl
    refine lv_iload_n hx hb dX11_wrongInclusion_0 rfl (lv_at hl 1 rfl) (hp_n (n := 1) rfl ?_)
    refine lv_if_lt (tgt := 8) hx hb dX11_wrongInclusion_1 (by decide) (fun c1 => ?_) (fun c1 => hp_n (n := 4) rfl ?_)
    ·
      replace hf := ms_iT c1 hf
      refine lv_iconst (v := 1) hx hb dX11_wrongInclusion_8 (by decide) (hp_n (n := 9) rfl ?_)
      cases hf
      exact q_iret C B hr hlk ⟨rfl, rfl⟩ dX11_wrongInclusion_9
    ·
      replace hf := ms_iF c1 hf
      refine lv_iload_n hx hb dX11_wrongInclusion_4 rfl (lv_at hl 2 rfl) (hp_n (n := 5) rfl ?_)
      refine lv_if_ge (tgt := 10) hx hb dX11_wrongInclusion_5 (by decide) (fun c2 => ?_) (fun c2 => hp_n (n := 8) rfl ?_)
      ·
        replace hf := ms_iT c2 hf
        refine lv_aload_nN hx hb dX11_wrongInclusion_10 rfl (lv_at hl 0 rfl) (hp_n (n := 11) rfl ?_)
        refine lv_ifnonnullN hx hb dX11_wrongInclusion_11 (hp_n (n := 14) rfl ?_)
        refine lv_iconst (v := 2) hx hb dX11_wrongInclusion_14 (by decide) (hp_n (n := 15) rfl ?_)
        cases hf
        exact q_iret C B hr hlk ⟨rfl, rfl⟩ dX11_wrongInclusion_15
      ·
        replace hf := ms_iF c2 hf
        refine lv_iconst (v := 1) hx hb dX11_wrongInclusion_8 (by decide) (hp_n (n := 9) rfl ?_)
        cases hf
        exact q_iret C B hr hlk ⟨rfl, rfl⟩ dX11_wrongInclusion_9
  ·
    replace hf := hq_S hf
    have ka0 := k0 a0 rfl
    have hl := lv_entry ([.ref a0, .int a1, .int a2]) (n := 3) (Nat.le_of_ble_eq_true rfl)
    show W p l e (hp_rm 0 0 0) s m ([.ref a0, .int a1, .int a2] : List Value).toArray below meth c s.heap [] 0 0 (MQ below (hp_Qi Γ (fun r β => β = α ∧ r = res)) ([.ref a0, .int a1, .int a2] : List Value).toArray s 0 0 (hp_A Γ)) (entryFrame m ([.ref a0, .int a1, .int a2] : List Value).toArray 3)
    rw [lg_entry_eq]
    generalize (lg_sl ([.ref a0, .int a1, .int a2]) ++ List.replicate (3 - (lg_sl ([.ref a0, .int a1, .int a2])).length) Slot.unset).toArray = ls at hl ⊢
    have hl : lv_has ls 3 [(0, .ref a0), (1, .int a1), (2, .int a2)] := hl
    refine lv_iload_n hx hb dX11_wrongInclusion_0 rfl (lv_at hl 1 rfl) (hp_n (n := 1) rfl ?_)
    refine lv_if_lt (tgt := 8) hx hb dX11_wrongInclusion_1 (by decide) (fun c3 => ?_) (fun c3 => hp_n (n := 4) rfl ?_)
    ·
      replace hf := ms_iT c3 hf
      refine lv_iconst (v := 1) hx hb dX11_wrongInclusion_8 (by decide) (hp_n (n := 9) rfl ?_)
      cases hf
      exact q_iret C B hr hlk ⟨rfl, rfl⟩ dX11_wrongInclusion_9
    ·
      replace hf := ms_iF c3 hf
      refine lv_iload_n hx hb dX11_wrongInclusion_4 rfl (lv_at hl 2 rfl) (hp_n (n := 5) rfl ?_)
      refine lv_if_ge (tgt := 10) hx hb dX11_wrongInclusion_5 (by decide) (fun c4 => ?_) (fun c4 => hp_n (n := 8) rfl ?_)
      ·
        replace hf := ms_iT c4 hf
        refine lv_aload_n hx hb dX11_wrongInclusion_10 rfl (lv_at hl 0 rfl) (hp_n (n := 11) rfl ?_)
        refine lv_ifnonnull (tgt := 16) hx hb dX11_wrongInclusion_11 (by decide) ?_
        refine lv_iload_n hx hb dX11_wrongInclusion_16 rfl (lv_at hl 2 rfl) (hp_n (n := 17) rfl ?_)
        refine lv_aload_n hx hb dX11_wrongInclusion_17 rfl (lv_at hl 0 rfl) (hp_n (n := 18) rfl ?_)
        refine q_geti (κ := 3) (k := 2) (φ := 152) (pc' := 21) C B (cw_k B.2.2 ka0) fl_X11_167 rfl rfl rfl dX11_wrongInclusion_18 rfl (fun x5 ex5 => ?_)
        replace hf := ms_lE ex5 hf
        have J29 : ∀ (Hh6 : Heap) (Lh6 : List Loc) (Bh6 : hp_B Γ (cw w_X11_wrongInclusion) s α α Hh6 Lh6) (ls : Array Slot) (hl : lv_has ls 3 []) (hf : f_X11_wrongInclusions_J29 n α  = some res), W p l e (hp_rm 0 0 0) s m ([.ref a0, .int a1, .int a2] : List Value).toArray below meth c Hh6 Lh6 0 0 (MQ below (hp_Qi Γ (fun r β => β = α ∧ r = res)) ([.ref a0, .int a1, .int a2] : List Value).toArray s 0 0 (hp_A Γ)) (F0 m 29 ls []) := by
          intro Hh6 Lh6 Bh6 ls hl hf
          unfold f_X11_wrongInclusions_J29 at hf
          refine lv_iconst (v := 5) hx hb dX11_wrongInclusion_29 (by decide) (hp_n (n := 30) rfl ?_)
          refine lv_goto (tgt := 34) hx hb dX11_wrongInclusion_30 (by decide) ?_
          cases hf
          exact q_iret C Bh6 hr hlk ⟨rfl, rfl⟩ dX11_wrongInclusion_34
        refine lv_icmp_gt (tgt := 29) hx hb dX11_wrongInclusion_21 (by decide) (fun c7 => ?_) (fun c7 => hp_n (n := 24) rfl ?_)
        ·
          replace hf := ms_iT c7 hf
          exact J29 s.heap [] B ls (lv_sub hl [] rfl) hf
        ·
          replace hf := ms_iF c7 hf
          refine lv_iload_n hx hb dX11_wrongInclusion_24 rfl (lv_at hl 1 rfl) (hp_n (n := 25) rfl ?_)
          refine lv_iload_n hx hb dX11_wrongInclusion_25 rfl (lv_at hl 2 rfl) (hp_n (n := 26) rfl ?_)
          refine lv_icmp_lt (tgt := 33) hx hb dX11_wrongInclusion_26 (by decide) (fun c8 => ?_) (fun c8 => hp_n (n := 29) rfl ?_)
          ·
            replace hf := ms_iT c8 hf
            refine lv_iconst (v := 0) hx hb dX11_wrongInclusion_33 (by decide) (hp_n (n := 34) rfl ?_)
            cases hf
            exact q_iret C B hr hlk ⟨rfl, rfl⟩ dX11_wrongInclusion_34
          ·
            replace hf := ms_iF c8 hf
            exact J29 s.heap [] B ls (lv_sub hl [] rfl) hf
      ·
        replace hf := ms_iF c4 hf
        refine lv_iconst (v := 1) hx hb dX11_wrongInclusion_8 (by decide) (hp_n (n := 9) rfl ?_)
        cases hf
        exact q_iret C B hr hlk ⟨rfl, rfl⟩ dX11_wrongInclusion_9
def f_X11_include (n : Nat) (α : hp_T) (a0 : Nat) (a1 : Int32) (a2 : Int32) (a3 : Int32) : Option (Int32 × hp_T) :=
  ms_l (hp_R α 601 a0) fun b1 =>
  ms_b (f_X10_logAt n α b1 a1) fun rh2 =>
  hq_m rh2 (
    ms_b (f_X11_wrongInclusion n α none a2 a3) fun rh3 =>
    if rh3 = 0 then
      ms_l (hp_R α 612 a0) fun b5 =>
      ms_b (f_X8_toThing n α b5 a2 a3) fun αh6 =>
      ms_l (hp_R αh6 601 a0) fun b7 =>
      ms_l (hp_R αh6 612 a0) fun b8 =>
      ms_l (hp_R αh6 603 a0) fun b9 =>
      ms_b (f_X10_marksAlong n αh6 b7 b8 none b9) fun αh10 =>
      ms_l (hp_R αh10 603 a0) fun b11 =>
      ms_l (hp_I αh10 301 b11) fun x12 =>
      hq_c (f_X11_answer n αh10 a0 x12) fun rh13 αh13 =>
      some (rh13, αh13)
    else
      hq_c (f_X11_refuse n α a0 rh3) fun rh14 αh14 =>
      some (rh14, αh14)) fun bh2 =>
  ms_b (f_X11_wrongInclusion n α (some bh2) a2 a3) fun rh15 =>
  if rh15 = 0 then
    ms_l (hp_R α 612 a0) fun b17 =>
    ms_b (f_X8_toThing n α b17 a2 a3) fun αh18 =>
    ms_l (hp_R αh18 601 a0) fun b19 =>
    ms_l (hp_R αh18 612 a0) fun b20 =>
    ms_l (hp_R αh18 603 a0) fun b21 =>
    ms_b (f_X10_marksAlong n αh18 b19 b20 (some bh2) b21) fun αh22 =>
    ms_l (hp_R αh22 603 a0) fun b23 =>
    ms_l (hp_I αh22 301 b23) fun x24 =>
    hq_c (f_X11_answer n αh22 a0 x24) fun rh25 αh25 =>
    some (rh25, αh25)
  else
    hq_c (f_X11_refuse n α a0 rh15) fun rh26 αh26 =>
    some (rh26, αh26)
set_option maxRecDepth 100000 in
set_option maxHeartbeats 4000000 in
theorem n_X11_include (n : Nat) (Γ : hp_G) (l : Launch) (α : hp_T) (g : GC α) (a0 : Nat) (k0 : hp_K α a0 = 12) (a1 : Int32) (a2 : Int32) (a3 : Int32) (res : (Int32 × hp_T)) (hf : f_X11_include n α a0 a1 a2 a3 = some res) : Met l yX11_include (hp_ws yX11_include cX11_include 6 (some .int)) (hp_rm 4 0 0) (hp_Pc Γ α [.ref a0, .int a1, .int a2, .int a3]) (hp_Qi Γ (fun r β => r = res.1 ∧ β = res.2 ∧ cw w_X11_include α β)) 0 0 (hp_A Γ) := by
  unfold f_X11_include at hf
  refine hp_start (by decide) ?_
  intro p e s m below meth c C hr hlk B0 hnm
  have C : hp_C Γ p m c cX11_include 6 s ([.ref a0, .int a1, .int a2, .int a3] : List Value).toArray RX11 := C
  have hx := C.1.1
  have hb := C.1.2.1
  have hown := C.1.2.2.2.1
  have hts := C.1.2.2.2.2
  have B : hp_B Γ (cw w_X11_include) s α α s.heap [] := ⟨B0.1, B0.2.1, cw_rf g⟩
  have hl := lv_entry ([.ref a0, .int a1, .int a2, .int a3]) (n := 6) (Nat.le_of_ble_eq_true rfl)
  show W p l e (hp_rm 4 0 0) s m ([.ref a0, .int a1, .int a2, .int a3] : List Value).toArray below meth c s.heap [] 0 0 (MQ below (hp_Qi Γ (fun r β => r = res.1 ∧ β = res.2 ∧ cw w_X11_include α β)) ([.ref a0, .int a1, .int a2, .int a3] : List Value).toArray s 0 0 (hp_A Γ)) (entryFrame m ([.ref a0, .int a1, .int a2, .int a3] : List Value).toArray 6)
  rw [lg_entry_eq]
  generalize (lg_sl ([.ref a0, .int a1, .int a2, .int a3]) ++ List.replicate (6 - (lg_sl ([.ref a0, .int a1, .int a2, .int a3])).length) Slot.unset).toArray = ls at hl ⊢
  have hl : lv_has ls 6 [(0, .ref a0), (1, .int a1), (2, .int a2), (3, .int a3)] := hl
  refine lv_aload_n hx hb dX11_include_0 rfl (lv_at hl 0 rfl) (hp_n (n := 1) rfl ?_)
  refine q_getr (κ := 12) (k := 1) (φ := 601) (pc' := 4) C B (cw_k B.2.2 k0) fl_X11_16 rfl rfl rfl (cw_r B.2.2 k0 rfl rfl (by decide) (by decide)) dX11_include_1 rfl (fun b1 eb1 kb1 => ?_)
  replace hf := ms_lE eb1 hf
  refine lv_iload_n hx hb dX11_include_4 rfl (lv_at hl 1 rfl) (hp_n (n := 5) rfl ?_)
  obtain ⟨rh2, qh2, hf⟩ := ms_bE hf
  refine d_pq (pc' := 8) B (hp_runV (As := [.int a1]) (rest := []) C B (n_X10_logAt n Γ l α B.2.2.1 b1 (cw_k B.2.2 kb1) a1 rh2 qh2) lb_X10_logAt lv_X10_logAt lk_X11_163 (cw_k B.2.2 kb1) rfl (by decide) rfl hl.1 rfl (Nat.le_of_ble_eq_true rfl) dX11_include_5 ⟨Nat.le_refl _, Nat.le_refl _⟩) rfl (fun Hh2 Lh2 Bh2 kh2 => ?_)
  rcases rh2 with _ | bh2
  ·
    replace hf := hq_N hf
    refine lv_astoreN (lv' := [(4, .null), (0, .ref a0), (1, .int a1), (2, .int a2), (3, .int a3)]) hx hb dX11_include_8 hl (by decide) rfl (fun ls hl => hp_n (n := 10) rfl ?_)
    refine lv_aloadN hx hb dX11_include_10 (lv_at hl 0 rfl) (hp_n (n := 12) rfl ?_)
    refine lv_iload_n hx hb dX11_include_12 rfl (lv_at hl 3 rfl) (hp_n (n := 13) rfl ?_)
    refine lv_iload_n hx hb dX11_include_13 rfl (lv_at hl 4 rfl) (hp_n (n := 14) rfl ?_)
    obtain ⟨rh3, qh3, hf⟩ := ms_bE hf
    refine d_pi (pc' := 17) Bh2 (hp_runS (As := [va_rf none, .int a2, .int a3]) (rest := []) C Bh2 (n_X11_wrongInclusion n Γ l α Bh2.2.2.1 none (fun b h => by cases h) a2 a3 rh3 qh3) lb_X11_wrongInclusion ls_X11_wrongInclusion lk_X11_264 rfl (by decide) rfl hl.1 rfl (Nat.le_of_ble_eq_true rfl) dX11_include_14 ⟨Nat.le_refl _, Nat.le_refl _⟩) rfl (fun Hh3 Lh3 Bh3 => ?_)
    refine lv_istore (lv' := [(5, .int rh3), (4, .null), (0, .ref a0), (1, .int a1), (2, .int a2), (3, .int a3)]) hx hb dX11_include_17 hl (by decide) rfl (fun ls hl => hp_n (n := 19) rfl ?_)
    refine lv_iload hx hb dX11_include_19 (lv_at hl 0 rfl) (hp_n (n := 21) rfl ?_)
    refine lv_if_eq (tgt := 31) hx hb dX11_include_21 (by decide) (fun c4 => ?_) (fun c4 => hp_n (n := 24) rfl ?_)
    ·
      replace hf := ms_iT c4 hf
      refine lv_aload_n hx hb dX11_include_31 rfl (lv_at hl 2 rfl) (hp_n (n := 32) rfl ?_)
      refine q_getr (κ := 12) (k := 12) (φ := 612) (pc' := 35) C Bh3 (cw_k Bh3.2.2 k0) fl_X11_62 rfl rfl rfl (cw_r Bh3.2.2 k0 rfl rfl (by decide) (by decide)) dX11_include_32 rfl (fun b5 eb5 kb5 => ?_)
      replace hf := ms_lE eb5 hf
      refine lv_iload_n hx hb dX11_include_35 rfl (lv_at hl 4 rfl) (hp_n (n := 36) rfl ?_)
      refine lv_iload_n hx hb dX11_include_36 rfl (lv_at hl 5 rfl) (hp_n (n := 37) rfl ?_)
      obtain ⟨αh6, qh6, hf⟩ := ms_bE hf
      refine d_cv (pc' := 40) Bh3 (hp_runV (As := [.int a2, .int a3]) (rest := []) C Bh3 (n_X8_toThing n Γ l α Bh3.2.2.1 b5 (cw_k Bh3.2.2 kb5) a2 a3 αh6 qh6) lb_X8_toThing lv_X8_toThing lk_X11_267 (cw_k Bh3.2.2 kb5) rfl (by decide) rfl hl.1 rfl (Nat.le_of_ble_eq_true rfl) dX11_include_37 ⟨Nat.le_refl _, Nat.le_refl _⟩) (by decide) rfl (fun Hh6 Lh6 Bh6 => ?_)
      refine lv_aload_n hx hb dX11_include_40 rfl (lv_at hl 2 rfl) (hp_n (n := 41) rfl ?_)
      refine q_getr (κ := 12) (k := 1) (φ := 601) (pc' := 44) C Bh6 (cw_k Bh6.2.2 k0) fl_X11_16 rfl rfl rfl (cw_r Bh6.2.2 k0 rfl rfl (by decide) (by decide)) dX11_include_41 rfl (fun b7 eb7 kb7 => ?_)
      replace hf := ms_lE eb7 hf
      refine lv_aload_n hx hb dX11_include_44 rfl (lv_at hl 2 rfl) (hp_n (n := 45) rfl ?_)
      refine q_getr (κ := 12) (k := 12) (φ := 612) (pc' := 48) C Bh6 (cw_k Bh6.2.2 k0) fl_X11_62 rfl rfl rfl (cw_r Bh6.2.2 k0 rfl rfl (by decide) (by decide)) dX11_include_45 rfl (fun b8 eb8 kb8 => ?_)
      replace hf := ms_lE eb8 hf
      refine lv_aloadN hx hb dX11_include_48 (lv_at hl 1 rfl) (hp_n (n := 50) rfl ?_)
      refine lv_aload_n hx hb dX11_include_50 rfl (lv_at hl 2 rfl) (hp_n (n := 51) rfl ?_)
      refine q_getr (κ := 12) (k := 3) (φ := 603) (pc' := 54) C Bh6 (cw_k Bh6.2.2 k0) fl_X11_26 rfl rfl rfl (cw_r Bh6.2.2 k0 rfl rfl (by decide) (by decide)) dX11_include_51 rfl (fun b9 eb9 kb9 => ?_)
      replace hf := ms_lE eb9 hf
      obtain ⟨αh10, qh10, hf⟩ := ms_bE hf
      refine d_cv (pc' := 57) Bh6 (hp_runV (As := [.ref b8, va_rf none, .ref b9]) (rest := []) C Bh6 (n_X10_marksAlong n Γ l αh6 Bh6.2.2.1 b7 (cw_k Bh6.2.2 kb7) b8 (cw_k Bh6.2.2 kb8) none (fun b h => by cases h) b9 (cw_k Bh6.2.2 kb9) αh10 qh10) lb_X10_marksAlong lv_X10_marksAlong lk_X11_270 (cw_k Bh6.2.2 kb7) rfl (by decide) rfl hl.1 rfl (Nat.le_of_ble_eq_true rfl) dX11_include_54 ⟨Nat.le_refl _, Nat.le_refl _⟩) (by decide) rfl (fun Hh10 Lh10 Bh10 => ?_)
      refine lv_aload_n hx hb dX11_include_57 rfl (lv_at hl 2 rfl) (hp_n (n := 58) rfl ?_)
      refine lv_aload_n hx hb dX11_include_58 rfl (lv_at hl 2 rfl) (hp_n (n := 59) rfl ?_)
      refine q_getr (κ := 12) (k := 3) (φ := 603) (pc' := 62) C Bh10 (cw_k Bh10.2.2 k0) fl_X11_26 rfl rfl rfl (cw_r Bh10.2.2 k0 rfl rfl (by decide) (by decide)) dX11_include_59 rfl (fun b11 eb11 kb11 => ?_)
      replace hf := ms_lE eb11 hf
      refine q_geti (κ := 6) (k := 1) (φ := 301) (pc' := 65) C Bh10 (cw_k Bh10.2.2 kb11) fl_X11_132 rfl rfl rfl dX11_include_62 rfl (fun x12 ex12 => ?_)
      replace hf := ms_lE ex12 hf
      obtain ⟨rh13, αh13, qh13, hf⟩ := hq_cE hf
      refine d_ci (pc' := 68) Bh10 (hp_runV (As := [.int x12]) (rest := []) C Bh10 (n_X11_answer n Γ l αh10 Bh10.2.2.1 a0 (cw_k Bh10.2.2 k0) x12 (rh13, αh13) qh13) lb_X11_answer lv_X11_answer lk_X11_115 (cw_k Bh10.2.2 k0) rfl (by decide) rfl hl.1 rfl (Nat.le_of_ble_eq_true rfl) dX11_include_65 ⟨Nat.le_refl _, Nat.le_refl _⟩) (by decide) rfl (fun Hh13 Lh13 Bh13 => ?_)
      cases hf
      exact q_iret C Bh13 hr hlk ⟨rfl, rfl, Bh13.2.2⟩ dX11_include_68
    ·
      replace hf := ms_iF c4 hf
      refine lv_aload_n hx hb dX11_include_24 rfl (lv_at hl 2 rfl) (hp_n (n := 25) rfl ?_)
      refine lv_iload hx hb dX11_include_25 (lv_at hl 0 rfl) (hp_n (n := 27) rfl ?_)
      obtain ⟨rh14, αh14, qh14, hf⟩ := hq_cE hf
      refine d_ci (pc' := 30) Bh3 (hp_runV (As := [.int rh3]) (rest := []) C Bh3 (n_X11_refuse n Γ l α Bh3.2.2.1 a0 (cw_k Bh3.2.2 k0) rh3 (rh14, αh14) qh14) lb_X11_refuse lv_X11_refuse lk_X11_98 (cw_k Bh3.2.2 k0) rfl (by decide) rfl hl.1 rfl (Nat.le_of_ble_eq_true rfl) dX11_include_27 ⟨Nat.le_refl _, Nat.le_refl _⟩) (by decide) rfl (fun Hh14 Lh14 Bh14 => ?_)
      cases hf
      exact q_iret C Bh14 hr hlk ⟨rfl, rfl, Bh14.2.2⟩ dX11_include_30
  ·
    replace hf := hq_S hf
    have kbh2 := kh2 bh2 rfl
    refine lv_astore (lv' := [(4, .ref bh2), (0, .ref a0), (1, .int a1), (2, .int a2), (3, .int a3)]) hx hb dX11_include_8 hl (by decide) rfl (fun ls hl => hp_n (n := 10) rfl ?_)
    refine lv_aload hx hb dX11_include_10 (lv_at hl 0 rfl) (hp_n (n := 12) rfl ?_)
    refine lv_iload_n hx hb dX11_include_12 rfl (lv_at hl 3 rfl) (hp_n (n := 13) rfl ?_)
    refine lv_iload_n hx hb dX11_include_13 rfl (lv_at hl 4 rfl) (hp_n (n := 14) rfl ?_)
    obtain ⟨rh15, qh15, hf⟩ := ms_bE hf
    refine d_pi (pc' := 17) Bh2 (hp_runS (As := [va_rf (some bh2), .int a2, .int a3]) (rest := []) C Bh2 (n_X11_wrongInclusion n Γ l α Bh2.2.2.1 (some bh2) (fun b h => by cases h; exact (cw_k Bh2.2.2 kbh2)) a2 a3 rh15 qh15) lb_X11_wrongInclusion ls_X11_wrongInclusion lk_X11_264 rfl (by decide) rfl hl.1 rfl (Nat.le_of_ble_eq_true rfl) dX11_include_14 ⟨Nat.le_refl _, Nat.le_refl _⟩) rfl (fun Hh15 Lh15 Bh15 => ?_)
    refine lv_istore (lv' := [(5, .int rh15), (4, .ref bh2), (0, .ref a0), (1, .int a1), (2, .int a2), (3, .int a3)]) hx hb dX11_include_17 hl (by decide) rfl (fun ls hl => hp_n (n := 19) rfl ?_)
    refine lv_iload hx hb dX11_include_19 (lv_at hl 0 rfl) (hp_n (n := 21) rfl ?_)
    refine lv_if_eq (tgt := 31) hx hb dX11_include_21 (by decide) (fun c16 => ?_) (fun c16 => hp_n (n := 24) rfl ?_)
    ·
      replace hf := ms_iT c16 hf
      refine lv_aload_n hx hb dX11_include_31 rfl (lv_at hl 2 rfl) (hp_n (n := 32) rfl ?_)
      refine q_getr (κ := 12) (k := 12) (φ := 612) (pc' := 35) C Bh15 (cw_k Bh15.2.2 k0) fl_X11_62 rfl rfl rfl (cw_r Bh15.2.2 k0 rfl rfl (by decide) (by decide)) dX11_include_32 rfl (fun b17 eb17 kb17 => ?_)
      replace hf := ms_lE eb17 hf
      refine lv_iload_n hx hb dX11_include_35 rfl (lv_at hl 4 rfl) (hp_n (n := 36) rfl ?_)
      refine lv_iload_n hx hb dX11_include_36 rfl (lv_at hl 5 rfl) (hp_n (n := 37) rfl ?_)
      obtain ⟨αh18, qh18, hf⟩ := ms_bE hf
      refine d_cv (pc' := 40) Bh15 (hp_runV (As := [.int a2, .int a3]) (rest := []) C Bh15 (n_X8_toThing n Γ l α Bh15.2.2.1 b17 (cw_k Bh15.2.2 kb17) a2 a3 αh18 qh18) lb_X8_toThing lv_X8_toThing lk_X11_267 (cw_k Bh15.2.2 kb17) rfl (by decide) rfl hl.1 rfl (Nat.le_of_ble_eq_true rfl) dX11_include_37 ⟨Nat.le_refl _, Nat.le_refl _⟩) (by decide) rfl (fun Hh18 Lh18 Bh18 => ?_)
      refine lv_aload_n hx hb dX11_include_40 rfl (lv_at hl 2 rfl) (hp_n (n := 41) rfl ?_)
      refine q_getr (κ := 12) (k := 1) (φ := 601) (pc' := 44) C Bh18 (cw_k Bh18.2.2 k0) fl_X11_16 rfl rfl rfl (cw_r Bh18.2.2 k0 rfl rfl (by decide) (by decide)) dX11_include_41 rfl (fun b19 eb19 kb19 => ?_)
      replace hf := ms_lE eb19 hf
      refine lv_aload_n hx hb dX11_include_44 rfl (lv_at hl 2 rfl) (hp_n (n := 45) rfl ?_)
      refine q_getr (κ := 12) (k := 12) (φ := 612) (pc' := 48) C Bh18 (cw_k Bh18.2.2 k0) fl_X11_62 rfl rfl rfl (cw_r Bh18.2.2 k0 rfl rfl (by decide) (by decide)) dX11_include_45 rfl (fun b20 eb20 kb20 => ?_)
      replace hf := ms_lE eb20 hf
      refine lv_aload hx hb dX11_include_48 (lv_at hl 1 rfl) (hp_n (n := 50) rfl ?_)
      refine lv_aload_n hx hb dX11_include_50 rfl (lv_at hl 2 rfl) (hp_n (n := 51) rfl ?_)
      refine q_getr (κ := 12) (k := 3) (φ := 603) (pc' := 54) C Bh18 (cw_k Bh18.2.2 k0) fl_X11_26 rfl rfl rfl (cw_r Bh18.2.2 k0 rfl rfl (by decide) (by decide)) dX11_include_51 rfl (fun b21 eb21 kb21 => ?_)
      replace hf := ms_lE eb21 hf
      obtain ⟨αh22, qh22, hf⟩ := ms_bE hf
      refine d_cv (pc' := 57) Bh18 (hp_runV (As := [.ref b20, va_rf (some bh2), .ref b21]) (rest := []) C Bh18 (n_X10_marksAlong n Γ l αh18 Bh18.2.2.1 b19 (cw_k Bh18.2.2 kb19) b20 (cw_k Bh18.2.2 kb20) (some bh2) (fun b h => by cases h; exact (cw_k Bh18.2.2 kbh2)) b21 (cw_k Bh18.2.2 kb21) αh22 qh22) lb_X10_marksAlong lv_X10_marksAlong lk_X11_270 (cw_k Bh18.2.2 kb19) rfl (by decide) rfl hl.1 rfl (Nat.le_of_ble_eq_true rfl) dX11_include_54 ⟨Nat.le_refl _, Nat.le_refl _⟩) (by decide) rfl (fun Hh22 Lh22 Bh22 => ?_)
      refine lv_aload_n hx hb dX11_include_57 rfl (lv_at hl 2 rfl) (hp_n (n := 58) rfl ?_)
      refine lv_aload_n hx hb dX11_include_58 rfl (lv_at hl 2 rfl) (hp_n (n := 59) rfl ?_)
      refine q_getr (κ := 12) (k := 3) (φ := 603) (pc' := 62) C Bh22 (cw_k Bh22.2.2 k0) fl_X11_26 rfl rfl rfl (cw_r Bh22.2.2 k0 rfl rfl (by decide) (by decide)) dX11_include_59 rfl (fun b23 eb23 kb23 => ?_)
      replace hf := ms_lE eb23 hf
      refine q_geti (κ := 6) (k := 1) (φ := 301) (pc' := 65) C Bh22 (cw_k Bh22.2.2 kb23) fl_X11_132 rfl rfl rfl dX11_include_62 rfl (fun x24 ex24 => ?_)
      replace hf := ms_lE ex24 hf
      obtain ⟨rh25, αh25, qh25, hf⟩ := hq_cE hf
      refine d_ci (pc' := 68) Bh22 (hp_runV (As := [.int x24]) (rest := []) C Bh22 (n_X11_answer n Γ l αh22 Bh22.2.2.1 a0 (cw_k Bh22.2.2 k0) x24 (rh25, αh25) qh25) lb_X11_answer lv_X11_answer lk_X11_115 (cw_k Bh22.2.2 k0) rfl (by decide) rfl hl.1 rfl (Nat.le_of_ble_eq_true rfl) dX11_include_65 ⟨Nat.le_refl _, Nat.le_refl _⟩) (by decide) rfl (fun Hh25 Lh25 Bh25 => ?_)
      cases hf
      exact q_iret C Bh25 hr hlk ⟨rfl, rfl, Bh25.2.2⟩ dX11_include_68
    ·
      replace hf := ms_iF c16 hf
      refine lv_aload_n hx hb dX11_include_24 rfl (lv_at hl 2 rfl) (hp_n (n := 25) rfl ?_)
      refine lv_iload hx hb dX11_include_25 (lv_at hl 0 rfl) (hp_n (n := 27) rfl ?_)
      obtain ⟨rh26, αh26, qh26, hf⟩ := hq_cE hf
      refine d_ci (pc' := 30) Bh15 (hp_runV (As := [.int rh15]) (rest := []) C Bh15 (n_X11_refuse n Γ l α Bh15.2.2.1 a0 (cw_k Bh15.2.2 k0) rh15 (rh26, αh26) qh26) lb_X11_refuse lv_X11_refuse lk_X11_98 (cw_k Bh15.2.2 k0) rfl (by decide) rfl hl.1 rfl (Nat.le_of_ble_eq_true rfl) dX11_include_27 ⟨Nat.le_refl _, Nat.le_refl _⟩) (by decide) rfl (fun Hh26 Lh26 Bh26 => ?_)
      cases hf
      exact q_iret C Bh26 hr hlk ⟨rfl, rfl, Bh26.2.2⟩ dX11_include_30
def f_X11_grow (n : Nat) (α : hp_T) (a0 : Nat) (a1 : Int32) (a2 : Int32) (a3 : Int32) : Option (Int32 × hp_T) :=
  ms_l (hp_R α 601 a0) fun b1 =>
  ms_b (f_X10_logAt n α b1 a1) fun rh2 =>
  hq_m rh2 (
    ms_b (f_X11_wrongGrowth n α none a2 a3) fun rh3 =>
    if rh3 = 0 then
      ms_l (hp_R α 612 a0) fun b5 =>
      ms_b (f_X8_toGrowth n α b5 a2 a3) fun αh6 =>
      ms_l (hp_R αh6 601 a0) fun b7 =>
      ms_l (hp_R αh6 612 a0) fun b8 =>
      ms_l (hp_R αh6 603 a0) fun b9 =>
      ms_b (f_X10_marksAlong n αh6 b7 b8 none b9) fun αh10 =>
      ms_l (hp_R αh10 603 a0) fun b11 =>
      ms_l (hp_I αh10 301 b11) fun x12 =>
      hq_c (f_X11_answer n αh10 a0 x12) fun rh13 αh13 =>
      some (rh13, αh13)
    else
      hq_c (f_X11_refuse n α a0 rh3) fun rh14 αh14 =>
      some (rh14, αh14)) fun bh2 =>
  ms_b (f_X11_wrongGrowth n α (some bh2) a2 a3) fun rh15 =>
  if rh15 = 0 then
    ms_l (hp_R α 612 a0) fun b17 =>
    ms_b (f_X8_toGrowth n α b17 a2 a3) fun αh18 =>
    ms_l (hp_R αh18 601 a0) fun b19 =>
    ms_l (hp_R αh18 612 a0) fun b20 =>
    ms_l (hp_R αh18 603 a0) fun b21 =>
    ms_b (f_X10_marksAlong n αh18 b19 b20 (some bh2) b21) fun αh22 =>
    ms_l (hp_R αh22 603 a0) fun b23 =>
    ms_l (hp_I αh22 301 b23) fun x24 =>
    hq_c (f_X11_answer n αh22 a0 x24) fun rh25 αh25 =>
    some (rh25, αh25)
  else
    hq_c (f_X11_refuse n α a0 rh15) fun rh26 αh26 =>
    some (rh26, αh26)
set_option maxRecDepth 100000 in
set_option maxHeartbeats 4000000 in
theorem n_X11_grow (n : Nat) (Γ : hp_G) (l : Launch) (α : hp_T) (g : GC α) (a0 : Nat) (k0 : hp_K α a0 = 12) (a1 : Int32) (a2 : Int32) (a3 : Int32) (res : (Int32 × hp_T)) (hf : f_X11_grow n α a0 a1 a2 a3 = some res) : Met l yX11_grow (hp_ws yX11_grow cX11_grow 6 (some .int)) (hp_rm 4 0 0) (hp_Pc Γ α [.ref a0, .int a1, .int a2, .int a3]) (hp_Qi Γ (fun r β => r = res.1 ∧ β = res.2 ∧ cw w_X11_grow α β)) 0 0 (hp_A Γ) := by
  unfold f_X11_grow at hf
  refine hp_start (by decide) ?_
  intro p e s m below meth c C hr hlk B0 hnm
  have C : hp_C Γ p m c cX11_grow 6 s ([.ref a0, .int a1, .int a2, .int a3] : List Value).toArray RX11 := C
  have hx := C.1.1
  have hb := C.1.2.1
  have hown := C.1.2.2.2.1
  have hts := C.1.2.2.2.2
  have B : hp_B Γ (cw w_X11_grow) s α α s.heap [] := ⟨B0.1, B0.2.1, cw_rf g⟩
  have hl := lv_entry ([.ref a0, .int a1, .int a2, .int a3]) (n := 6) (Nat.le_of_ble_eq_true rfl)
  show W p l e (hp_rm 4 0 0) s m ([.ref a0, .int a1, .int a2, .int a3] : List Value).toArray below meth c s.heap [] 0 0 (MQ below (hp_Qi Γ (fun r β => r = res.1 ∧ β = res.2 ∧ cw w_X11_grow α β)) ([.ref a0, .int a1, .int a2, .int a3] : List Value).toArray s 0 0 (hp_A Γ)) (entryFrame m ([.ref a0, .int a1, .int a2, .int a3] : List Value).toArray 6)
  rw [lg_entry_eq]
  generalize (lg_sl ([.ref a0, .int a1, .int a2, .int a3]) ++ List.replicate (6 - (lg_sl ([.ref a0, .int a1, .int a2, .int a3])).length) Slot.unset).toArray = ls at hl ⊢
  have hl : lv_has ls 6 [(0, .ref a0), (1, .int a1), (2, .int a2), (3, .int a3)] := hl
  refine lv_aload_n hx hb dX11_grow_0 rfl (lv_at hl 0 rfl) (hp_n (n := 1) rfl ?_)
  refine q_getr (κ := 12) (k := 1) (φ := 601) (pc' := 4) C B (cw_k B.2.2 k0) fl_X11_16 rfl rfl rfl (cw_r B.2.2 k0 rfl rfl (by decide) (by decide)) dX11_grow_1 rfl (fun b1 eb1 kb1 => ?_)
  replace hf := ms_lE eb1 hf
  refine lv_iload_n hx hb dX11_grow_4 rfl (lv_at hl 1 rfl) (hp_n (n := 5) rfl ?_)
  obtain ⟨rh2, qh2, hf⟩ := ms_bE hf
  refine d_pq (pc' := 8) B (hp_runV (As := [.int a1]) (rest := []) C B (n_X10_logAt n Γ l α B.2.2.1 b1 (cw_k B.2.2 kb1) a1 rh2 qh2) lb_X10_logAt lv_X10_logAt lk_X11_163 (cw_k B.2.2 kb1) rfl (by decide) rfl hl.1 rfl (Nat.le_of_ble_eq_true rfl) dX11_grow_5 ⟨Nat.le_refl _, Nat.le_refl _⟩) rfl (fun Hh2 Lh2 Bh2 kh2 => ?_)
  rcases rh2 with _ | bh2
  ·
    replace hf := hq_N hf
    refine lv_astoreN (lv' := [(4, .null), (0, .ref a0), (1, .int a1), (2, .int a2), (3, .int a3)]) hx hb dX11_grow_8 hl (by decide) rfl (fun ls hl => hp_n (n := 10) rfl ?_)
    refine lv_aloadN hx hb dX11_grow_10 (lv_at hl 0 rfl) (hp_n (n := 12) rfl ?_)
    refine lv_iload_n hx hb dX11_grow_12 rfl (lv_at hl 3 rfl) (hp_n (n := 13) rfl ?_)
    refine lv_iload_n hx hb dX11_grow_13 rfl (lv_at hl 4 rfl) (hp_n (n := 14) rfl ?_)
    obtain ⟨rh3, qh3, hf⟩ := ms_bE hf
    refine d_pi (pc' := 17) Bh2 (hp_runS (As := [va_rf none, .int a2, .int a3]) (rest := []) C Bh2 (n_X11_wrongGrowth n Γ l α Bh2.2.2.1 none (fun b h => by cases h) a2 a3 rh3 qh3) lb_X11_wrongGrowth ls_X11_wrongGrowth lk_X11_180 rfl (by decide) rfl hl.1 rfl (Nat.le_of_ble_eq_true rfl) dX11_grow_14 ⟨Nat.le_refl _, Nat.le_refl _⟩) rfl (fun Hh3 Lh3 Bh3 => ?_)
    refine lv_istore (lv' := [(5, .int rh3), (4, .null), (0, .ref a0), (1, .int a1), (2, .int a2), (3, .int a3)]) hx hb dX11_grow_17 hl (by decide) rfl (fun ls hl => hp_n (n := 19) rfl ?_)
    refine lv_iload hx hb dX11_grow_19 (lv_at hl 0 rfl) (hp_n (n := 21) rfl ?_)
    refine lv_if_eq (tgt := 31) hx hb dX11_grow_21 (by decide) (fun c4 => ?_) (fun c4 => hp_n (n := 24) rfl ?_)
    ·
      replace hf := ms_iT c4 hf
      refine lv_aload_n hx hb dX11_grow_31 rfl (lv_at hl 2 rfl) (hp_n (n := 32) rfl ?_)
      refine q_getr (κ := 12) (k := 12) (φ := 612) (pc' := 35) C Bh3 (cw_k Bh3.2.2 k0) fl_X11_62 rfl rfl rfl (cw_r Bh3.2.2 k0 rfl rfl (by decide) (by decide)) dX11_grow_32 rfl (fun b5 eb5 kb5 => ?_)
      replace hf := ms_lE eb5 hf
      refine lv_iload_n hx hb dX11_grow_35 rfl (lv_at hl 4 rfl) (hp_n (n := 36) rfl ?_)
      refine lv_iload_n hx hb dX11_grow_36 rfl (lv_at hl 5 rfl) (hp_n (n := 37) rfl ?_)
      obtain ⟨αh6, qh6, hf⟩ := ms_bE hf
      refine d_cv (pc' := 40) Bh3 (hp_runV (As := [.int a2, .int a3]) (rest := []) C Bh3 (n_X8_toGrowth n Γ l α Bh3.2.2.1 b5 (cw_k Bh3.2.2 kb5) a2 a3 αh6 qh6) lb_X8_toGrowth lv_X8_toGrowth lk_X11_274 (cw_k Bh3.2.2 kb5) rfl (by decide) rfl hl.1 rfl (Nat.le_of_ble_eq_true rfl) dX11_grow_37 ⟨Nat.le_refl _, Nat.le_refl _⟩) (by decide) rfl (fun Hh6 Lh6 Bh6 => ?_)
      refine lv_aload_n hx hb dX11_grow_40 rfl (lv_at hl 2 rfl) (hp_n (n := 41) rfl ?_)
      refine q_getr (κ := 12) (k := 1) (φ := 601) (pc' := 44) C Bh6 (cw_k Bh6.2.2 k0) fl_X11_16 rfl rfl rfl (cw_r Bh6.2.2 k0 rfl rfl (by decide) (by decide)) dX11_grow_41 rfl (fun b7 eb7 kb7 => ?_)
      replace hf := ms_lE eb7 hf
      refine lv_aload_n hx hb dX11_grow_44 rfl (lv_at hl 2 rfl) (hp_n (n := 45) rfl ?_)
      refine q_getr (κ := 12) (k := 12) (φ := 612) (pc' := 48) C Bh6 (cw_k Bh6.2.2 k0) fl_X11_62 rfl rfl rfl (cw_r Bh6.2.2 k0 rfl rfl (by decide) (by decide)) dX11_grow_45 rfl (fun b8 eb8 kb8 => ?_)
      replace hf := ms_lE eb8 hf
      refine lv_aloadN hx hb dX11_grow_48 (lv_at hl 1 rfl) (hp_n (n := 50) rfl ?_)
      refine lv_aload_n hx hb dX11_grow_50 rfl (lv_at hl 2 rfl) (hp_n (n := 51) rfl ?_)
      refine q_getr (κ := 12) (k := 3) (φ := 603) (pc' := 54) C Bh6 (cw_k Bh6.2.2 k0) fl_X11_26 rfl rfl rfl (cw_r Bh6.2.2 k0 rfl rfl (by decide) (by decide)) dX11_grow_51 rfl (fun b9 eb9 kb9 => ?_)
      replace hf := ms_lE eb9 hf
      obtain ⟨αh10, qh10, hf⟩ := ms_bE hf
      refine d_cv (pc' := 57) Bh6 (hp_runV (As := [.ref b8, va_rf none, .ref b9]) (rest := []) C Bh6 (n_X10_marksAlong n Γ l αh6 Bh6.2.2.1 b7 (cw_k Bh6.2.2 kb7) b8 (cw_k Bh6.2.2 kb8) none (fun b h => by cases h) b9 (cw_k Bh6.2.2 kb9) αh10 qh10) lb_X10_marksAlong lv_X10_marksAlong lk_X11_270 (cw_k Bh6.2.2 kb7) rfl (by decide) rfl hl.1 rfl (Nat.le_of_ble_eq_true rfl) dX11_grow_54 ⟨Nat.le_refl _, Nat.le_refl _⟩) (by decide) rfl (fun Hh10 Lh10 Bh10 => ?_)
      refine lv_aload_n hx hb dX11_grow_57 rfl (lv_at hl 2 rfl) (hp_n (n := 58) rfl ?_)
      refine lv_aload_n hx hb dX11_grow_58 rfl (lv_at hl 2 rfl) (hp_n (n := 59) rfl ?_)
      refine q_getr (κ := 12) (k := 3) (φ := 603) (pc' := 62) C Bh10 (cw_k Bh10.2.2 k0) fl_X11_26 rfl rfl rfl (cw_r Bh10.2.2 k0 rfl rfl (by decide) (by decide)) dX11_grow_59 rfl (fun b11 eb11 kb11 => ?_)
      replace hf := ms_lE eb11 hf
      refine q_geti (κ := 6) (k := 1) (φ := 301) (pc' := 65) C Bh10 (cw_k Bh10.2.2 kb11) fl_X11_132 rfl rfl rfl dX11_grow_62 rfl (fun x12 ex12 => ?_)
      replace hf := ms_lE ex12 hf
      obtain ⟨rh13, αh13, qh13, hf⟩ := hq_cE hf
      refine d_ci (pc' := 68) Bh10 (hp_runV (As := [.int x12]) (rest := []) C Bh10 (n_X11_answer n Γ l αh10 Bh10.2.2.1 a0 (cw_k Bh10.2.2 k0) x12 (rh13, αh13) qh13) lb_X11_answer lv_X11_answer lk_X11_115 (cw_k Bh10.2.2 k0) rfl (by decide) rfl hl.1 rfl (Nat.le_of_ble_eq_true rfl) dX11_grow_65 ⟨Nat.le_refl _, Nat.le_refl _⟩) (by decide) rfl (fun Hh13 Lh13 Bh13 => ?_)
      cases hf
      exact q_iret C Bh13 hr hlk ⟨rfl, rfl, Bh13.2.2⟩ dX11_grow_68
    ·
      replace hf := ms_iF c4 hf
      refine lv_aload_n hx hb dX11_grow_24 rfl (lv_at hl 2 rfl) (hp_n (n := 25) rfl ?_)
      refine lv_iload hx hb dX11_grow_25 (lv_at hl 0 rfl) (hp_n (n := 27) rfl ?_)
      obtain ⟨rh14, αh14, qh14, hf⟩ := hq_cE hf
      refine d_ci (pc' := 30) Bh3 (hp_runV (As := [.int rh3]) (rest := []) C Bh3 (n_X11_refuse n Γ l α Bh3.2.2.1 a0 (cw_k Bh3.2.2 k0) rh3 (rh14, αh14) qh14) lb_X11_refuse lv_X11_refuse lk_X11_98 (cw_k Bh3.2.2 k0) rfl (by decide) rfl hl.1 rfl (Nat.le_of_ble_eq_true rfl) dX11_grow_27 ⟨Nat.le_refl _, Nat.le_refl _⟩) (by decide) rfl (fun Hh14 Lh14 Bh14 => ?_)
      cases hf
      exact q_iret C Bh14 hr hlk ⟨rfl, rfl, Bh14.2.2⟩ dX11_grow_30
  ·
    replace hf := hq_S hf
    have kbh2 := kh2 bh2 rfl
    refine lv_astore (lv' := [(4, .ref bh2), (0, .ref a0), (1, .int a1), (2, .int a2), (3, .int a3)]) hx hb dX11_grow_8 hl (by decide) rfl (fun ls hl => hp_n (n := 10) rfl ?_)
    refine lv_aload hx hb dX11_grow_10 (lv_at hl 0 rfl) (hp_n (n := 12) rfl ?_)
    refine lv_iload_n hx hb dX11_grow_12 rfl (lv_at hl 3 rfl) (hp_n (n := 13) rfl ?_)
    refine lv_iload_n hx hb dX11_grow_13 rfl (lv_at hl 4 rfl) (hp_n (n := 14) rfl ?_)
    obtain ⟨rh15, qh15, hf⟩ := ms_bE hf
    refine d_pi (pc' := 17) Bh2 (hp_runS (As := [va_rf (some bh2), .int a2, .int a3]) (rest := []) C Bh2 (n_X11_wrongGrowth n Γ l α Bh2.2.2.1 (some bh2) (fun b h => by cases h; exact (cw_k Bh2.2.2 kbh2)) a2 a3 rh15 qh15) lb_X11_wrongGrowth ls_X11_wrongGrowth lk_X11_180 rfl (by decide) rfl hl.1 rfl (Nat.le_of_ble_eq_true rfl) dX11_grow_14 ⟨Nat.le_refl _, Nat.le_refl _⟩) rfl (fun Hh15 Lh15 Bh15 => ?_)
    refine lv_istore (lv' := [(5, .int rh15), (4, .ref bh2), (0, .ref a0), (1, .int a1), (2, .int a2), (3, .int a3)]) hx hb dX11_grow_17 hl (by decide) rfl (fun ls hl => hp_n (n := 19) rfl ?_)
    refine lv_iload hx hb dX11_grow_19 (lv_at hl 0 rfl) (hp_n (n := 21) rfl ?_)
    refine lv_if_eq (tgt := 31) hx hb dX11_grow_21 (by decide) (fun c16 => ?_) (fun c16 => hp_n (n := 24) rfl ?_)
    ·
      replace hf := ms_iT c16 hf
      refine lv_aload_n hx hb dX11_grow_31 rfl (lv_at hl 2 rfl) (hp_n (n := 32) rfl ?_)
      refine q_getr (κ := 12) (k := 12) (φ := 612) (pc' := 35) C Bh15 (cw_k Bh15.2.2 k0) fl_X11_62 rfl rfl rfl (cw_r Bh15.2.2 k0 rfl rfl (by decide) (by decide)) dX11_grow_32 rfl (fun b17 eb17 kb17 => ?_)
      replace hf := ms_lE eb17 hf
      refine lv_iload_n hx hb dX11_grow_35 rfl (lv_at hl 4 rfl) (hp_n (n := 36) rfl ?_)
      refine lv_iload_n hx hb dX11_grow_36 rfl (lv_at hl 5 rfl) (hp_n (n := 37) rfl ?_)
      obtain ⟨αh18, qh18, hf⟩ := ms_bE hf
      refine d_cv (pc' := 40) Bh15 (hp_runV (As := [.int a2, .int a3]) (rest := []) C Bh15 (n_X8_toGrowth n Γ l α Bh15.2.2.1 b17 (cw_k Bh15.2.2 kb17) a2 a3 αh18 qh18) lb_X8_toGrowth lv_X8_toGrowth lk_X11_274 (cw_k Bh15.2.2 kb17) rfl (by decide) rfl hl.1 rfl (Nat.le_of_ble_eq_true rfl) dX11_grow_37 ⟨Nat.le_refl _, Nat.le_refl _⟩) (by decide) rfl (fun Hh18 Lh18 Bh18 => ?_)
      refine lv_aload_n hx hb dX11_grow_40 rfl (lv_at hl 2 rfl) (hp_n (n := 41) rfl ?_)
      refine q_getr (κ := 12) (k := 1) (φ := 601) (pc' := 44) C Bh18 (cw_k Bh18.2.2 k0) fl_X11_16 rfl rfl rfl (cw_r Bh18.2.2 k0 rfl rfl (by decide) (by decide)) dX11_grow_41 rfl (fun b19 eb19 kb19 => ?_)
      replace hf := ms_lE eb19 hf
      refine lv_aload_n hx hb dX11_grow_44 rfl (lv_at hl 2 rfl) (hp_n (n := 45) rfl ?_)
      refine q_getr (κ := 12) (k := 12) (φ := 612) (pc' := 48) C Bh18 (cw_k Bh18.2.2 k0) fl_X11_62 rfl rfl rfl (cw_r Bh18.2.2 k0 rfl rfl (by decide) (by decide)) dX11_grow_45 rfl (fun b20 eb20 kb20 => ?_)
      replace hf := ms_lE eb20 hf
      refine lv_aload hx hb dX11_grow_48 (lv_at hl 1 rfl) (hp_n (n := 50) rfl ?_)
      refine lv_aload_n hx hb dX11_grow_50 rfl (lv_at hl 2 rfl) (hp_n (n := 51) rfl ?_)
      refine q_getr (κ := 12) (k := 3) (φ := 603) (pc' := 54) C Bh18 (cw_k Bh18.2.2 k0) fl_X11_26 rfl rfl rfl (cw_r Bh18.2.2 k0 rfl rfl (by decide) (by decide)) dX11_grow_51 rfl (fun b21 eb21 kb21 => ?_)
      replace hf := ms_lE eb21 hf
      obtain ⟨αh22, qh22, hf⟩ := ms_bE hf
      refine d_cv (pc' := 57) Bh18 (hp_runV (As := [.ref b20, va_rf (some bh2), .ref b21]) (rest := []) C Bh18 (n_X10_marksAlong n Γ l αh18 Bh18.2.2.1 b19 (cw_k Bh18.2.2 kb19) b20 (cw_k Bh18.2.2 kb20) (some bh2) (fun b h => by cases h; exact (cw_k Bh18.2.2 kbh2)) b21 (cw_k Bh18.2.2 kb21) αh22 qh22) lb_X10_marksAlong lv_X10_marksAlong lk_X11_270 (cw_k Bh18.2.2 kb19) rfl (by decide) rfl hl.1 rfl (Nat.le_of_ble_eq_true rfl) dX11_grow_54 ⟨Nat.le_refl _, Nat.le_refl _⟩) (by decide) rfl (fun Hh22 Lh22 Bh22 => ?_)
      refine lv_aload_n hx hb dX11_grow_57 rfl (lv_at hl 2 rfl) (hp_n (n := 58) rfl ?_)
      refine lv_aload_n hx hb dX11_grow_58 rfl (lv_at hl 2 rfl) (hp_n (n := 59) rfl ?_)
      refine q_getr (κ := 12) (k := 3) (φ := 603) (pc' := 62) C Bh22 (cw_k Bh22.2.2 k0) fl_X11_26 rfl rfl rfl (cw_r Bh22.2.2 k0 rfl rfl (by decide) (by decide)) dX11_grow_59 rfl (fun b23 eb23 kb23 => ?_)
      replace hf := ms_lE eb23 hf
      refine q_geti (κ := 6) (k := 1) (φ := 301) (pc' := 65) C Bh22 (cw_k Bh22.2.2 kb23) fl_X11_132 rfl rfl rfl dX11_grow_62 rfl (fun x24 ex24 => ?_)
      replace hf := ms_lE ex24 hf
      obtain ⟨rh25, αh25, qh25, hf⟩ := hq_cE hf
      refine d_ci (pc' := 68) Bh22 (hp_runV (As := [.int x24]) (rest := []) C Bh22 (n_X11_answer n Γ l αh22 Bh22.2.2.1 a0 (cw_k Bh22.2.2 k0) x24 (rh25, αh25) qh25) lb_X11_answer lv_X11_answer lk_X11_115 (cw_k Bh22.2.2 k0) rfl (by decide) rfl hl.1 rfl (Nat.le_of_ble_eq_true rfl) dX11_grow_65 ⟨Nat.le_refl _, Nat.le_refl _⟩) (by decide) rfl (fun Hh25 Lh25 Bh25 => ?_)
      cases hf
      exact q_iret C Bh25 hr hlk ⟨rfl, rfl, Bh25.2.2⟩ dX11_grow_68
    ·
      replace hf := ms_iF c16 hf
      refine lv_aload_n hx hb dX11_grow_24 rfl (lv_at hl 2 rfl) (hp_n (n := 25) rfl ?_)
      refine lv_iload hx hb dX11_grow_25 (lv_at hl 0 rfl) (hp_n (n := 27) rfl ?_)
      obtain ⟨rh26, αh26, qh26, hf⟩ := hq_cE hf
      refine d_ci (pc' := 30) Bh15 (hp_runV (As := [.int rh15]) (rest := []) C Bh15 (n_X11_refuse n Γ l α Bh15.2.2.1 a0 (cw_k Bh15.2.2 k0) rh15 (rh26, αh26) qh26) lb_X11_refuse lv_X11_refuse lk_X11_98 (cw_k Bh15.2.2 k0) rfl (by decide) rfl hl.1 rfl (Nat.le_of_ble_eq_true rfl) dX11_grow_27 ⟨Nat.le_refl _, Nat.le_refl _⟩) (by decide) rfl (fun Hh26 Lh26 Bh26 => ?_)
      cases hf
      exact q_iret C Bh26 hr hlk ⟨rfl, rfl, Bh26.2.2⟩ dX11_grow_30
def f_X11_peaks (n : Nat) (α : hp_T) (a0 : Nat) (a1 : Int32) (a2 : Int32) : Option (Int32 × hp_T) :=
  ms_l (hp_R α 601 a0) fun b1 =>
  ms_b (f_X10_logAt n α b1 a1) fun rh2 =>
  hq_m rh2 (
    ms_b (f_X11_wrongGrowth n α none (0 : Int32) a2) fun rh3 =>
    if rh3 = 0 then
      ms_l (hp_R α 601 a0) fun b5 =>
      ms_l (hp_R α 603 a0) fun b6 =>
      ms_b (f_X10_peaksOf n α b5 none a2 b6) fun αh7 =>
      ms_l (hp_R αh7 603 a0) fun b8 =>
      ms_l (hp_I αh7 301 b8) fun x9 =>
      hq_c (f_X11_answer n αh7 a0 x9) fun rh10 αh10 =>
      some (rh10, αh10)
    else
      hq_c (f_X11_refuse n α a0 rh3) fun rh11 αh11 =>
      some (rh11, αh11)) fun bh2 =>
  ms_b (f_X11_wrongGrowth n α (some bh2) (0 : Int32) a2) fun rh12 =>
  if rh12 = 0 then
    ms_l (hp_R α 601 a0) fun b14 =>
    ms_l (hp_R α 603 a0) fun b15 =>
    ms_b (f_X10_peaksOf n α b14 (some bh2) a2 b15) fun αh16 =>
    ms_l (hp_R αh16 603 a0) fun b17 =>
    ms_l (hp_I αh16 301 b17) fun x18 =>
    hq_c (f_X11_answer n αh16 a0 x18) fun rh19 αh19 =>
    some (rh19, αh19)
  else
    hq_c (f_X11_refuse n α a0 rh12) fun rh20 αh20 =>
    some (rh20, αh20)
set_option maxRecDepth 100000 in
set_option maxHeartbeats 4000000 in
theorem n_X11_peaks (n : Nat) (Γ : hp_G) (l : Launch) (α : hp_T) (g : GC α) (a0 : Nat) (k0 : hp_K α a0 = 12) (a1 : Int32) (a2 : Int32) (res : (Int32 × hp_T)) (hf : f_X11_peaks n α a0 a1 a2 = some res) : Met l yX11_peaks (hp_ws yX11_peaks cX11_peaks 5 (some .int)) (hp_rm 3 0 0) (hp_Pc Γ α [.ref a0, .int a1, .int a2]) (hp_Qi Γ (fun r β => r = res.1 ∧ β = res.2 ∧ cw w_X11_peaks α β)) 0 0 (hp_A Γ) := by
  unfold f_X11_peaks at hf
  refine hp_start (by decide) ?_
  intro p e s m below meth c C hr hlk B0 hnm
  have C : hp_C Γ p m c cX11_peaks 5 s ([.ref a0, .int a1, .int a2] : List Value).toArray RX11 := C
  have hx := C.1.1
  have hb := C.1.2.1
  have hown := C.1.2.2.2.1
  have hts := C.1.2.2.2.2
  have B : hp_B Γ (cw w_X11_peaks) s α α s.heap [] := ⟨B0.1, B0.2.1, cw_rf g⟩
  have hl := lv_entry ([.ref a0, .int a1, .int a2]) (n := 5) (Nat.le_of_ble_eq_true rfl)
  show W p l e (hp_rm 3 0 0) s m ([.ref a0, .int a1, .int a2] : List Value).toArray below meth c s.heap [] 0 0 (MQ below (hp_Qi Γ (fun r β => r = res.1 ∧ β = res.2 ∧ cw w_X11_peaks α β)) ([.ref a0, .int a1, .int a2] : List Value).toArray s 0 0 (hp_A Γ)) (entryFrame m ([.ref a0, .int a1, .int a2] : List Value).toArray 5)
  rw [lg_entry_eq]
  generalize (lg_sl ([.ref a0, .int a1, .int a2]) ++ List.replicate (5 - (lg_sl ([.ref a0, .int a1, .int a2])).length) Slot.unset).toArray = ls at hl ⊢
  have hl : lv_has ls 5 [(0, .ref a0), (1, .int a1), (2, .int a2)] := hl
  refine lv_aload_n hx hb dX11_peaks_0 rfl (lv_at hl 0 rfl) (hp_n (n := 1) rfl ?_)
  refine q_getr (κ := 12) (k := 1) (φ := 601) (pc' := 4) C B (cw_k B.2.2 k0) fl_X11_16 rfl rfl rfl (cw_r B.2.2 k0 rfl rfl (by decide) (by decide)) dX11_peaks_1 rfl (fun b1 eb1 kb1 => ?_)
  replace hf := ms_lE eb1 hf
  refine lv_iload_n hx hb dX11_peaks_4 rfl (lv_at hl 1 rfl) (hp_n (n := 5) rfl ?_)
  obtain ⟨rh2, qh2, hf⟩ := ms_bE hf
  refine d_pq (pc' := 8) B (hp_runV (As := [.int a1]) (rest := []) C B (n_X10_logAt n Γ l α B.2.2.1 b1 (cw_k B.2.2 kb1) a1 rh2 qh2) lb_X10_logAt lv_X10_logAt lk_X11_163 (cw_k B.2.2 kb1) rfl (by decide) rfl hl.1 rfl (Nat.le_of_ble_eq_true rfl) dX11_peaks_5 ⟨Nat.le_refl _, Nat.le_refl _⟩) rfl (fun Hh2 Lh2 Bh2 kh2 => ?_)
  rcases rh2 with _ | bh2
  ·
    replace hf := hq_N hf
    refine lv_astore_nN (lv' := [(3, .null), (0, .ref a0), (1, .int a1), (2, .int a2)]) hx hb dX11_peaks_8 rfl hl (by decide) rfl (fun ls hl => hp_n (n := 9) rfl ?_)
    refine lv_aload_nN hx hb dX11_peaks_9 rfl (lv_at hl 0 rfl) (hp_n (n := 10) rfl ?_)
    refine lv_iconst (v := 0) hx hb dX11_peaks_10 (by decide) (hp_n (n := 11) rfl ?_)
    refine lv_iload_n hx hb dX11_peaks_11 rfl (lv_at hl 3 rfl) (hp_n (n := 12) rfl ?_)
    obtain ⟨rh3, qh3, hf⟩ := ms_bE hf
    refine d_pi (pc' := 15) Bh2 (hp_runS (As := [va_rf none, .int (0 : Int32), .int a2]) (rest := []) C Bh2 (n_X11_wrongGrowth n Γ l α Bh2.2.2.1 none (fun b h => by cases h) (0 : Int32) a2 rh3 qh3) lb_X11_wrongGrowth ls_X11_wrongGrowth lk_X11_180 rfl (by decide) rfl hl.1 rfl (Nat.le_of_ble_eq_true rfl) dX11_peaks_12 ⟨Nat.le_refl _, Nat.le_refl _⟩) rfl (fun Hh3 Lh3 Bh3 => ?_)
    refine lv_istore (lv' := [(4, .int rh3), (3, .null), (0, .ref a0), (1, .int a1), (2, .int a2)]) hx hb dX11_peaks_15 hl (by decide) rfl (fun ls hl => hp_n (n := 17) rfl ?_)
    refine lv_iload hx hb dX11_peaks_17 (lv_at hl 0 rfl) (hp_n (n := 19) rfl ?_)
    refine lv_if_eq (tgt := 29) hx hb dX11_peaks_19 (by decide) (fun c4 => ?_) (fun c4 => hp_n (n := 22) rfl ?_)
    ·
      replace hf := ms_iT c4 hf
      refine lv_aload_n hx hb dX11_peaks_29 rfl (lv_at hl 2 rfl) (hp_n (n := 30) rfl ?_)
      refine q_getr (κ := 12) (k := 1) (φ := 601) (pc' := 33) C Bh3 (cw_k Bh3.2.2 k0) fl_X11_16 rfl rfl rfl (cw_r Bh3.2.2 k0 rfl rfl (by decide) (by decide)) dX11_peaks_30 rfl (fun b5 eb5 kb5 => ?_)
      replace hf := ms_lE eb5 hf
      refine lv_aload_nN hx hb dX11_peaks_33 rfl (lv_at hl 1 rfl) (hp_n (n := 34) rfl ?_)
      refine lv_iload_n hx hb dX11_peaks_34 rfl (lv_at hl 4 rfl) (hp_n (n := 35) rfl ?_)
      refine lv_aload_n hx hb dX11_peaks_35 rfl (lv_at hl 2 rfl) (hp_n (n := 36) rfl ?_)
      refine q_getr (κ := 12) (k := 3) (φ := 603) (pc' := 39) C Bh3 (cw_k Bh3.2.2 k0) fl_X11_26 rfl rfl rfl (cw_r Bh3.2.2 k0 rfl rfl (by decide) (by decide)) dX11_peaks_36 rfl (fun b6 eb6 kb6 => ?_)
      replace hf := ms_lE eb6 hf
      obtain ⟨αh7, qh7, hf⟩ := ms_bE hf
      refine d_cv (pc' := 42) Bh3 (hp_runV (As := [va_rf none, .int a2, .ref b6]) (rest := []) C Bh3 (n_X10_peaksOf n Γ l α Bh3.2.2.1 b5 (cw_k Bh3.2.2 kb5) none (fun b h => by cases h) a2 b6 (cw_k Bh3.2.2 kb6) αh7 qh7) lb_X10_peaksOf lv_X10_peaksOf lk_X11_287 (cw_k Bh3.2.2 kb5) rfl (by decide) rfl hl.1 rfl (Nat.le_of_ble_eq_true rfl) dX11_peaks_39 ⟨Nat.le_refl _, Nat.le_refl _⟩) (by decide) rfl (fun Hh7 Lh7 Bh7 => ?_)
      refine lv_aload_n hx hb dX11_peaks_42 rfl (lv_at hl 2 rfl) (hp_n (n := 43) rfl ?_)
      refine lv_aload_n hx hb dX11_peaks_43 rfl (lv_at hl 2 rfl) (hp_n (n := 44) rfl ?_)
      refine q_getr (κ := 12) (k := 3) (φ := 603) (pc' := 47) C Bh7 (cw_k Bh7.2.2 k0) fl_X11_26 rfl rfl rfl (cw_r Bh7.2.2 k0 rfl rfl (by decide) (by decide)) dX11_peaks_44 rfl (fun b8 eb8 kb8 => ?_)
      replace hf := ms_lE eb8 hf
      refine q_geti (κ := 6) (k := 1) (φ := 301) (pc' := 50) C Bh7 (cw_k Bh7.2.2 kb8) fl_X11_132 rfl rfl rfl dX11_peaks_47 rfl (fun x9 ex9 => ?_)
      replace hf := ms_lE ex9 hf
      obtain ⟨rh10, αh10, qh10, hf⟩ := hq_cE hf
      refine d_ci (pc' := 53) Bh7 (hp_runV (As := [.int x9]) (rest := []) C Bh7 (n_X11_answer n Γ l αh7 Bh7.2.2.1 a0 (cw_k Bh7.2.2 k0) x9 (rh10, αh10) qh10) lb_X11_answer lv_X11_answer lk_X11_115 (cw_k Bh7.2.2 k0) rfl (by decide) rfl hl.1 rfl (Nat.le_of_ble_eq_true rfl) dX11_peaks_50 ⟨Nat.le_refl _, Nat.le_refl _⟩) (by decide) rfl (fun Hh10 Lh10 Bh10 => ?_)
      cases hf
      exact q_iret C Bh10 hr hlk ⟨rfl, rfl, Bh10.2.2⟩ dX11_peaks_53
    ·
      replace hf := ms_iF c4 hf
      refine lv_aload_n hx hb dX11_peaks_22 rfl (lv_at hl 2 rfl) (hp_n (n := 23) rfl ?_)
      refine lv_iload hx hb dX11_peaks_23 (lv_at hl 0 rfl) (hp_n (n := 25) rfl ?_)
      obtain ⟨rh11, αh11, qh11, hf⟩ := hq_cE hf
      refine d_ci (pc' := 28) Bh3 (hp_runV (As := [.int rh3]) (rest := []) C Bh3 (n_X11_refuse n Γ l α Bh3.2.2.1 a0 (cw_k Bh3.2.2 k0) rh3 (rh11, αh11) qh11) lb_X11_refuse lv_X11_refuse lk_X11_98 (cw_k Bh3.2.2 k0) rfl (by decide) rfl hl.1 rfl (Nat.le_of_ble_eq_true rfl) dX11_peaks_25 ⟨Nat.le_refl _, Nat.le_refl _⟩) (by decide) rfl (fun Hh11 Lh11 Bh11 => ?_)
      cases hf
      exact q_iret C Bh11 hr hlk ⟨rfl, rfl, Bh11.2.2⟩ dX11_peaks_28
  ·
    replace hf := hq_S hf
    have kbh2 := kh2 bh2 rfl
    refine lv_astore_n (lv' := [(3, .ref bh2), (0, .ref a0), (1, .int a1), (2, .int a2)]) hx hb dX11_peaks_8 rfl hl (by decide) rfl (fun ls hl => hp_n (n := 9) rfl ?_)
    refine lv_aload_n hx hb dX11_peaks_9 rfl (lv_at hl 0 rfl) (hp_n (n := 10) rfl ?_)
    refine lv_iconst (v := 0) hx hb dX11_peaks_10 (by decide) (hp_n (n := 11) rfl ?_)
    refine lv_iload_n hx hb dX11_peaks_11 rfl (lv_at hl 3 rfl) (hp_n (n := 12) rfl ?_)
    obtain ⟨rh12, qh12, hf⟩ := ms_bE hf
    refine d_pi (pc' := 15) Bh2 (hp_runS (As := [va_rf (some bh2), .int (0 : Int32), .int a2]) (rest := []) C Bh2 (n_X11_wrongGrowth n Γ l α Bh2.2.2.1 (some bh2) (fun b h => by cases h; exact (cw_k Bh2.2.2 kbh2)) (0 : Int32) a2 rh12 qh12) lb_X11_wrongGrowth ls_X11_wrongGrowth lk_X11_180 rfl (by decide) rfl hl.1 rfl (Nat.le_of_ble_eq_true rfl) dX11_peaks_12 ⟨Nat.le_refl _, Nat.le_refl _⟩) rfl (fun Hh12 Lh12 Bh12 => ?_)
    refine lv_istore (lv' := [(4, .int rh12), (3, .ref bh2), (0, .ref a0), (1, .int a1), (2, .int a2)]) hx hb dX11_peaks_15 hl (by decide) rfl (fun ls hl => hp_n (n := 17) rfl ?_)
    refine lv_iload hx hb dX11_peaks_17 (lv_at hl 0 rfl) (hp_n (n := 19) rfl ?_)
    refine lv_if_eq (tgt := 29) hx hb dX11_peaks_19 (by decide) (fun c13 => ?_) (fun c13 => hp_n (n := 22) rfl ?_)
    ·
      replace hf := ms_iT c13 hf
      refine lv_aload_n hx hb dX11_peaks_29 rfl (lv_at hl 2 rfl) (hp_n (n := 30) rfl ?_)
      refine q_getr (κ := 12) (k := 1) (φ := 601) (pc' := 33) C Bh12 (cw_k Bh12.2.2 k0) fl_X11_16 rfl rfl rfl (cw_r Bh12.2.2 k0 rfl rfl (by decide) (by decide)) dX11_peaks_30 rfl (fun b14 eb14 kb14 => ?_)
      replace hf := ms_lE eb14 hf
      refine lv_aload_n hx hb dX11_peaks_33 rfl (lv_at hl 1 rfl) (hp_n (n := 34) rfl ?_)
      refine lv_iload_n hx hb dX11_peaks_34 rfl (lv_at hl 4 rfl) (hp_n (n := 35) rfl ?_)
      refine lv_aload_n hx hb dX11_peaks_35 rfl (lv_at hl 2 rfl) (hp_n (n := 36) rfl ?_)
      refine q_getr (κ := 12) (k := 3) (φ := 603) (pc' := 39) C Bh12 (cw_k Bh12.2.2 k0) fl_X11_26 rfl rfl rfl (cw_r Bh12.2.2 k0 rfl rfl (by decide) (by decide)) dX11_peaks_36 rfl (fun b15 eb15 kb15 => ?_)
      replace hf := ms_lE eb15 hf
      obtain ⟨αh16, qh16, hf⟩ := ms_bE hf
      refine d_cv (pc' := 42) Bh12 (hp_runV (As := [va_rf (some bh2), .int a2, .ref b15]) (rest := []) C Bh12 (n_X10_peaksOf n Γ l α Bh12.2.2.1 b14 (cw_k Bh12.2.2 kb14) (some bh2) (fun b h => by cases h; exact (cw_k Bh12.2.2 kbh2)) a2 b15 (cw_k Bh12.2.2 kb15) αh16 qh16) lb_X10_peaksOf lv_X10_peaksOf lk_X11_287 (cw_k Bh12.2.2 kb14) rfl (by decide) rfl hl.1 rfl (Nat.le_of_ble_eq_true rfl) dX11_peaks_39 ⟨Nat.le_refl _, Nat.le_refl _⟩) (by decide) rfl (fun Hh16 Lh16 Bh16 => ?_)
      refine lv_aload_n hx hb dX11_peaks_42 rfl (lv_at hl 2 rfl) (hp_n (n := 43) rfl ?_)
      refine lv_aload_n hx hb dX11_peaks_43 rfl (lv_at hl 2 rfl) (hp_n (n := 44) rfl ?_)
      refine q_getr (κ := 12) (k := 3) (φ := 603) (pc' := 47) C Bh16 (cw_k Bh16.2.2 k0) fl_X11_26 rfl rfl rfl (cw_r Bh16.2.2 k0 rfl rfl (by decide) (by decide)) dX11_peaks_44 rfl (fun b17 eb17 kb17 => ?_)
      replace hf := ms_lE eb17 hf
      refine q_geti (κ := 6) (k := 1) (φ := 301) (pc' := 50) C Bh16 (cw_k Bh16.2.2 kb17) fl_X11_132 rfl rfl rfl dX11_peaks_47 rfl (fun x18 ex18 => ?_)
      replace hf := ms_lE ex18 hf
      obtain ⟨rh19, αh19, qh19, hf⟩ := hq_cE hf
      refine d_ci (pc' := 53) Bh16 (hp_runV (As := [.int x18]) (rest := []) C Bh16 (n_X11_answer n Γ l αh16 Bh16.2.2.1 a0 (cw_k Bh16.2.2 k0) x18 (rh19, αh19) qh19) lb_X11_answer lv_X11_answer lk_X11_115 (cw_k Bh16.2.2 k0) rfl (by decide) rfl hl.1 rfl (Nat.le_of_ble_eq_true rfl) dX11_peaks_50 ⟨Nat.le_refl _, Nat.le_refl _⟩) (by decide) rfl (fun Hh19 Lh19 Bh19 => ?_)
      cases hf
      exact q_iret C Bh19 hr hlk ⟨rfl, rfl, Bh19.2.2⟩ dX11_peaks_53
    ·
      replace hf := ms_iF c13 hf
      refine lv_aload_n hx hb dX11_peaks_22 rfl (lv_at hl 2 rfl) (hp_n (n := 23) rfl ?_)
      refine lv_iload hx hb dX11_peaks_23 (lv_at hl 0 rfl) (hp_n (n := 25) rfl ?_)
      obtain ⟨rh20, αh20, qh20, hf⟩ := hq_cE hf
      refine d_ci (pc' := 28) Bh12 (hp_runV (As := [.int rh12]) (rest := []) C Bh12 (n_X11_refuse n Γ l α Bh12.2.2.1 a0 (cw_k Bh12.2.2 k0) rh12 (rh20, αh20) qh20) lb_X11_refuse lv_X11_refuse lk_X11_98 (cw_k Bh12.2.2 k0) rfl (by decide) rfl hl.1 rfl (Nat.le_of_ble_eq_true rfl) dX11_peaks_25 ⟨Nat.le_refl _, Nat.le_refl _⟩) (by decide) rfl (fun Hh20 Lh20 Bh20 => ?_)
      cases hf
      exact q_iret C Bh20 hr hlk ⟨rfl, rfl, Bh20.2.2⟩ dX11_peaks_28
def f_X5_change (n : Nat) (α : hp_T) (a0 : Nat) (a1 : Int32) (a2 : Int32) : Option hp_T :=
  if a1 < 0 then
    some α
  else
    ms_l (hp_I α 301 a0) fun x2 =>
    if x2 ≤ a1 then
      some α
    else
      ms_l (hp_R α 300 a0) fun b4 =>
      if (64 : Int32) ≤ a1 then
        some α
      else
        ms_l (hp_R α 300 a0) fun b6 =>
        ms_g a1 64 <|
        ms_l (hp_sE α 20 b6 (a1).toNatClampNeg a2) fun αh8 =>
        some αh8
set_option maxRecDepth 100000 in
set_option maxHeartbeats 4000000 in
theorem n_X5_change (n : Nat) (Γ : hp_G) (l : Launch) (α : hp_T) (g : GC α) (a0 : Nat) (k0 : hp_K α a0 = 6) (a1 : Int32) (a2 : Int32) (res : hp_T) (hf : f_X5_change n α a0 a1 a2 = some res) : Met l yX5_change (hp_ws yX5_change cX5_change 3 none) (hp_rm 0 0 0) (hp_Pc Γ α [.ref a0, .int a1, .int a2]) (hp_Qv Γ (fun β => β = res ∧ cw w_X5_change α β)) 0 0 (hp_A Γ) := by
  unfold f_X5_change at hf
  refine hp_start (by decide) ?_
  intro p e s m below meth c C hr hlk B0 hnm
  have C : hp_C Γ p m c cX5_change 3 s ([.ref a0, .int a1, .int a2] : List Value).toArray RX5 := C
  have hx := C.1.1
  have hb := C.1.2.1
  have hown := C.1.2.2.2.1
  have hts := C.1.2.2.2.2
  have B : hp_B Γ (cw w_X5_change) s α α s.heap [] := ⟨B0.1, B0.2.1, cw_rf g⟩
  have hl := lv_entry ([.ref a0, .int a1, .int a2]) (n := 3) (Nat.le_of_ble_eq_true rfl)
  show W p l e (hp_rm 0 0 0) s m ([.ref a0, .int a1, .int a2] : List Value).toArray below meth c s.heap [] 0 0 (MQ below (hp_Qv Γ (fun β => β = res ∧ cw w_X5_change α β)) ([.ref a0, .int a1, .int a2] : List Value).toArray s 0 0 (hp_A Γ)) (entryFrame m ([.ref a0, .int a1, .int a2] : List Value).toArray 3)
  rw [lg_entry_eq]
  generalize (lg_sl ([.ref a0, .int a1, .int a2]) ++ List.replicate (3 - (lg_sl ([.ref a0, .int a1, .int a2])).length) Slot.unset).toArray = ls at hl ⊢
  have hl : lv_has ls 3 [(0, .ref a0), (1, .int a1), (2, .int a2)] := hl
  refine lv_iload_n hx hb dX5_change_0 rfl (lv_at hl 1 rfl) (hp_n (n := 1) rfl ?_)
  refine lv_if_lt (tgt := 28) hx hb dX5_change_1 (by decide) (fun c1 => ?_) (fun c1 => hp_n (n := 4) rfl ?_)
  ·
    replace hf := ms_iT c1 hf
    cases hf
    exact q_vret C B hr hlk ⟨rfl, B.2.2⟩ dX5_change_28
  ·
    replace hf := ms_iF c1 hf
    refine lv_iload_n hx hb dX5_change_4 rfl (lv_at hl 1 rfl) (hp_n (n := 5) rfl ?_)
    refine lv_aload_n hx hb dX5_change_5 rfl (lv_at hl 0 rfl) (hp_n (n := 6) rfl ?_)
    refine q_geti (κ := 6) (k := 1) (φ := 301) (pc' := 9) C B (cw_k B.2.2 k0) fl_X5_15 rfl rfl rfl dX5_change_6 rfl (fun x2 ex2 => ?_)
    replace hf := ms_lE ex2 hf
    refine lv_icmp_ge (tgt := 28) hx hb dX5_change_9 (by decide) (fun c3 => ?_) (fun c3 => hp_n (n := 12) rfl ?_)
    ·
      replace hf := ms_iT c3 hf
      cases hf
      exact q_vret C B hr hlk ⟨rfl, B.2.2⟩ dX5_change_28
    ·
      replace hf := ms_iF c3 hf
      refine lv_iload_n hx hb dX5_change_12 rfl (lv_at hl 1 rfl) (hp_n (n := 13) rfl ?_)
      refine lv_aload_n hx hb dX5_change_13 rfl (lv_at hl 0 rfl) (hp_n (n := 14) rfl ?_)
      refine q_getr (κ := 6) (k := 0) (φ := 300) (pc' := 17) C B (cw_k B.2.2 k0) fl_X5_9 rfl rfl rfl (cw_r B.2.2 k0 rfl rfl (by decide) (by decide)) dX5_change_14 rfl (fun b4 eb4 kb4 => ?_)
      replace hf := ms_lE eb4 hf
      refine q_alen (κ := 20) (t := 0) (n := 64) (x := 64) (ty := .int) (pc' := 18) C B (cw_k B.2.2 kb4) (by decide) rfl rfl rfl dX5_change_17 rfl ?_
      refine lv_icmp_ge (tgt := 28) hx hb dX5_change_18 (by decide) (fun c5 => ?_) (fun c5 => hp_n (n := 21) rfl ?_)
      ·
        replace hf := ms_iT c5 hf
        cases hf
        exact q_vret C B hr hlk ⟨rfl, B.2.2⟩ dX5_change_28
      ·
        replace hf := ms_iF c5 hf
        refine lv_aload_n hx hb dX5_change_21 rfl (lv_at hl 0 rfl) (hp_n (n := 22) rfl ?_)
        refine q_getr (κ := 6) (k := 0) (φ := 300) (pc' := 25) C B (cw_k B.2.2 k0) fl_X5_9 rfl rfl rfl (cw_r B.2.2 k0 rfl rfl (by decide) (by decide)) dX5_change_22 rfl (fun b6 eb6 kb6 => ?_)
        replace hf := ms_lE eb6 hf
        refine lv_iload_n hx hb dX5_change_25 rfl (lv_at hl 1 rfl) (hp_n (n := 26) rfl ?_)
        refine lv_iload_n hx hb dX5_change_26 rfl (lv_at hl 2 rfl) (hp_n (n := 27) rfl ?_)
        obtain ⟨g7, hf⟩ := ms_gE hf
        refine q_ias (κ := 20) (n := 64) (pc' := 28) C B (cw_k B.2.2 kb6) (by decide) rfl (vi_of g7.1 g7.2) rfl (cw_sE B.2.2 (by decide)) dX5_change_27 rfl (fun αh8 Hh8 Lh8 eh8 Bh8 => ?_)
        replace hf := ms_lE eh8 hf
        cases hf
        exact q_vret C Bh8 hr hlk ⟨rfl, Bh8.2.2⟩ dX5_change_28
def f_X11_push (n : Nat) (α : hp_T) (a0 : Nat) (a1 : Int32) : Option (Int32 × hp_T) :=
  ms_b (f_X11_isMark n α a0 a1) fun rh1 =>
  if rh1 = 0 then
    hq_c (f_X11_refuse n α a0 (1 : Int32)) fun rh12 αh12 =>
    some (rh12, αh12)
  else
    ms_l (hp_R α 603 a0) fun b3 =>
    ms_l (hp_I α 301 b3) fun x4 =>
    if x4 < (64 : Int32) then
      ms_l (hp_R α 603 a0) fun b6 =>
      ms_b (f_X5_put n α b6 a1) fun αh7 =>
      ms_l (hp_R αh7 603 a0) fun b8 =>
      ms_l (hp_I αh7 301 b8) fun x9 =>
      hq_c (f_X11_answer n αh7 a0 x9) fun rh10 αh10 =>
      some (rh10, αh10)
    else
      hq_c (f_X11_refuse n α a0 (3 : Int32)) fun rh11 αh11 =>
      some (rh11, αh11)
set_option maxRecDepth 100000 in
set_option maxHeartbeats 4000000 in
theorem n_X11_push (n : Nat) (Γ : hp_G) (l : Launch) (α : hp_T) (g : GC α) (a0 : Nat) (k0 : hp_K α a0 = 12) (a1 : Int32) (res : (Int32 × hp_T)) (hf : f_X11_push n α a0 a1 = some res) : Met l yX11_push (hp_ws yX11_push cX11_push 2 (some .int)) (hp_rm 1 0 0) (hp_Pc Γ α [.ref a0, .int a1]) (hp_Qi Γ (fun r β => r = res.1 ∧ β = res.2 ∧ cw w_X11_push α β)) 0 0 (hp_A Γ) := by
  unfold f_X11_push at hf
  refine hp_start (by decide) ?_
  intro p e s m below meth c C hr hlk B0 hnm
  have C : hp_C Γ p m c cX11_push 2 s ([.ref a0, .int a1] : List Value).toArray RX11 := C
  have hx := C.1.1
  have hb := C.1.2.1
  have hown := C.1.2.2.2.1
  have hts := C.1.2.2.2.2
  have B : hp_B Γ (cw w_X11_push) s α α s.heap [] := ⟨B0.1, B0.2.1, cw_rf g⟩
  have hl := lv_entry ([.ref a0, .int a1]) (n := 2) (Nat.le_of_ble_eq_true rfl)
  show W p l e (hp_rm 1 0 0) s m ([.ref a0, .int a1] : List Value).toArray below meth c s.heap [] 0 0 (MQ below (hp_Qi Γ (fun r β => r = res.1 ∧ β = res.2 ∧ cw w_X11_push α β)) ([.ref a0, .int a1] : List Value).toArray s 0 0 (hp_A Γ)) (entryFrame m ([.ref a0, .int a1] : List Value).toArray 2)
  rw [lg_entry_eq]
  generalize (lg_sl ([.ref a0, .int a1]) ++ List.replicate (2 - (lg_sl ([.ref a0, .int a1])).length) Slot.unset).toArray = ls at hl ⊢
  have hl : lv_has ls 2 [(0, .ref a0), (1, .int a1)] := hl
  refine lv_aload_n hx hb dX11_push_0 rfl (lv_at hl 0 rfl) (hp_n (n := 1) rfl ?_)
  refine lv_iload_n hx hb dX11_push_1 rfl (lv_at hl 1 rfl) (hp_n (n := 2) rfl ?_)
  obtain ⟨rh1, qh1, hf⟩ := ms_bE hf
  refine d_pi (pc' := 5) B (hp_runV (As := [.int a1]) (rest := []) C B (n_X11_isMark n Γ l α B.2.2.1 a0 (cw_k B.2.2 k0) a1 rh1 qh1) lb_X11_isMark lv_X11_isMark lk_X11_188 (cw_k B.2.2 k0) rfl (by decide) rfl hl.1 rfl (Nat.le_of_ble_eq_true rfl) dX11_push_2 ⟨Nat.le_refl _, Nat.le_refl _⟩) rfl (fun Hh1 Lh1 Bh1 => ?_)
  refine lv_if_ne (tgt := 14) hx hb dX11_push_5 (by decide) (fun c2 => ?_) (fun c2 => hp_n (n := 8) rfl ?_)
  ·
    replace hf := ms_iF c2 hf
    refine lv_aload_n hx hb dX11_push_14 rfl (lv_at hl 0 rfl) (hp_n (n := 15) rfl ?_)
    refine q_getr (κ := 12) (k := 3) (φ := 603) (pc' := 18) C Bh1 (cw_k Bh1.2.2 k0) fl_X11_26 rfl rfl rfl (cw_r Bh1.2.2 k0 rfl rfl (by decide) (by decide)) dX11_push_15 rfl (fun b3 eb3 kb3 => ?_)
    replace hf := ms_lE eb3 hf
    refine q_geti (κ := 6) (k := 1) (φ := 301) (pc' := 21) C Bh1 (cw_k Bh1.2.2 kb3) fl_X11_132 rfl rfl rfl dX11_push_18 rfl (fun x4 ex4 => ?_)
    replace hf := ms_lE ex4 hf
    refine lv_bipush (v := 64) hx hb dX11_push_21 (by decide) (hp_n (n := 23) rfl ?_)
    refine lv_icmp_lt (tgt := 32) hx hb dX11_push_23 (by decide) (fun c5 => ?_) (fun c5 => hp_n (n := 26) rfl ?_)
    ·
      replace hf := ms_iT c5 hf
      refine lv_aload_n hx hb dX11_push_32 rfl (lv_at hl 0 rfl) (hp_n (n := 33) rfl ?_)
      refine q_getr (κ := 12) (k := 3) (φ := 603) (pc' := 36) C Bh1 (cw_k Bh1.2.2 k0) fl_X11_26 rfl rfl rfl (cw_r Bh1.2.2 k0 rfl rfl (by decide) (by decide)) dX11_push_33 rfl (fun b6 eb6 kb6 => ?_)
      replace hf := ms_lE eb6 hf
      refine lv_iload_n hx hb dX11_push_36 rfl (lv_at hl 1 rfl) (hp_n (n := 37) rfl ?_)
      obtain ⟨αh7, qh7, hf⟩ := ms_bE hf
      refine d_cv (pc' := 40) Bh1 (hp_runV (As := [.int a1]) (rest := []) C Bh1 (n_X5_put n Γ l α Bh1.2.2.1 b6 (cw_k Bh1.2.2 kb6) a1 αh7 qh7) lb_X5_put lv_X5_put lk_X11_259 (cw_k Bh1.2.2 kb6) rfl (by decide) rfl hl.1 rfl (Nat.le_of_ble_eq_true rfl) dX11_push_37 ⟨Nat.le_refl _, Nat.le_refl _⟩) (by decide) rfl (fun Hh7 Lh7 Bh7 => ?_)
      refine lv_aload_n hx hb dX11_push_40 rfl (lv_at hl 0 rfl) (hp_n (n := 41) rfl ?_)
      refine lv_aload_n hx hb dX11_push_41 rfl (lv_at hl 0 rfl) (hp_n (n := 42) rfl ?_)
      refine q_getr (κ := 12) (k := 3) (φ := 603) (pc' := 45) C Bh7 (cw_k Bh7.2.2 k0) fl_X11_26 rfl rfl rfl (cw_r Bh7.2.2 k0 rfl rfl (by decide) (by decide)) dX11_push_42 rfl (fun b8 eb8 kb8 => ?_)
      replace hf := ms_lE eb8 hf
      refine q_geti (κ := 6) (k := 1) (φ := 301) (pc' := 48) C Bh7 (cw_k Bh7.2.2 kb8) fl_X11_132 rfl rfl rfl dX11_push_45 rfl (fun x9 ex9 => ?_)
      replace hf := ms_lE ex9 hf
      obtain ⟨rh10, αh10, qh10, hf⟩ := hq_cE hf
      refine d_ci (pc' := 51) Bh7 (hp_runV (As := [.int x9]) (rest := []) C Bh7 (n_X11_answer n Γ l αh7 Bh7.2.2.1 a0 (cw_k Bh7.2.2 k0) x9 (rh10, αh10) qh10) lb_X11_answer lv_X11_answer lk_X11_115 (cw_k Bh7.2.2 k0) rfl (by decide) rfl hl.1 rfl (Nat.le_of_ble_eq_true rfl) dX11_push_48 ⟨Nat.le_refl _, Nat.le_refl _⟩) (by decide) rfl (fun Hh10 Lh10 Bh10 => ?_)
      cases hf
      exact q_iret C Bh10 hr hlk ⟨rfl, rfl, Bh10.2.2⟩ dX11_push_51
    ·
      replace hf := ms_iF c5 hf
      refine lv_aload_n hx hb dX11_push_26 rfl (lv_at hl 0 rfl) (hp_n (n := 27) rfl ?_)
      refine lv_iconst (v := 3) hx hb dX11_push_27 (by decide) (hp_n (n := 28) rfl ?_)
      obtain ⟨rh11, αh11, qh11, hf⟩ := hq_cE hf
      refine d_ci (pc' := 31) Bh1 (hp_runV (As := [.int (3 : Int32)]) (rest := []) C Bh1 (n_X11_refuse n Γ l α Bh1.2.2.1 a0 (cw_k Bh1.2.2 k0) (3 : Int32) (rh11, αh11) qh11) lb_X11_refuse lv_X11_refuse lk_X11_98 (cw_k Bh1.2.2 k0) rfl (by decide) rfl hl.1 rfl (Nat.le_of_ble_eq_true rfl) dX11_push_28 ⟨Nat.le_refl _, Nat.le_refl _⟩) (by decide) rfl (fun Hh11 Lh11 Bh11 => ?_)
      cases hf
      exact q_iret C Bh11 hr hlk ⟨rfl, rfl, Bh11.2.2⟩ dX11_push_31
  ·
    replace hf := ms_iT c2 hf
    refine lv_aload_n hx hb dX11_push_8 rfl (lv_at hl 0 rfl) (hp_n (n := 9) rfl ?_)
    refine lv_iconst (v := 1) hx hb dX11_push_9 (by decide) (hp_n (n := 10) rfl ?_)
    obtain ⟨rh12, αh12, qh12, hf⟩ := hq_cE hf
    refine d_ci (pc' := 13) Bh1 (hp_runV (As := [.int (1 : Int32)]) (rest := []) C Bh1 (n_X11_refuse n Γ l α Bh1.2.2.1 a0 (cw_k Bh1.2.2 k0) (1 : Int32) (rh12, αh12) qh12) lb_X11_refuse lv_X11_refuse lk_X11_98 (cw_k Bh1.2.2 k0) rfl (by decide) rfl hl.1 rfl (Nat.le_of_ble_eq_true rfl) dX11_push_10 ⟨Nat.le_refl _, Nat.le_refl _⟩) (by decide) rfl (fun Hh12 Lh12 Bh12 => ?_)
    cases hf
    exact q_iret C Bh12 hr hlk ⟨rfl, rfl, Bh12.2.2⟩ dX11_push_13
def f_X11_poke_J12 (n : Nat) (a0 : Nat) (αh1 : hp_T) : Option (Int32 × hp_T) :=
  hq_c (f_X11_refuse n αh1 a0 (1 : Int32)) fun rh2 αh2 =>
  some (rh2, αh2)
def f_X11_poke (n : Nat) (α : hp_T) (a0 : Nat) (a1 : Int32) (a2 : Int32) : Option (Int32 × hp_T) :=
  if a1 < 0 then
    f_X11_poke_J12 n a0 α
  else
    ms_b (f_X11_isMark n α a0 a2) fun rh4 =>
    if rh4 = 0 then
      f_X11_poke_J12 n a0 α
    else
      ms_l (hp_R α 603 a0) fun b6 =>
      ms_l (hp_I α 301 b6) fun x7 =>
      if a1 < x7 then
        ms_l (hp_R α 603 a0) fun b9 =>
        ms_b (f_X5_at n α b9 a1) fun rh10 =>
        ms_l (hp_R α 603 a0) fun b11 =>
        ms_b (f_X5_change n α b11 a1 a2) fun αh12 =>
        hq_c (f_X11_answer n αh12 a0 rh10) fun rh13 αh13 =>
        some (rh13, αh13)
      else
        hq_c (f_X11_refuse n α a0 (5 : Int32)) fun rh14 αh14 =>
        some (rh14, αh14)
set_option maxRecDepth 100000 in
set_option maxHeartbeats 4000000 in
theorem n_X11_poke (n : Nat) (Γ : hp_G) (l : Launch) (α : hp_T) (g : GC α) (a0 : Nat) (k0 : hp_K α a0 = 12) (a1 : Int32) (a2 : Int32) (res : (Int32 × hp_T)) (hf : f_X11_poke n α a0 a1 a2 = some res) : Met l yX11_poke (hp_ws yX11_poke cX11_poke 4 (some .int)) (hp_rm 1 0 0) (hp_Pc Γ α [.ref a0, .int a1, .int a2]) (hp_Qi Γ (fun r β => r = res.1 ∧ β = res.2 ∧ cw w_X11_poke α β)) 0 0 (hp_A Γ) := by
  unfold f_X11_poke at hf
  refine hp_start (by decide) ?_
  intro p e s m below meth c C hr hlk B0 hnm
  have C : hp_C Γ p m c cX11_poke 4 s ([.ref a0, .int a1, .int a2] : List Value).toArray RX11 := C
  have hx := C.1.1
  have hb := C.1.2.1
  have hown := C.1.2.2.2.1
  have hts := C.1.2.2.2.2
  have B : hp_B Γ (cw w_X11_poke) s α α s.heap [] := ⟨B0.1, B0.2.1, cw_rf g⟩
  have hl := lv_entry ([.ref a0, .int a1, .int a2]) (n := 4) (Nat.le_of_ble_eq_true rfl)
  show W p l e (hp_rm 1 0 0) s m ([.ref a0, .int a1, .int a2] : List Value).toArray below meth c s.heap [] 0 0 (MQ below (hp_Qi Γ (fun r β => r = res.1 ∧ β = res.2 ∧ cw w_X11_poke α β)) ([.ref a0, .int a1, .int a2] : List Value).toArray s 0 0 (hp_A Γ)) (entryFrame m ([.ref a0, .int a1, .int a2] : List Value).toArray 4)
  rw [lg_entry_eq]
  generalize (lg_sl ([.ref a0, .int a1, .int a2]) ++ List.replicate (4 - (lg_sl ([.ref a0, .int a1, .int a2])).length) Slot.unset).toArray = ls at hl ⊢
  have hl : lv_has ls 4 [(0, .ref a0), (1, .int a1), (2, .int a2)] := hl
  refine lv_iload_n hx hb dX11_poke_0 rfl (lv_at hl 1 rfl) (hp_n (n := 1) rfl ?_)
  have J12 : ∀ (αh1 : hp_T) (Hh1 : Heap) (Lh1 : List Loc) (Bh1 : hp_B Γ (cw w_X11_poke) s α αh1 Hh1 Lh1) (ls : Array Slot) (hl : lv_has ls 4 [(0, .ref a0)]) (hf : f_X11_poke_J12 n a0 αh1 = some res), W p l e (hp_rm 1 0 0) s m ([.ref a0, .int a1, .int a2] : List Value).toArray below meth c Hh1 Lh1 0 0 (MQ below (hp_Qi Γ (fun r β => r = res.1 ∧ β = res.2 ∧ cw w_X11_poke α β)) ([.ref a0, .int a1, .int a2] : List Value).toArray s 0 0 (hp_A Γ)) (F0 m 12 ls []) := by
    intro αh1 Hh1 Lh1 Bh1 ls hl hf
    unfold f_X11_poke_J12 at hf
    refine lv_aload_n hx hb dX11_poke_12 rfl (lv_at hl 0 rfl) (hp_n (n := 13) rfl ?_)
    refine lv_iconst (v := 1) hx hb dX11_poke_13 (by decide) (hp_n (n := 14) rfl ?_)
    obtain ⟨rh2, αh2, qh2, hf⟩ := hq_cE hf
    refine d_ci (pc' := 17) Bh1 (hp_runV (As := [.int (1 : Int32)]) (rest := []) C Bh1 (n_X11_refuse n Γ l αh1 Bh1.2.2.1 a0 (cw_k Bh1.2.2 k0) (1 : Int32) (rh2, αh2) qh2) lb_X11_refuse lv_X11_refuse lk_X11_98 (cw_k Bh1.2.2 k0) rfl (by decide) rfl hl.1 rfl (Nat.le_of_ble_eq_true rfl) dX11_poke_14 ⟨Nat.le_refl _, Nat.le_refl _⟩) (by decide) rfl (fun Hh2 Lh2 Bh2 => ?_)
    cases hf
    exact q_iret C Bh2 hr hlk ⟨rfl, rfl, Bh2.2.2⟩ dX11_poke_17
  refine lv_if_lt (tgt := 12) hx hb dX11_poke_1 (by decide) (fun c3 => ?_) (fun c3 => hp_n (n := 4) rfl ?_)
  ·
    replace hf := ms_iT c3 hf
    exact J12 α s.heap [] B ls (lv_sub hl [0] rfl) hf
  ·
    replace hf := ms_iF c3 hf
    refine lv_aload_n hx hb dX11_poke_4 rfl (lv_at hl 0 rfl) (hp_n (n := 5) rfl ?_)
    refine lv_iload_n hx hb dX11_poke_5 rfl (lv_at hl 2 rfl) (hp_n (n := 6) rfl ?_)
    obtain ⟨rh4, qh4, hf⟩ := ms_bE hf
    refine d_pi (pc' := 9) B (hp_runV (As := [.int a2]) (rest := []) C B (n_X11_isMark n Γ l α B.2.2.1 a0 (cw_k B.2.2 k0) a2 rh4 qh4) lb_X11_isMark lv_X11_isMark lk_X11_188 (cw_k B.2.2 k0) rfl (by decide) rfl hl.1 rfl (Nat.le_of_ble_eq_true rfl) dX11_poke_6 ⟨Nat.le_refl _, Nat.le_refl _⟩) rfl (fun Hh4 Lh4 Bh4 => ?_)
    refine lv_if_ne (tgt := 18) hx hb dX11_poke_9 (by decide) (fun c5 => ?_) (fun c5 => hp_n (n := 12) rfl ?_)
    ·
      replace hf := ms_iF c5 hf
      refine lv_iload_n hx hb dX11_poke_18 rfl (lv_at hl 1 rfl) (hp_n (n := 19) rfl ?_)
      refine lv_aload_n hx hb dX11_poke_19 rfl (lv_at hl 0 rfl) (hp_n (n := 20) rfl ?_)
      refine q_getr (κ := 12) (k := 3) (φ := 603) (pc' := 23) C Bh4 (cw_k Bh4.2.2 k0) fl_X11_26 rfl rfl rfl (cw_r Bh4.2.2 k0 rfl rfl (by decide) (by decide)) dX11_poke_20 rfl (fun b6 eb6 kb6 => ?_)
      replace hf := ms_lE eb6 hf
      refine q_geti (κ := 6) (k := 1) (φ := 301) (pc' := 26) C Bh4 (cw_k Bh4.2.2 kb6) fl_X11_132 rfl rfl rfl dX11_poke_23 rfl (fun x7 ex7 => ?_)
      replace hf := ms_lE ex7 hf
      refine lv_icmp_lt (tgt := 35) hx hb dX11_poke_26 (by decide) (fun c8 => ?_) (fun c8 => hp_n (n := 29) rfl ?_)
      ·
        replace hf := ms_iT c8 hf
        refine lv_aload_n hx hb dX11_poke_35 rfl (lv_at hl 0 rfl) (hp_n (n := 36) rfl ?_)
        refine q_getr (κ := 12) (k := 3) (φ := 603) (pc' := 39) C Bh4 (cw_k Bh4.2.2 k0) fl_X11_26 rfl rfl rfl (cw_r Bh4.2.2 k0 rfl rfl (by decide) (by decide)) dX11_poke_36 rfl (fun b9 eb9 kb9 => ?_)
        replace hf := ms_lE eb9 hf
        refine lv_iload_n hx hb dX11_poke_39 rfl (lv_at hl 1 rfl) (hp_n (n := 40) rfl ?_)
        obtain ⟨rh10, qh10, hf⟩ := ms_bE hf
        refine d_pi (pc' := 43) Bh4 (hp_runV (As := [.int a1]) (rest := []) C Bh4 (n_X5_at n Γ l α Bh4.2.2.1 b9 (cw_k Bh4.2.2 kb9) a1 rh10 qh10) lb_X5_at lv_X5_at lk_X11_135 (cw_k Bh4.2.2 kb9) rfl (by decide) rfl hl.1 rfl (Nat.le_of_ble_eq_true rfl) dX11_poke_40 ⟨Nat.le_refl _, Nat.le_refl _⟩) rfl (fun Hh10 Lh10 Bh10 => ?_)
        refine lv_istore_n (lv' := [(3, .int rh10), (0, .ref a0), (1, .int a1), (2, .int a2)]) hx hb dX11_poke_43 rfl hl (by decide) rfl (fun ls hl => hp_n (n := 44) rfl ?_)
        refine lv_aload_n hx hb dX11_poke_44 rfl (lv_at hl 1 rfl) (hp_n (n := 45) rfl ?_)
        refine q_getr (κ := 12) (k := 3) (φ := 603) (pc' := 48) C Bh10 (cw_k Bh10.2.2 k0) fl_X11_26 rfl rfl rfl (cw_r Bh10.2.2 k0 rfl rfl (by decide) (by decide)) dX11_poke_45 rfl (fun b11 eb11 kb11 => ?_)
        replace hf := ms_lE eb11 hf
        refine lv_iload_n hx hb dX11_poke_48 rfl (lv_at hl 2 rfl) (hp_n (n := 49) rfl ?_)
        refine lv_iload_n hx hb dX11_poke_49 rfl (lv_at hl 3 rfl) (hp_n (n := 50) rfl ?_)
        obtain ⟨αh12, qh12, hf⟩ := ms_bE hf
        refine d_cv (pc' := 53) Bh10 (hp_runV (As := [.int a1, .int a2]) (rest := []) C Bh10 (n_X5_change n Γ l α Bh10.2.2.1 b11 (cw_k Bh10.2.2 kb11) a1 a2 αh12 qh12) lb_X5_change lv_X5_change lk_X11_260 (cw_k Bh10.2.2 kb11) rfl (by decide) rfl hl.1 rfl (Nat.le_of_ble_eq_true rfl) dX11_poke_50 ⟨Nat.le_refl _, Nat.le_refl _⟩) (by decide) rfl (fun Hh12 Lh12 Bh12 => ?_)
        refine lv_aload_n hx hb dX11_poke_53 rfl (lv_at hl 1 rfl) (hp_n (n := 54) rfl ?_)
        refine lv_iload_n hx hb dX11_poke_54 rfl (lv_at hl 0 rfl) (hp_n (n := 55) rfl ?_)
        obtain ⟨rh13, αh13, qh13, hf⟩ := hq_cE hf
        refine d_ci (pc' := 58) Bh12 (hp_runV (As := [.int rh10]) (rest := []) C Bh12 (n_X11_answer n Γ l αh12 Bh12.2.2.1 a0 (cw_k Bh12.2.2 k0) rh10 (rh13, αh13) qh13) lb_X11_answer lv_X11_answer lk_X11_115 (cw_k Bh12.2.2 k0) rfl (by decide) rfl hl.1 rfl (Nat.le_of_ble_eq_true rfl) dX11_poke_55 ⟨Nat.le_refl _, Nat.le_refl _⟩) (by decide) rfl (fun Hh13 Lh13 Bh13 => ?_)
        cases hf
        exact q_iret C Bh13 hr hlk ⟨rfl, rfl, Bh13.2.2⟩ dX11_poke_58
      ·
        replace hf := ms_iF c8 hf
        refine lv_aload_n hx hb dX11_poke_29 rfl (lv_at hl 0 rfl) (hp_n (n := 30) rfl ?_)
        refine lv_iconst (v := 5) hx hb dX11_poke_30 (by decide) (hp_n (n := 31) rfl ?_)
        obtain ⟨rh14, αh14, qh14, hf⟩ := hq_cE hf
        refine d_ci (pc' := 34) Bh4 (hp_runV (As := [.int (5 : Int32)]) (rest := []) C Bh4 (n_X11_refuse n Γ l α Bh4.2.2.1 a0 (cw_k Bh4.2.2 k0) (5 : Int32) (rh14, αh14) qh14) lb_X11_refuse lv_X11_refuse lk_X11_98 (cw_k Bh4.2.2 k0) rfl (by decide) rfl hl.1 rfl (Nat.le_of_ble_eq_true rfl) dX11_poke_31 ⟨Nat.le_refl _, Nat.le_refl _⟩) (by decide) rfl (fun Hh14 Lh14 Bh14 => ?_)
        cases hf
        exact q_iret C Bh14 hr hlk ⟨rfl, rfl, Bh14.2.2⟩ dX11_poke_34
    ·
      replace hf := ms_iT c5 hf
      exact J12 α Hh4 Lh4 Bh4 ls (lv_sub hl [0] rfl) hf
def f_X11_cut (n : Nat) (α : hp_T) (a0 : Nat) (a1 : Int32) : Option (Int32 × hp_T) :=
  if 0 ≤ a1 then
    ms_l (hp_R α 603 a0) fun b2 =>
    ms_l (hp_I α 301 b2) fun x3 =>
    if a1 ≤ x3 then
      ms_l (hp_R α 603 a0) fun b5 =>
      ms_b (f_X5_shorten n α b5 a1) fun αh6 =>
      hq_c (f_X11_answer n αh6 a0 a1) fun rh7 αh7 =>
      some (rh7, αh7)
    else
      hq_c (f_X11_refuse n α a0 (5 : Int32)) fun rh8 αh8 =>
      some (rh8, αh8)
  else
    hq_c (f_X11_refuse n α a0 (1 : Int32)) fun rh9 αh9 =>
    some (rh9, αh9)
set_option maxRecDepth 100000 in
set_option maxHeartbeats 4000000 in
theorem n_X11_cut (n : Nat) (Γ : hp_G) (l : Launch) (α : hp_T) (g : GC α) (a0 : Nat) (k0 : hp_K α a0 = 12) (a1 : Int32) (res : (Int32 × hp_T)) (hf : f_X11_cut n α a0 a1 = some res) : Met l yX11_cut (hp_ws yX11_cut cX11_cut 2 (some .int)) (hp_rm 1 0 0) (hp_Pc Γ α [.ref a0, .int a1]) (hp_Qi Γ (fun r β => r = res.1 ∧ β = res.2 ∧ cw w_X11_cut α β)) 0 0 (hp_A Γ) := by
  unfold f_X11_cut at hf
  refine hp_start (by decide) ?_
  intro p e s m below meth c C hr hlk B0 hnm
  have C : hp_C Γ p m c cX11_cut 2 s ([.ref a0, .int a1] : List Value).toArray RX11 := C
  have hx := C.1.1
  have hb := C.1.2.1
  have hown := C.1.2.2.2.1
  have hts := C.1.2.2.2.2
  have B : hp_B Γ (cw w_X11_cut) s α α s.heap [] := ⟨B0.1, B0.2.1, cw_rf g⟩
  have hl := lv_entry ([.ref a0, .int a1]) (n := 2) (Nat.le_of_ble_eq_true rfl)
  show W p l e (hp_rm 1 0 0) s m ([.ref a0, .int a1] : List Value).toArray below meth c s.heap [] 0 0 (MQ below (hp_Qi Γ (fun r β => r = res.1 ∧ β = res.2 ∧ cw w_X11_cut α β)) ([.ref a0, .int a1] : List Value).toArray s 0 0 (hp_A Γ)) (entryFrame m ([.ref a0, .int a1] : List Value).toArray 2)
  rw [lg_entry_eq]
  generalize (lg_sl ([.ref a0, .int a1]) ++ List.replicate (2 - (lg_sl ([.ref a0, .int a1])).length) Slot.unset).toArray = ls at hl ⊢
  have hl : lv_has ls 2 [(0, .ref a0), (1, .int a1)] := hl
  refine lv_iload_n hx hb dX11_cut_0 rfl (lv_at hl 1 rfl) (hp_n (n := 1) rfl ?_)
  refine lv_if_ge (tgt := 10) hx hb dX11_cut_1 (by decide) (fun c1 => ?_) (fun c1 => hp_n (n := 4) rfl ?_)
  ·
    replace hf := ms_iT c1 hf
    refine lv_iload_n hx hb dX11_cut_10 rfl (lv_at hl 1 rfl) (hp_n (n := 11) rfl ?_)
    refine lv_aload_n hx hb dX11_cut_11 rfl (lv_at hl 0 rfl) (hp_n (n := 12) rfl ?_)
    refine q_getr (κ := 12) (k := 3) (φ := 603) (pc' := 15) C B (cw_k B.2.2 k0) fl_X11_26 rfl rfl rfl (cw_r B.2.2 k0 rfl rfl (by decide) (by decide)) dX11_cut_12 rfl (fun b2 eb2 kb2 => ?_)
    replace hf := ms_lE eb2 hf
    refine q_geti (κ := 6) (k := 1) (φ := 301) (pc' := 18) C B (cw_k B.2.2 kb2) fl_X11_132 rfl rfl rfl dX11_cut_15 rfl (fun x3 ex3 => ?_)
    replace hf := ms_lE ex3 hf
    refine lv_icmp_le (tgt := 27) hx hb dX11_cut_18 (by decide) (fun c4 => ?_) (fun c4 => hp_n (n := 21) rfl ?_)
    ·
      replace hf := ms_iT c4 hf
      refine lv_aload_n hx hb dX11_cut_27 rfl (lv_at hl 0 rfl) (hp_n (n := 28) rfl ?_)
      refine q_getr (κ := 12) (k := 3) (φ := 603) (pc' := 31) C B (cw_k B.2.2 k0) fl_X11_26 rfl rfl rfl (cw_r B.2.2 k0 rfl rfl (by decide) (by decide)) dX11_cut_28 rfl (fun b5 eb5 kb5 => ?_)
      replace hf := ms_lE eb5 hf
      refine lv_iload_n hx hb dX11_cut_31 rfl (lv_at hl 1 rfl) (hp_n (n := 32) rfl ?_)
      obtain ⟨αh6, qh6, hf⟩ := ms_bE hf
      refine d_cv (pc' := 35) B (hp_runV (As := [.int a1]) (rest := []) C B (n_X5_shorten n Γ l α B.2.2.1 b5 (cw_k B.2.2 kb5) a1 αh6 qh6) lb_X5_shorten lv_X5_shorten lk_X11_109 (cw_k B.2.2 kb5) rfl (by decide) rfl hl.1 rfl (Nat.le_of_ble_eq_true rfl) dX11_cut_32 ⟨Nat.le_refl _, Nat.le_refl _⟩) (by decide) rfl (fun Hh6 Lh6 Bh6 => ?_)
      refine lv_aload_n hx hb dX11_cut_35 rfl (lv_at hl 0 rfl) (hp_n (n := 36) rfl ?_)
      refine lv_iload_n hx hb dX11_cut_36 rfl (lv_at hl 1 rfl) (hp_n (n := 37) rfl ?_)
      obtain ⟨rh7, αh7, qh7, hf⟩ := hq_cE hf
      refine d_ci (pc' := 40) Bh6 (hp_runV (As := [.int a1]) (rest := []) C Bh6 (n_X11_answer n Γ l αh6 Bh6.2.2.1 a0 (cw_k Bh6.2.2 k0) a1 (rh7, αh7) qh7) lb_X11_answer lv_X11_answer lk_X11_115 (cw_k Bh6.2.2 k0) rfl (by decide) rfl hl.1 rfl (Nat.le_of_ble_eq_true rfl) dX11_cut_37 ⟨Nat.le_refl _, Nat.le_refl _⟩) (by decide) rfl (fun Hh7 Lh7 Bh7 => ?_)
      cases hf
      exact q_iret C Bh7 hr hlk ⟨rfl, rfl, Bh7.2.2⟩ dX11_cut_40
    ·
      replace hf := ms_iF c4 hf
      refine lv_aload_n hx hb dX11_cut_21 rfl (lv_at hl 0 rfl) (hp_n (n := 22) rfl ?_)
      refine lv_iconst (v := 5) hx hb dX11_cut_22 (by decide) (hp_n (n := 23) rfl ?_)
      obtain ⟨rh8, αh8, qh8, hf⟩ := hq_cE hf
      refine d_ci (pc' := 26) B (hp_runV (As := [.int (5 : Int32)]) (rest := []) C B (n_X11_refuse n Γ l α B.2.2.1 a0 (cw_k B.2.2 k0) (5 : Int32) (rh8, αh8) qh8) lb_X11_refuse lv_X11_refuse lk_X11_98 (cw_k B.2.2 k0) rfl (by decide) rfl hl.1 rfl (Nat.le_of_ble_eq_true rfl) dX11_cut_23 ⟨Nat.le_refl _, Nat.le_refl _⟩) (by decide) rfl (fun Hh8 Lh8 Bh8 => ?_)
      cases hf
      exact q_iret C Bh8 hr hlk ⟨rfl, rfl, Bh8.2.2⟩ dX11_cut_26
  ·
    replace hf := ms_iF c1 hf
    refine lv_aload_n hx hb dX11_cut_4 rfl (lv_at hl 0 rfl) (hp_n (n := 5) rfl ?_)
    refine lv_iconst (v := 1) hx hb dX11_cut_5 (by decide) (hp_n (n := 6) rfl ?_)
    obtain ⟨rh9, αh9, qh9, hf⟩ := hq_cE hf
    refine d_ci (pc' := 9) B (hp_runV (As := [.int (1 : Int32)]) (rest := []) C B (n_X11_refuse n Γ l α B.2.2.1 a0 (cw_k B.2.2 k0) (1 : Int32) (rh9, αh9) qh9) lb_X11_refuse lv_X11_refuse lk_X11_98 (cw_k B.2.2 k0) rfl (by decide) rfl hl.1 rfl (Nat.le_of_ble_eq_true rfl) dX11_cut_6 ⟨Nat.le_refl _, Nat.le_refl _⟩) (by decide) rfl (fun Hh9 Lh9 Bh9 => ?_)
    cases hf
    exact q_iret C Bh9 hr hlk ⟨rfl, rfl, Bh9.2.2⟩ dX11_cut_9
set_option maxRecDepth 100000 in
set_option maxHeartbeats 4000000 in
theorem n_J6_bitCount_0f7a4 (n : Nat) (Γ : hp_G) (l : Launch) (α : hp_T) (g : GC α) (a0 : Int32) (res : Int32) (hf : f_J6_bitCount_0f7a4 n a0 = some res) : Met l yJ6_bitCount_0f7a4 (hp_ws yJ6_bitCount_0f7a4 cJ6_bitCount_0f7a4 1 (some .int)) (hp_rm 0 0 0) (hp_Pc Γ α [.int a0]) (hp_Qi Γ (fun r β => β = α ∧ r = res)) 0 0 (hp_A Γ) := by
  unfold f_J6_bitCount_0f7a4 at hf
  refine hp_start (by decide) ?_
  intro p e s m below meth c C hr hlk B0 hnm
  have C : hp_C Γ p m c cJ6_bitCount_0f7a4 1 s ([.int a0] : List Value).toArray RJ6 := C
  have hx := C.1.1
  have hb := C.1.2.1
  have hown := C.1.2.2.2.1
  have hts := C.1.2.2.2.2
  have B : hp_B Γ (cw w_J6_bitCount_0f7a4) s α α s.heap [] := ⟨B0.1, B0.2.1, cw_rf g⟩
  have hl := lv_entry ([.int a0]) (n := 1) (Nat.le_of_ble_eq_true rfl)
  show W p l e (hp_rm 0 0 0) s m ([.int a0] : List Value).toArray below meth c s.heap [] 0 0 (MQ below (hp_Qi Γ (fun r β => β = α ∧ r = res)) ([.int a0] : List Value).toArray s 0 0 (hp_A Γ)) (entryFrame m ([.int a0] : List Value).toArray 1)
  rw [lg_entry_eq]
  generalize (lg_sl ([.int a0]) ++ List.replicate (1 - (lg_sl ([.int a0])).length) Slot.unset).toArray = ls at hl ⊢
  have hl : lv_has ls 1 [(0, .int a0)] := hl
  refine lv_iload_n hx hb dJ6_bitCount_0f7a4_0 rfl (lv_at hl 0 rfl) (hp_n (n := 1) rfl ?_)
  refine lv_iload_n hx hb dJ6_bitCount_0f7a4_1 rfl (lv_at hl 0 rfl) (hp_n (n := 2) rfl ?_)
  refine lv_iconst (v := 1) hx hb dJ6_bitCount_0f7a4_2 (by decide) (hp_n (n := 3) rfl ?_)
  refine lv_iushr hx hb dJ6_bitCount_0f7a4_3 rfl (hp_n (n := 4) rfl ?_)
  refine lv_ldcw hx hb hown (hts _ kc_J6_265) dJ6_bitCount_0f7a4_4 (hp_n (n := 7) rfl ?_)
  refine lv_iand hx hb dJ6_bitCount_0f7a4_7 (hp_n (n := 8) rfl ?_)
  refine lv_isub hx hb dJ6_bitCount_0f7a4_8 (hp_n (n := 9) rfl ?_)
  refine lv_topi (fun x1 ex1 => ?_)
  replace hf := ms_lE ex1 hf
  refine lv_istore_n (lv' := [(0, .int x1)]) hx hb dJ6_bitCount_0f7a4_9 rfl hl (by decide) rfl (fun ls hl => hp_n (n := 10) rfl ?_)
  refine lv_iload_n hx hb dJ6_bitCount_0f7a4_10 rfl (lv_at hl 0 rfl) (hp_n (n := 11) rfl ?_)
  refine lv_ldcw hx hb hown (hts _ kc_J6_266) dJ6_bitCount_0f7a4_11 (hp_n (n := 14) rfl ?_)
  refine lv_iand hx hb dJ6_bitCount_0f7a4_14 (hp_n (n := 15) rfl ?_)
  refine lv_iload_n hx hb dJ6_bitCount_0f7a4_15 rfl (lv_at hl 0 rfl) (hp_n (n := 16) rfl ?_)
  refine lv_iconst (v := 2) hx hb dJ6_bitCount_0f7a4_16 (by decide) (hp_n (n := 17) rfl ?_)
  refine lv_iushr hx hb dJ6_bitCount_0f7a4_17 rfl (hp_n (n := 18) rfl ?_)
  refine lv_ldcw hx hb hown (hts _ kc_J6_266) dJ6_bitCount_0f7a4_18 (hp_n (n := 21) rfl ?_)
  refine lv_iand hx hb dJ6_bitCount_0f7a4_21 (hp_n (n := 22) rfl ?_)
  refine lv_iadd hx hb dJ6_bitCount_0f7a4_22 (hp_n (n := 23) rfl ?_)
  refine lv_topi (fun x2 ex2 => ?_)
  replace hf := ms_lE ex2 hf
  refine lv_istore_n (lv' := [(0, .int x2)]) hx hb dJ6_bitCount_0f7a4_23 rfl hl (by decide) rfl (fun ls hl => hp_n (n := 24) rfl ?_)
  refine lv_iload_n hx hb dJ6_bitCount_0f7a4_24 rfl (lv_at hl 0 rfl) (hp_n (n := 25) rfl ?_)
  refine lv_iload_n hx hb dJ6_bitCount_0f7a4_25 rfl (lv_at hl 0 rfl) (hp_n (n := 26) rfl ?_)
  refine lv_iconst (v := 4) hx hb dJ6_bitCount_0f7a4_26 (by decide) (hp_n (n := 27) rfl ?_)
  refine lv_iushr hx hb dJ6_bitCount_0f7a4_27 rfl (hp_n (n := 28) rfl ?_)
  refine lv_iadd hx hb dJ6_bitCount_0f7a4_28 (hp_n (n := 29) rfl ?_)
  refine lv_ldcw hx hb hown (hts _ kc_J6_267) dJ6_bitCount_0f7a4_29 (hp_n (n := 32) rfl ?_)
  refine lv_iand hx hb dJ6_bitCount_0f7a4_32 (hp_n (n := 33) rfl ?_)
  refine lv_topi (fun x3 ex3 => ?_)
  replace hf := ms_lE ex3 hf
  refine lv_istore_n (lv' := [(0, .int x3)]) hx hb dJ6_bitCount_0f7a4_33 rfl hl (by decide) rfl (fun ls hl => hp_n (n := 34) rfl ?_)
  refine lv_iload_n hx hb dJ6_bitCount_0f7a4_34 rfl (lv_at hl 0 rfl) (hp_n (n := 35) rfl ?_)
  refine lv_iload_n hx hb dJ6_bitCount_0f7a4_35 rfl (lv_at hl 0 rfl) (hp_n (n := 36) rfl ?_)
  refine lv_bipush (v := 8) hx hb dJ6_bitCount_0f7a4_36 (by decide) (hp_n (n := 38) rfl ?_)
  refine lv_iushr hx hb dJ6_bitCount_0f7a4_38 rfl (hp_n (n := 39) rfl ?_)
  refine lv_iadd hx hb dJ6_bitCount_0f7a4_39 (hp_n (n := 40) rfl ?_)
  refine lv_topi (fun x4 ex4 => ?_)
  replace hf := ms_lE ex4 hf
  refine lv_istore_n (lv' := [(0, .int x4)]) hx hb dJ6_bitCount_0f7a4_40 rfl hl (by decide) rfl (fun ls hl => hp_n (n := 41) rfl ?_)
  refine lv_iload_n hx hb dJ6_bitCount_0f7a4_41 rfl (lv_at hl 0 rfl) (hp_n (n := 42) rfl ?_)
  refine lv_iload_n hx hb dJ6_bitCount_0f7a4_42 rfl (lv_at hl 0 rfl) (hp_n (n := 43) rfl ?_)
  refine lv_bipush (v := 16) hx hb dJ6_bitCount_0f7a4_43 (by decide) (hp_n (n := 45) rfl ?_)
  refine lv_iushr hx hb dJ6_bitCount_0f7a4_45 rfl (hp_n (n := 46) rfl ?_)
  refine lv_iadd hx hb dJ6_bitCount_0f7a4_46 (hp_n (n := 47) rfl ?_)
  refine lv_topi (fun x5 ex5 => ?_)
  replace hf := ms_lE ex5 hf
  refine lv_istore_n (lv' := [(0, .int x5)]) hx hb dJ6_bitCount_0f7a4_47 rfl hl (by decide) rfl (fun ls hl => hp_n (n := 48) rfl ?_)
  refine lv_iload_n hx hb dJ6_bitCount_0f7a4_48 rfl (lv_at hl 0 rfl) (hp_n (n := 49) rfl ?_)
  refine lv_bipush (v := 63) hx hb dJ6_bitCount_0f7a4_49 (by decide) (hp_n (n := 51) rfl ?_)
  refine lv_iand hx hb dJ6_bitCount_0f7a4_51 (hp_n (n := 52) rfl ?_)
  cases hf
  exact q_iret C B hr hlk ⟨rfl, rfl⟩ dJ6_bitCount_0f7a4_52
def f_X5_putPeak_J64 (n : Nat) (a0 : Nat) (αh2 : hp_T) (v4_h2 : Int32) : Option hp_T :=
  ms_b (f_X5_put n αh2 a0 v4_h2) fun αh3 =>
  some αh3
def f_X5_putPeak_L9 (n : Nat) (a0 : Nat) : Nat → hp_T → Int32 → Int32 → Int32 → Int32 → Option hp_T
  | 0, _, _, _, _, _ => none
  | k9 + 1, αh1, v1_h1, v4_h1, v5_h1, v6_h1 =>
    if (31 : Int32) ≤ v6_h1 then
      f_X5_putPeak_J64 n a0 αh1 v4_h1
    else
      if (v5_h1 &&& (1 : Int32)) = (1 : Int32) then
        ms_l (hp_I αh1 301 a0) fun x6 =>
        ms_b (f_X5_at n αh1 a0 (x6 - (1 : Int32))) fun rh7 =>
        ms_b (f_X11_markOfTwo n v1_h1 rh7 v4_h1) fun rh8 =>
        ms_l (hp_I αh1 301 a0) fun x9 =>
        ms_b (f_X5_shorten n αh1 a0 (x9 - (1 : Int32))) fun αh10 =>
        ms_l (((v5_h1).toUInt32 >>> (((1 : Int32)).toUInt32 &&& Int32.toUInt32 31)).toInt32) fun x11 =>
        ms_l (v6_h1 + 1) fun x12 =>
        (f_X5_putPeak_L9 n a0 k9) αh10 v1_h1 rh8 x11 x12
      else
        f_X5_putPeak_J64 n a0 αh1 v4_h1
def f_X5_putPeak (n : Nat) (α : hp_T) (a0 : Nat) (a1 : Int32) (a2 : Int32) (a3 : Int32) : Option hp_T :=
  f_X5_putPeak_L9 n a0 n α a1 a3 a2 (0 : Int32)
set_option maxRecDepth 100000 in
set_option maxHeartbeats 4000000 in
theorem n_X5_putPeak (n : Nat) (Γ : hp_G) (l : Launch) (α : hp_T) (g : GC α) (a0 : Nat) (k0 : hp_K α a0 = 6) (a1 : Int32) (a2 : Int32) (a3 : Int32) (res : hp_T) (hf : f_X5_putPeak n α a0 a1 a2 a3 = some res) : Met l yX5_putPeak (hp_ws yX5_putPeak cX5_putPeak 7 none) (hp_rm 1 0 0) (hp_Pc Γ α [.ref a0, .int a1, .int a2, .int a3]) (hp_Qv Γ (fun β => β = res ∧ cw w_X5_putPeak α β)) 0 0 (hp_A Γ) := by
  unfold f_X5_putPeak at hf
  refine hp_start (by decide) ?_
  intro p e s m below meth c C hr hlk B0 hnm
  have C : hp_C Γ p m c cX5_putPeak 7 s ([.ref a0, .int a1, .int a2, .int a3] : List Value).toArray RX5 := C
  have hx := C.1.1
  have hb := C.1.2.1
  have hown := C.1.2.2.2.1
  have hts := C.1.2.2.2.2
  have B : hp_B Γ (cw w_X5_putPeak) s α α s.heap [] := ⟨B0.1, B0.2.1, cw_rf g⟩
  have hl := lv_entry ([.ref a0, .int a1, .int a2, .int a3]) (n := 7) (Nat.le_of_ble_eq_true rfl)
  show W p l e (hp_rm 1 0 0) s m ([.ref a0, .int a1, .int a2, .int a3] : List Value).toArray below meth c s.heap [] 0 0 (MQ below (hp_Qv Γ (fun β => β = res ∧ cw w_X5_putPeak α β)) ([.ref a0, .int a1, .int a2, .int a3] : List Value).toArray s 0 0 (hp_A Γ)) (entryFrame m ([.ref a0, .int a1, .int a2, .int a3] : List Value).toArray 7)
  rw [lg_entry_eq]
  generalize (lg_sl ([.ref a0, .int a1, .int a2, .int a3]) ++ List.replicate (7 - (lg_sl ([.ref a0, .int a1, .int a2, .int a3])).length) Slot.unset).toArray = ls at hl ⊢
  have hl : lv_has ls 7 [(0, .ref a0), (1, .int a1), (2, .int a2), (3, .int a3)] := hl
  refine lv_iload_n hx hb dX5_putPeak_0 rfl (lv_at hl 3 rfl) (hp_n (n := 1) rfl ?_)
  refine lv_istore (lv' := [(4, .int a3), (0, .ref a0), (1, .int a1), (2, .int a2), (3, .int a3)]) hx hb dX5_putPeak_1 hl (by decide) rfl (fun ls hl => hp_n (n := 3) rfl ?_)
  refine lv_iload_n hx hb dX5_putPeak_3 rfl (lv_at hl 3 rfl) (hp_n (n := 4) rfl ?_)
  refine lv_istore (lv' := [(5, .int a2), (4, .int a3), (0, .ref a0), (1, .int a1), (2, .int a2), (3, .int a3)]) hx hb dX5_putPeak_4 hl (by decide) rfl (fun ls hl => hp_n (n := 6) rfl ?_)
  refine lv_iconst (v := 0) hx hb dX5_putPeak_6 (by decide) (hp_n (n := 7) rfl ?_)
  have J9 : ∀ (k9 : Nat) (αh1 : hp_T) (Hh1 : Heap) (Lh1 : List Loc) (Bh1 : hp_B Γ (cw w_X5_putPeak) s α αh1 Hh1 Lh1) (v1_h1 : Int32) (v4_h1 : Int32) (v5_h1 : Int32) (v6_h1 : Int32) (ls : Array Slot) (hl : lv_has ls 7 [(0, .ref a0), (1, .int v1_h1), (4, .int v4_h1), (5, .int v5_h1), (6, .int v6_h1)]) (hf : f_X5_putPeak_L9 n a0 k9 αh1 v1_h1 v4_h1 v5_h1 v6_h1 = some res), W p l e (hp_rm 1 0 0) s m ([.ref a0, .int a1, .int a2, .int a3] : List Value).toArray below meth c Hh1 Lh1 0 0 (MQ below (hp_Qv Γ (fun β => β = res ∧ cw w_X5_putPeak α β)) ([.ref a0, .int a1, .int a2, .int a3] : List Value).toArray s 0 0 (hp_A Γ)) (F0 m 9 ls []) := by
    intro k9
    induction k9 with
    | zero => intro αh1 Hh1 Lh1 Bh1 v1_h1 v4_h1 v5_h1 v6_h1 ls hl hf; rw [f_X5_putPeak_L9.eq_1] at hf; cases hf
    | succ k9 ih9 =>
      intro αh1 Hh1 Lh1 Bh1 v1_h1 v4_h1 v5_h1 v6_h1 ls hl hf
      rw [f_X5_putPeak_L9.eq_2] at hf
      refine lv_iload hx hb dX5_putPeak_9 (lv_at hl 4 rfl) (hp_n (n := 11) rfl ?_)
      refine lv_bipush (v := 31) hx hb dX5_putPeak_11 (by decide) (hp_n (n := 13) rfl ?_)
      have J64 : ∀ (αh2 : hp_T) (Hh2 : Heap) (Lh2 : List Loc) (Bh2 : hp_B Γ (cw w_X5_putPeak) s α αh2 Hh2 Lh2) (v4_h2 : Int32) (ls : Array Slot) (hl : lv_has ls 7 [(0, .ref a0), (4, .int v4_h2)]) (hf : f_X5_putPeak_J64 n a0 αh2 v4_h2 = some res), W p l e (hp_rm 1 0 0) s m ([.ref a0, .int a1, .int a2, .int a3] : List Value).toArray below meth c Hh2 Lh2 0 0 (MQ below (hp_Qv Γ (fun β => β = res ∧ cw w_X5_putPeak α β)) ([.ref a0, .int a1, .int a2, .int a3] : List Value).toArray s 0 0 (hp_A Γ)) (F0 m 64 ls []) := by
        intro αh2 Hh2 Lh2 Bh2 v4_h2 ls hl hf
        unfold f_X5_putPeak_J64 at hf
        refine lv_aload_n hx hb dX5_putPeak_64 rfl (lv_at hl 0 rfl) (hp_n (n := 65) rfl ?_)
        refine lv_iload hx hb dX5_putPeak_65 (lv_at hl 1 rfl) (hp_n (n := 67) rfl ?_)
        obtain ⟨αh3, qh3, hf⟩ := ms_bE hf
        refine d_cv (pc' := 70) Bh2 (hp_runV (As := [.int v4_h2]) (rest := []) C Bh2 (n_X5_put n Γ l αh2 Bh2.2.2.1 a0 (cw_k Bh2.2.2 k0) v4_h2 αh3 qh3) lb_X5_put lv_X5_put lk_X5_31 (cw_k Bh2.2.2 k0) rfl (by decide) rfl hl.1 rfl (Nat.le_of_ble_eq_true rfl) dX5_putPeak_67 ⟨Nat.le_refl _, Nat.le_refl _⟩) (by decide) rfl (fun Hh3 Lh3 Bh3 => ?_)
        cases hf
        exact q_vret C Bh3 hr hlk ⟨rfl, Bh3.2.2⟩ dX5_putPeak_70
      refine lv_icmp_ge (tgt := 64) hx hb dX5_putPeak_13 (by decide) (fun c4 => ?_) (fun c4 => hp_n (n := 16) rfl ?_)
      ·
        replace hf := ms_iT c4 hf
        exact J64 αh1 Hh1 Lh1 Bh1 v4_h1 ls (lv_sub hl [0, 2] rfl) hf
      ·
        replace hf := ms_iF c4 hf
        refine lv_iload hx hb dX5_putPeak_16 (lv_at hl 3 rfl) (hp_n (n := 18) rfl ?_)
        refine lv_iconst (v := 1) hx hb dX5_putPeak_18 (by decide) (hp_n (n := 19) rfl ?_)
        refine lv_iand hx hb dX5_putPeak_19 (hp_n (n := 20) rfl ?_)
        refine lv_iconst (v := 1) hx hb dX5_putPeak_20 (by decide) (hp_n (n := 21) rfl ?_)
        refine lv_icmp_ne (tgt := 64) hx hb dX5_putPeak_21 (by decide) (fun c5 => ?_) (fun c5 => hp_n (n := 24) rfl ?_)
        ·
          replace hf := ms_iF c5 hf
          exact J64 αh1 Hh1 Lh1 Bh1 v4_h1 ls (lv_sub hl [0, 2] rfl) hf
        ·
          replace hf := ms_iT c5 hf
          refine lv_iload_n hx hb dX5_putPeak_24 rfl (lv_at hl 1 rfl) (hp_n (n := 25) rfl ?_)
          refine lv_aload_n hx hb dX5_putPeak_25 rfl (lv_at hl 0 rfl) (hp_n (n := 26) rfl ?_)
          refine lv_aload_n hx hb dX5_putPeak_26 rfl (lv_at hl 0 rfl) (hp_n (n := 27) rfl ?_)
          refine q_geti (κ := 6) (k := 1) (φ := 301) (pc' := 30) C Bh1 (cw_k Bh1.2.2 k0) fl_X5_15 rfl rfl rfl dX5_putPeak_27 rfl (fun x6 ex6 => ?_)
          replace hf := ms_lE ex6 hf
          refine lv_iconst (v := 1) hx hb dX5_putPeak_30 (by decide) (hp_n (n := 31) rfl ?_)
          refine lv_isub hx hb dX5_putPeak_31 (hp_n (n := 32) rfl ?_)
          obtain ⟨rh7, qh7, hf⟩ := ms_bE hf
          refine d_pi (pc' := 35) Bh1 (hp_runV (As := [.int (x6 - (1 : Int32))]) (rest := [.int v1_h1]) C Bh1 (n_X5_at n Γ l αh1 Bh1.2.2.1 a0 (cw_k Bh1.2.2 k0) (x6 - (1 : Int32)) rh7 qh7) lb_X5_at lv_X5_at lk_X5_19 (cw_k Bh1.2.2 k0) rfl (by decide) rfl hl.1 rfl (Nat.le_of_ble_eq_true rfl) dX5_putPeak_32 ⟨Nat.le_refl _, Nat.le_refl _⟩) rfl (fun Hh7 Lh7 Bh7 => ?_)
          refine lv_iload hx hb dX5_putPeak_35 (lv_at hl 2 rfl) (hp_n (n := 37) rfl ?_)
          obtain ⟨rh8, qh8, hf⟩ := ms_bE hf
          refine d_pi (pc' := 40) Bh7 (hp_runS (As := [.int v1_h1, .int rh7, .int v4_h1]) (rest := []) C Bh7 (n_X11_markOfTwo n Γ l αh1 Bh7.2.2.1 v1_h1 rh7 v4_h1 rh8 qh8) lb_X11_markOfTwo ls_X11_markOfTwo lk_X5_23 rfl (by decide) rfl hl.1 rfl (Nat.le_of_ble_eq_true rfl) dX5_putPeak_37 ⟨Nat.le_refl _, Nat.le_refl _⟩) rfl (fun Hh8 Lh8 Bh8 => ?_)
          refine lv_istore (lv' := [(4, .int rh8), (0, .ref a0), (1, .int v1_h1), (5, .int v5_h1), (6, .int v6_h1)]) hx hb dX5_putPeak_40 hl (by decide) rfl (fun ls hl => hp_n (n := 42) rfl ?_)
          refine lv_aload_n hx hb dX5_putPeak_42 rfl (lv_at hl 1 rfl) (hp_n (n := 43) rfl ?_)
          refine lv_aload_n hx hb dX5_putPeak_43 rfl (lv_at hl 1 rfl) (hp_n (n := 44) rfl ?_)
          refine q_geti (κ := 6) (k := 1) (φ := 301) (pc' := 47) C Bh8 (cw_k Bh8.2.2 k0) fl_X5_15 rfl rfl rfl dX5_putPeak_44 rfl (fun x9 ex9 => ?_)
          replace hf := ms_lE ex9 hf
          refine lv_iconst (v := 1) hx hb dX5_putPeak_47 (by decide) (hp_n (n := 48) rfl ?_)
          refine lv_isub hx hb dX5_putPeak_48 (hp_n (n := 49) rfl ?_)
          obtain ⟨αh10, qh10, hf⟩ := ms_bE hf
          refine d_cv (pc' := 52) Bh8 (hp_runV (As := [.int (x9 - (1 : Int32))]) (rest := []) C Bh8 (n_X5_shorten n Γ l αh1 Bh8.2.2.1 a0 (cw_k Bh8.2.2 k0) (x9 - (1 : Int32)) αh10 qh10) lb_X5_shorten lv_X5_shorten lk_X5_27 (cw_k Bh8.2.2 k0) rfl (by decide) rfl hl.1 rfl (Nat.le_of_ble_eq_true rfl) dX5_putPeak_49 ⟨Nat.le_refl _, Nat.le_refl _⟩) (by decide) rfl (fun Hh10 Lh10 Bh10 => ?_)
          refine lv_iload hx hb dX5_putPeak_52 (lv_at hl 3 rfl) (hp_n (n := 54) rfl ?_)
          refine lv_iconst (v := 1) hx hb dX5_putPeak_54 (by decide) (hp_n (n := 55) rfl ?_)
          refine lv_iushr hx hb dX5_putPeak_55 rfl (hp_n (n := 56) rfl ?_)
          refine lv_topi (fun x11 ex11 => ?_)
          replace hf := ms_lE ex11 hf
          refine lv_istore (lv' := [(5, .int x11), (4, .int rh8), (0, .ref a0), (1, .int v1_h1), (6, .int v6_h1)]) hx hb dX5_putPeak_56 hl (by decide) rfl (fun ls hl => hp_n (n := 58) rfl ?_)
          obtain ⟨x12, ex12⟩ : ∃ y : Int32, y = v6_h1 + 1 := ⟨_, rfl⟩
          replace hf := ms_lE ex12 hf
          refine lv_iinc (v := x12) (lv' := [(6, .int x12), (5, .int x11), (4, .int rh8), (0, .ref a0), (1, .int v1_h1)]) hx hb dX5_putPeak_58 hl (k := 4) rfl (by rw [ex12]; rfl) (by decide) rfl (fun ls hl => hp_n (n := 61) rfl ?_)
          refine lv_goto (tgt := 9) hx hb dX5_putPeak_61 (by decide) ?_
          exact ih9 αh10 Hh10 Lh10 Bh10 v1_h1 rh8 x11 x12 ls (lv_sub hl [3, 4, 2, 1, 0] rfl) hf
  refine lv_istore (lv' := [(6, .int (0 : Int32)), (5, .int a2), (4, .int a3), (0, .ref a0), (1, .int a1), (2, .int a2), (3, .int a3)]) hx hb dX5_putPeak_7 hl (by decide) rfl (fun ls hl => hp_n (n := 9) rfl ?_)
  exact J9 n α s.heap [] B a1 a3 a2 (0 : Int32) ls (lv_sub hl [3, 4, 2, 1, 0] rfl) hf
def f_X11_extend_J19 (n : Nat) (a0 : Nat) (αh1 : hp_T) : Option (Int32 × hp_T) :=
  hq_c (f_X11_refuse n αh1 a0 (1 : Int32)) fun rh2 αh2 =>
  some (rh2, αh2)
def f_X11_extend (n : Nat) (α : hp_T) (a0 : Nat) (a1 : Int32) (a2 : Int32) : Option (Int32 × hp_T) :=
  if a1 < 0 then
    f_X11_extend_J19 n a0 α
  else
    if (1000000 : Int32) < a1 then
      f_X11_extend_J19 n a0 α
    else
      ms_b (f_X11_isMark n α a0 a2) fun rh5 =>
      if rh5 = 0 then
        f_X11_extend_J19 n a0 α
      else
        ms_l (hp_R α 603 a0) fun b7 =>
        ms_l (hp_I α 301 b7) fun x8 =>
        ms_b (f_J6_bitCount_0f7a4 n a1) fun rh9 =>
        if x8 = rh9 then
          ms_l (hp_R α 603 a0) fun b11 =>
          ms_l (hp_R α 601 a0) fun b12 =>
          ms_l (hp_I α 550 b12) fun x13 =>
          ms_b (f_X5_putPeak n α b11 x13 a1 a2) fun αh14 =>
          ms_l (hp_R αh14 603 a0) fun b15 =>
          ms_l (hp_I αh14 301 b15) fun x16 =>
          hq_c (f_X11_answer n αh14 a0 x16) fun rh17 αh17 =>
          some (rh17, αh17)
        else
          hq_c (f_X11_refuse n α a0 (5 : Int32)) fun rh18 αh18 =>
          some (rh18, αh18)
set_option maxRecDepth 100000 in
set_option maxHeartbeats 4000000 in
theorem n_X11_extend (n : Nat) (Γ : hp_G) (l : Launch) (α : hp_T) (g : GC α) (a0 : Nat) (k0 : hp_K α a0 = 12) (a1 : Int32) (a2 : Int32) (res : (Int32 × hp_T)) (hf : f_X11_extend n α a0 a1 a2 = some res) : Met l yX11_extend (hp_ws yX11_extend cX11_extend 3 (some .int)) (hp_rm 2 0 0) (hp_Pc Γ α [.ref a0, .int a1, .int a2]) (hp_Qi Γ (fun r β => r = res.1 ∧ β = res.2 ∧ cw w_X11_extend α β)) 0 0 (hp_A Γ) := by
  unfold f_X11_extend at hf
  refine hp_start (by decide) ?_
  intro p e s m below meth c C hr hlk B0 hnm
  have C : hp_C Γ p m c cX11_extend 3 s ([.ref a0, .int a1, .int a2] : List Value).toArray RX11 := C
  have hx := C.1.1
  have hb := C.1.2.1
  have hown := C.1.2.2.2.1
  have hts := C.1.2.2.2.2
  have B : hp_B Γ (cw w_X11_extend) s α α s.heap [] := ⟨B0.1, B0.2.1, cw_rf g⟩
  have hl := lv_entry ([.ref a0, .int a1, .int a2]) (n := 3) (Nat.le_of_ble_eq_true rfl)
  show W p l e (hp_rm 2 0 0) s m ([.ref a0, .int a1, .int a2] : List Value).toArray below meth c s.heap [] 0 0 (MQ below (hp_Qi Γ (fun r β => r = res.1 ∧ β = res.2 ∧ cw w_X11_extend α β)) ([.ref a0, .int a1, .int a2] : List Value).toArray s 0 0 (hp_A Γ)) (entryFrame m ([.ref a0, .int a1, .int a2] : List Value).toArray 3)
  rw [lg_entry_eq]
  generalize (lg_sl ([.ref a0, .int a1, .int a2]) ++ List.replicate (3 - (lg_sl ([.ref a0, .int a1, .int a2])).length) Slot.unset).toArray = ls at hl ⊢
  have hl : lv_has ls 3 [(0, .ref a0), (1, .int a1), (2, .int a2)] := hl
  refine lv_iload_n hx hb dX11_extend_0 rfl (lv_at hl 1 rfl) (hp_n (n := 1) rfl ?_)
  have J19 : ∀ (αh1 : hp_T) (Hh1 : Heap) (Lh1 : List Loc) (Bh1 : hp_B Γ (cw w_X11_extend) s α αh1 Hh1 Lh1) (ls : Array Slot) (hl : lv_has ls 3 [(0, .ref a0)]) (hf : f_X11_extend_J19 n a0 αh1 = some res), W p l e (hp_rm 2 0 0) s m ([.ref a0, .int a1, .int a2] : List Value).toArray below meth c Hh1 Lh1 0 0 (MQ below (hp_Qi Γ (fun r β => r = res.1 ∧ β = res.2 ∧ cw w_X11_extend α β)) ([.ref a0, .int a1, .int a2] : List Value).toArray s 0 0 (hp_A Γ)) (F0 m 19 ls []) := by
    intro αh1 Hh1 Lh1 Bh1 ls hl hf
    unfold f_X11_extend_J19 at hf
    refine lv_aload_n hx hb dX11_extend_19 rfl (lv_at hl 0 rfl) (hp_n (n := 20) rfl ?_)
    refine lv_iconst (v := 1) hx hb dX11_extend_20 (by decide) (hp_n (n := 21) rfl ?_)
    obtain ⟨rh2, αh2, qh2, hf⟩ := hq_cE hf
    refine d_ci (pc' := 24) Bh1 (hp_runV (As := [.int (1 : Int32)]) (rest := []) C Bh1 (n_X11_refuse n Γ l αh1 Bh1.2.2.1 a0 (cw_k Bh1.2.2 k0) (1 : Int32) (rh2, αh2) qh2) lb_X11_refuse lv_X11_refuse lk_X11_98 (cw_k Bh1.2.2 k0) rfl (by decide) rfl hl.1 rfl (Nat.le_of_ble_eq_true rfl) dX11_extend_21 ⟨Nat.le_refl _, Nat.le_refl _⟩) (by decide) rfl (fun Hh2 Lh2 Bh2 => ?_)
    cases hf
    exact q_iret C Bh2 hr hlk ⟨rfl, rfl, Bh2.2.2⟩ dX11_extend_24
  refine lv_if_lt (tgt := 19) hx hb dX11_extend_1 (by decide) (fun c3 => ?_) (fun c3 => hp_n (n := 4) rfl ?_)
  ·
    replace hf := ms_iT c3 hf
    exact J19 α s.heap [] B ls (lv_sub hl [0] rfl) hf
  ·
    replace hf := ms_iF c3 hf
    refine lv_iload_n hx hb dX11_extend_4 rfl (lv_at hl 1 rfl) (hp_n (n := 5) rfl ?_)
    refine lv_ldcw hx hb hown (hts _ kc_X11_291) dX11_extend_5 (hp_n (n := 8) rfl ?_)
    refine lv_icmp_gt (tgt := 19) hx hb dX11_extend_8 (by decide) (fun c4 => ?_) (fun c4 => hp_n (n := 11) rfl ?_)
    ·
      replace hf := ms_iT c4 hf
      exact J19 α s.heap [] B ls (lv_sub hl [0] rfl) hf
    ·
      replace hf := ms_iF c4 hf
      refine lv_aload_n hx hb dX11_extend_11 rfl (lv_at hl 0 rfl) (hp_n (n := 12) rfl ?_)
      refine lv_iload_n hx hb dX11_extend_12 rfl (lv_at hl 2 rfl) (hp_n (n := 13) rfl ?_)
      obtain ⟨rh5, qh5, hf⟩ := ms_bE hf
      refine d_pi (pc' := 16) B (hp_runV (As := [.int a2]) (rest := []) C B (n_X11_isMark n Γ l α B.2.2.1 a0 (cw_k B.2.2 k0) a2 rh5 qh5) lb_X11_isMark lv_X11_isMark lk_X11_188 (cw_k B.2.2 k0) rfl (by decide) rfl hl.1 rfl (Nat.le_of_ble_eq_true rfl) dX11_extend_13 ⟨Nat.le_refl _, Nat.le_refl _⟩) rfl (fun Hh5 Lh5 Bh5 => ?_)
      refine lv_if_ne (tgt := 25) hx hb dX11_extend_16 (by decide) (fun c6 => ?_) (fun c6 => hp_n (n := 19) rfl ?_)
      ·
        replace hf := ms_iF c6 hf
        refine lv_aload_n hx hb dX11_extend_25 rfl (lv_at hl 0 rfl) (hp_n (n := 26) rfl ?_)
        refine q_getr (κ := 12) (k := 3) (φ := 603) (pc' := 29) C Bh5 (cw_k Bh5.2.2 k0) fl_X11_26 rfl rfl rfl (cw_r Bh5.2.2 k0 rfl rfl (by decide) (by decide)) dX11_extend_26 rfl (fun b7 eb7 kb7 => ?_)
        replace hf := ms_lE eb7 hf
        refine q_geti (κ := 6) (k := 1) (φ := 301) (pc' := 32) C Bh5 (cw_k Bh5.2.2 kb7) fl_X11_132 rfl rfl rfl dX11_extend_29 rfl (fun x8 ex8 => ?_)
        replace hf := ms_lE ex8 hf
        refine lv_iload_n hx hb dX11_extend_32 rfl (lv_at hl 1 rfl) (hp_n (n := 33) rfl ?_)
        obtain ⟨rh9, qh9, hf⟩ := ms_bE hf
        refine d_pi (pc' := 36) Bh5 (hp_runS (As := [.int a1]) (rest := [.int x8]) C Bh5 (n_J6_bitCount_0f7a4 n Γ l α Bh5.2.2.1 a1 rh9 qh9) lb_J6_bitCount_0f7a4 ls_J6_bitCount_0f7a4 lk_X11_292 rfl (by decide) rfl hl.1 rfl (Nat.le_of_ble_eq_true rfl) dX11_extend_33 ⟨Nat.le_refl _, Nat.le_refl _⟩) rfl (fun Hh9 Lh9 Bh9 => ?_)
        refine lv_icmp_eq (tgt := 45) hx hb dX11_extend_36 (by decide) (fun c10 => ?_) (fun c10 => hp_n (n := 39) rfl ?_)
        ·
          replace hf := ms_iT c10 hf
          refine lv_aload_n hx hb dX11_extend_45 rfl (lv_at hl 0 rfl) (hp_n (n := 46) rfl ?_)
          refine q_getr (κ := 12) (k := 3) (φ := 603) (pc' := 49) C Bh9 (cw_k Bh9.2.2 k0) fl_X11_26 rfl rfl rfl (cw_r Bh9.2.2 k0 rfl rfl (by decide) (by decide)) dX11_extend_46 rfl (fun b11 eb11 kb11 => ?_)
          replace hf := ms_lE eb11 hf
          refine lv_aload_n hx hb dX11_extend_49 rfl (lv_at hl 0 rfl) (hp_n (n := 50) rfl ?_)
          refine q_getr (κ := 12) (k := 1) (φ := 601) (pc' := 53) C Bh9 (cw_k Bh9.2.2 k0) fl_X11_16 rfl rfl rfl (cw_r Bh9.2.2 k0 rfl rfl (by decide) (by decide)) dX11_extend_50 rfl (fun b12 eb12 kb12 => ?_)
          replace hf := ms_lE eb12 hf
          refine q_geti (κ := 11) (k := 0) (φ := 550) (pc' := 56) C Bh9 (cw_k Bh9.2.2 kb12) fl_X11_122 rfl rfl rfl dX11_extend_53 rfl (fun x13 ex13 => ?_)
          replace hf := ms_lE ex13 hf
          refine lv_iload_n hx hb dX11_extend_56 rfl (lv_at hl 1 rfl) (hp_n (n := 57) rfl ?_)
          refine lv_iload_n hx hb dX11_extend_57 rfl (lv_at hl 2 rfl) (hp_n (n := 58) rfl ?_)
          obtain ⟨αh14, qh14, hf⟩ := ms_bE hf
          refine d_cv (pc' := 61) Bh9 (hp_runV (As := [.int x13, .int a1, .int a2]) (rest := []) C Bh9 (n_X5_putPeak n Γ l α Bh9.2.2.1 b11 (cw_k Bh9.2.2 kb11) x13 a1 a2 αh14 qh14) lb_X5_putPeak lv_X5_putPeak lk_X11_297 (cw_k Bh9.2.2 kb11) rfl (by decide) rfl hl.1 rfl (Nat.le_of_ble_eq_true rfl) dX11_extend_58 ⟨Nat.le_refl _, Nat.le_refl _⟩) (by decide) rfl (fun Hh14 Lh14 Bh14 => ?_)
          refine lv_aload_n hx hb dX11_extend_61 rfl (lv_at hl 0 rfl) (hp_n (n := 62) rfl ?_)
          refine lv_aload_n hx hb dX11_extend_62 rfl (lv_at hl 0 rfl) (hp_n (n := 63) rfl ?_)
          refine q_getr (κ := 12) (k := 3) (φ := 603) (pc' := 66) C Bh14 (cw_k Bh14.2.2 k0) fl_X11_26 rfl rfl rfl (cw_r Bh14.2.2 k0 rfl rfl (by decide) (by decide)) dX11_extend_63 rfl (fun b15 eb15 kb15 => ?_)
          replace hf := ms_lE eb15 hf
          refine q_geti (κ := 6) (k := 1) (φ := 301) (pc' := 69) C Bh14 (cw_k Bh14.2.2 kb15) fl_X11_132 rfl rfl rfl dX11_extend_66 rfl (fun x16 ex16 => ?_)
          replace hf := ms_lE ex16 hf
          obtain ⟨rh17, αh17, qh17, hf⟩ := hq_cE hf
          refine d_ci (pc' := 72) Bh14 (hp_runV (As := [.int x16]) (rest := []) C Bh14 (n_X11_answer n Γ l αh14 Bh14.2.2.1 a0 (cw_k Bh14.2.2 k0) x16 (rh17, αh17) qh17) lb_X11_answer lv_X11_answer lk_X11_115 (cw_k Bh14.2.2 k0) rfl (by decide) rfl hl.1 rfl (Nat.le_of_ble_eq_true rfl) dX11_extend_69 ⟨Nat.le_refl _, Nat.le_refl _⟩) (by decide) rfl (fun Hh17 Lh17 Bh17 => ?_)
          cases hf
          exact q_iret C Bh17 hr hlk ⟨rfl, rfl, Bh17.2.2⟩ dX11_extend_72
        ·
          replace hf := ms_iF c10 hf
          refine lv_aload_n hx hb dX11_extend_39 rfl (lv_at hl 0 rfl) (hp_n (n := 40) rfl ?_)
          refine lv_iconst (v := 5) hx hb dX11_extend_40 (by decide) (hp_n (n := 41) rfl ?_)
          obtain ⟨rh18, αh18, qh18, hf⟩ := hq_cE hf
          refine d_ci (pc' := 44) Bh9 (hp_runV (As := [.int (5 : Int32)]) (rest := []) C Bh9 (n_X11_refuse n Γ l α Bh9.2.2.1 a0 (cw_k Bh9.2.2 k0) (5 : Int32) (rh18, αh18) qh18) lb_X11_refuse lv_X11_refuse lk_X11_98 (cw_k Bh9.2.2 k0) rfl (by decide) rfl hl.1 rfl (Nat.le_of_ble_eq_true rfl) dX11_extend_41 ⟨Nat.le_refl _, Nat.le_refl _⟩) (by decide) rfl (fun Hh18 Lh18 Bh18 => ?_)
          cases hf
          exact q_iret C Bh18 hr hlk ⟨rfl, rfl, Bh18.2.2⟩ dX11_extend_44
      ·
        replace hf := ms_iT c6 hf
        exact J19 α Hh5 Lh5 Bh5 ls (lv_sub hl [0] rfl) hf
def f_X11_isSet (n : Nat) (a0 : Int32) : Option Int32 :=
  if a0 ≤ 0 then
    some (0 : Int32)
  else
    some (1 : Int32)
set_option maxRecDepth 100000 in
set_option maxHeartbeats 4000000 in
theorem n_X11_isSet (n : Nat) (Γ : hp_G) (l : Launch) (α : hp_T) (g : GC α) (a0 : Int32) (res : Int32) (hf : f_X11_isSet n a0 = some res) : Met l yX11_isSet (hp_ws yX11_isSet cX11_isSet 1 (some .boolean)) (hp_rm 0 0 0) (hp_Pc Γ α [.int a0]) (hp_Qi Γ (fun r β => β = α ∧ r = res)) 0 0 (hp_A Γ) := by
  unfold f_X11_isSet at hf
  refine hp_start (by decide) ?_
  intro p e s m below meth c C hr hlk B0 hnm
  have C : hp_C Γ p m c cX11_isSet 1 s ([.int a0] : List Value).toArray RX11 := C
  have hx := C.1.1
  have hb := C.1.2.1
  have hown := C.1.2.2.2.1
  have hts := C.1.2.2.2.2
  have B : hp_B Γ (cw w_X11_isSet) s α α s.heap [] := ⟨B0.1, B0.2.1, cw_rf g⟩
  have hl := lv_entry ([.int a0]) (n := 1) (Nat.le_of_ble_eq_true rfl)
  show W p l e (hp_rm 0 0 0) s m ([.int a0] : List Value).toArray below meth c s.heap [] 0 0 (MQ below (hp_Qi Γ (fun r β => β = α ∧ r = res)) ([.int a0] : List Value).toArray s 0 0 (hp_A Γ)) (entryFrame m ([.int a0] : List Value).toArray 1)
  rw [lg_entry_eq]
  generalize (lg_sl ([.int a0]) ++ List.replicate (1 - (lg_sl ([.int a0])).length) Slot.unset).toArray = ls at hl ⊢
  have hl : lv_has ls 1 [(0, .int a0)] := hl
  refine lv_iload_n hx hb dX11_isSet_0 rfl (lv_at hl 0 rfl) (hp_n (n := 1) rfl ?_)
  refine lv_if_le (tgt := 8) hx hb dX11_isSet_1 (by decide) (fun c1 => ?_) (fun c1 => hp_n (n := 4) rfl ?_)
  ·
    replace hf := ms_iT c1 hf
    refine lv_iconst (v := 0) hx hb dX11_isSet_8 (by decide) (hp_n (n := 9) rfl ?_)
    cases hf
    exact q_zret C B hr hlk (by decide) ⟨rfl, rfl⟩ dX11_isSet_9
  ·
    replace hf := ms_iF c1 hf
    refine lv_iconst (v := 1) hx hb dX11_isSet_4 (by decide) (hp_n (n := 5) rfl ?_)
    refine lv_goto (tgt := 9) hx hb dX11_isSet_5 (by decide) ?_
    cases hf
    exact q_zret C B hr hlk (by decide) ⟨rfl, rfl⟩ dX11_isSet_9
def f_X11_lieBelow (n : Nat) (a0 : Int32) (a1 : Int32) : Option Int32 :=
  ms_b (f_J6_highestOneBit_0f7a4 n a0) fun rh1 =>
  ms_b (f_J9_min_7cf53 n a1 (30 : Int32)) fun rh2 =>
  ms_b (f_J9_max_7cf53 n (0 : Int32) rh2) fun rh3 =>
  if ((1 : Int32) <<< (rh3 &&& 31)) ≤ rh1 then
    some (0 : Int32)
  else
    some (1 : Int32)
set_option maxRecDepth 100000 in
set_option maxHeartbeats 4000000 in
theorem n_X11_lieBelow (n : Nat) (Γ : hp_G) (l : Launch) (α : hp_T) (g : GC α) (a0 : Int32) (a1 : Int32) (res : Int32) (hf : f_X11_lieBelow n a0 a1 = some res) : Met l yX11_lieBelow (hp_ws yX11_lieBelow cX11_lieBelow 2 (some .boolean)) (hp_rm 2 0 0) (hp_Pc Γ α [.int a0, .int a1]) (hp_Qi Γ (fun r β => β = α ∧ r = res)) 0 0 (hp_A Γ) := by
  unfold f_X11_lieBelow at hf
  refine hp_start (by decide) ?_
  intro p e s m below meth c C hr hlk B0 hnm
  have C : hp_C Γ p m c cX11_lieBelow 2 s ([.int a0, .int a1] : List Value).toArray RX11 := C
  have hx := C.1.1
  have hb := C.1.2.1
  have hown := C.1.2.2.2.1
  have hts := C.1.2.2.2.2
  have B : hp_B Γ (cw w_X11_lieBelow) s α α s.heap [] := ⟨B0.1, B0.2.1, cw_rf g⟩
  have hl := lv_entry ([.int a0, .int a1]) (n := 2) (Nat.le_of_ble_eq_true rfl)
  show W p l e (hp_rm 2 0 0) s m ([.int a0, .int a1] : List Value).toArray below meth c s.heap [] 0 0 (MQ below (hp_Qi Γ (fun r β => β = α ∧ r = res)) ([.int a0, .int a1] : List Value).toArray s 0 0 (hp_A Γ)) (entryFrame m ([.int a0, .int a1] : List Value).toArray 2)
  rw [lg_entry_eq]
  generalize (lg_sl ([.int a0, .int a1]) ++ List.replicate (2 - (lg_sl ([.int a0, .int a1])).length) Slot.unset).toArray = ls at hl ⊢
  have hl : lv_has ls 2 [(0, .int a0), (1, .int a1)] := hl
  refine lv_iload_n hx hb dX11_lieBelow_0 rfl (lv_at hl 0 rfl) (hp_n (n := 1) rfl ?_)
  obtain ⟨rh1, qh1, hf⟩ := ms_bE hf
  refine d_pi (pc' := 4) B (hp_runS (As := [.int a0]) (rest := []) C B (n_J6_highestOneBit_0f7a4 n Γ l α B.2.2.1 a0 rh1 qh1) lb_J6_highestOneBit_0f7a4 ls_J6_highestOneBit_0f7a4 lk_X11_463 rfl (by decide) rfl hl.1 rfl (Nat.le_of_ble_eq_true rfl) dX11_lieBelow_1 ⟨Nat.le_refl _, Nat.le_refl _⟩) rfl (fun Hh1 Lh1 Bh1 => ?_)
  refine lv_iconst (v := 1) hx hb dX11_lieBelow_4 (by decide) (hp_n (n := 5) rfl ?_)
  refine lv_iconst (v := 0) hx hb dX11_lieBelow_5 (by decide) (hp_n (n := 6) rfl ?_)
  refine lv_iload_n hx hb dX11_lieBelow_6 rfl (lv_at hl 1 rfl) (hp_n (n := 7) rfl ?_)
  refine lv_bipush (v := 30) hx hb dX11_lieBelow_7 (by decide) (hp_n (n := 9) rfl ?_)
  obtain ⟨rh2, qh2, hf⟩ := ms_bE hf
  refine d_pi (pc' := 12) Bh1 (hp_runS (As := [.int a1, .int (30 : Int32)]) (rest := [.int (0 : Int32), .int (1 : Int32), .int rh1]) C Bh1 (n_J9_min_7cf53 n Γ l α Bh1.2.2.1 a1 (30 : Int32) rh2 qh2) lb_J9_min_7cf53 ls_J9_min_7cf53 lk_X11_466 rfl (by decide) rfl hl.1 rfl (Nat.le_of_ble_eq_true rfl) dX11_lieBelow_9 ⟨Nat.le_refl _, Nat.le_refl _⟩) rfl (fun Hh2 Lh2 Bh2 => ?_)
  obtain ⟨rh3, qh3, hf⟩ := ms_bE hf
  refine d_pi (pc' := 15) Bh2 (hp_runS (As := [.int (0 : Int32), .int rh2]) (rest := [.int (1 : Int32), .int rh1]) C Bh2 (n_J9_max_7cf53 n Γ l α Bh2.2.2.1 (0 : Int32) rh2 rh3 qh3) lb_J9_max_7cf53 ls_J9_max_7cf53 lk_X11_471 rfl (by decide) rfl hl.1 rfl (Nat.le_of_ble_eq_true rfl) dX11_lieBelow_12 ⟨Nat.le_refl _, Nat.le_refl _⟩) rfl (fun Hh3 Lh3 Bh3 => ?_)
  refine lv_ishl hx hb dX11_lieBelow_15 (hp_n (n := 16) rfl ?_)
  refine lv_icmp_ge (tgt := 23) hx hb dX11_lieBelow_16 (by decide) (fun c4 => ?_) (fun c4 => hp_n (n := 19) rfl ?_)
  ·
    replace hf := ms_iT c4 hf
    refine lv_iconst (v := 0) hx hb dX11_lieBelow_23 (by decide) (hp_n (n := 24) rfl ?_)
    cases hf
    exact q_zret C Bh3 hr hlk (by decide) ⟨rfl, rfl⟩ dX11_lieBelow_24
  ·
    replace hf := ms_iF c4 hf
    refine lv_iconst (v := 1) hx hb dX11_lieBelow_19 (by decide) (hp_n (n := 20) rfl ?_)
    refine lv_goto (tgt := 24) hx hb dX11_lieBelow_20 (by decide) ?_
    cases hf
    exact q_zret C Bh3 hr hlk (by decide) ⟨rfl, rfl⟩ dX11_lieBelow_24
def f_X11_hasOneOf_J37 (n : Nat) (w0_h5 : Int32) : Option Int32 :=
  if w0_h5 = 0 then
    some (0 : Int32)
  else
    some (1 : Int32)
def f_X11_hasOneOf (n : Nat) (a0 : Int32) (a1 : Int32) (a2 : Int32) : Option Int32 :=
  if a1 < 0 then
    some (0 : Int32)
  else
    if (30 : Int32) ≤ a1 then
      some (0 : Int32)
    else
      if 0 < a2 then
        ms_l (((a0).toUInt32 >>> ((a1).toUInt32 &&& Int32.toUInt32 31)).toInt32) fun x4 =>
        if a2 < (30 : Int32) then
          f_X11_hasOneOf_J37 n (x4 &&& (((1 : Int32) <<< (a2 &&& 31)) - (1 : Int32)))
        else
          f_X11_hasOneOf_J37 n x4
      else
        some (0 : Int32)
set_option maxRecDepth 100000 in
set_option maxHeartbeats 4000000 in
theorem n_X11_hasOneOf (n : Nat) (Γ : hp_G) (l : Launch) (α : hp_T) (g : GC α) (a0 : Int32) (a1 : Int32) (a2 : Int32) (res : Int32) (hf : f_X11_hasOneOf n a0 a1 a2 = some res) : Met l yX11_hasOneOf (hp_ws yX11_hasOneOf cX11_hasOneOf 4 (some .boolean)) (hp_rm 0 0 0) (hp_Pc Γ α [.int a0, .int a1, .int a2]) (hp_Qi Γ (fun r β => β = α ∧ r = res)) 0 0 (hp_A Γ) := by
  unfold f_X11_hasOneOf at hf
  refine hp_start (by decide) ?_
  intro p e s m below meth c C hr hlk B0 hnm
  have C : hp_C Γ p m c cX11_hasOneOf 4 s ([.int a0, .int a1, .int a2] : List Value).toArray RX11 := C
  have hx := C.1.1
  have hb := C.1.2.1
  have hown := C.1.2.2.2.1
  have hts := C.1.2.2.2.2
  have B : hp_B Γ (cw w_X11_hasOneOf) s α α s.heap [] := ⟨B0.1, B0.2.1, cw_rf g⟩
  have hl := lv_entry ([.int a0, .int a1, .int a2]) (n := 4) (Nat.le_of_ble_eq_true rfl)
  show W p l e (hp_rm 0 0 0) s m ([.int a0, .int a1, .int a2] : List Value).toArray below meth c s.heap [] 0 0 (MQ below (hp_Qi Γ (fun r β => β = α ∧ r = res)) ([.int a0, .int a1, .int a2] : List Value).toArray s 0 0 (hp_A Γ)) (entryFrame m ([.int a0, .int a1, .int a2] : List Value).toArray 4)
  rw [lg_entry_eq]
  generalize (lg_sl ([.int a0, .int a1, .int a2]) ++ List.replicate (4 - (lg_sl ([.int a0, .int a1, .int a2])).length) Slot.unset).toArray = ls at hl ⊢
  have hl : lv_has ls 4 [(0, .int a0), (1, .int a1), (2, .int a2)] := hl
  refine lv_iload_n hx hb dX11_hasOneOf_0 rfl (lv_at hl 1 rfl) (hp_n (n := 1) rfl ?_)
  refine lv_if_lt (tgt := 14) hx hb dX11_hasOneOf_1 (by decide) (fun c1 => ?_) (fun c1 => hp_n (n := 4) rfl ?_)
  ·
    replace hf := ms_iT c1 hf
    refine lv_iconst (v := 0) hx hb dX11_hasOneOf_14 (by decide) (hp_n (n := 15) rfl ?_)
    cases hf
    exact q_zret C B hr hlk (by decide) ⟨rfl, rfl⟩ dX11_hasOneOf_15
  ·
    replace hf := ms_iF c1 hf
    refine lv_iload_n hx hb dX11_hasOneOf_4 rfl (lv_at hl 1 rfl) (hp_n (n := 5) rfl ?_)
    refine lv_bipush (v := 30) hx hb dX11_hasOneOf_5 (by decide) (hp_n (n := 7) rfl ?_)
    refine lv_icmp_ge (tgt := 14) hx hb dX11_hasOneOf_7 (by decide) (fun c2 => ?_) (fun c2 => hp_n (n := 10) rfl ?_)
    ·
      replace hf := ms_iT c2 hf
      refine lv_iconst (v := 0) hx hb dX11_hasOneOf_14 (by decide) (hp_n (n := 15) rfl ?_)
      cases hf
      exact q_zret C B hr hlk (by decide) ⟨rfl, rfl⟩ dX11_hasOneOf_15
    ·
      replace hf := ms_iF c2 hf
      refine lv_iload_n hx hb dX11_hasOneOf_10 rfl (lv_at hl 2 rfl) (hp_n (n := 11) rfl ?_)
      refine lv_if_gt (tgt := 16) hx hb dX11_hasOneOf_11 (by decide) (fun c3 => ?_) (fun c3 => hp_n (n := 14) rfl ?_)
      ·
        replace hf := ms_iT c3 hf
        refine lv_iload_n hx hb dX11_hasOneOf_16 rfl (lv_at hl 0 rfl) (hp_n (n := 17) rfl ?_)
        refine lv_iload_n hx hb dX11_hasOneOf_17 rfl (lv_at hl 1 rfl) (hp_n (n := 18) rfl ?_)
        refine lv_iushr hx hb dX11_hasOneOf_18 rfl (hp_n (n := 19) rfl ?_)
        refine lv_topi (fun x4 ex4 => ?_)
        replace hf := ms_lE ex4 hf
        refine lv_istore_n (lv' := [(3, .int x4), (0, .int a0), (1, .int a1), (2, .int a2)]) hx hb dX11_hasOneOf_19 rfl hl (by decide) rfl (fun ls hl => hp_n (n := 20) rfl ?_)
        refine lv_iload_n hx hb dX11_hasOneOf_20 rfl (lv_at hl 3 rfl) (hp_n (n := 21) rfl ?_)
        refine lv_bipush (v := 30) hx hb dX11_hasOneOf_21 (by decide) (hp_n (n := 23) rfl ?_)
        have J37 : ∀ (Hh5 : Heap) (Lh5 : List Loc) (Bh5 : hp_B Γ (cw w_X11_hasOneOf) s α α Hh5 Lh5) (w0_h5 : Int32) (ls : Array Slot) (hl : lv_has ls 4 []) (hf : f_X11_hasOneOf_J37 n w0_h5 = some res), W p l e (hp_rm 0 0 0) s m ([.int a0, .int a1, .int a2] : List Value).toArray below meth c Hh5 Lh5 0 0 (MQ below (hp_Qi Γ (fun r β => β = α ∧ r = res)) ([.int a0, .int a1, .int a2] : List Value).toArray s 0 0 (hp_A Γ)) (F0 m 37 ls [.int w0_h5]) := by
          intro Hh5 Lh5 Bh5 w0_h5 ls hl hf
          unfold f_X11_hasOneOf_J37 at hf
          refine lv_if_eq (tgt := 44) hx hb dX11_hasOneOf_37 (by decide) (fun c6 => ?_) (fun c6 => hp_n (n := 40) rfl ?_)
          ·
            replace hf := ms_iT c6 hf
            refine lv_iconst (v := 0) hx hb dX11_hasOneOf_44 (by decide) (hp_n (n := 45) rfl ?_)
            cases hf
            exact q_zret C Bh5 hr hlk (by decide) ⟨rfl, rfl⟩ dX11_hasOneOf_45
          ·
            replace hf := ms_iF c6 hf
            refine lv_iconst (v := 1) hx hb dX11_hasOneOf_40 (by decide) (hp_n (n := 41) rfl ?_)
            refine lv_goto (tgt := 45) hx hb dX11_hasOneOf_41 (by decide) ?_
            cases hf
            exact q_zret C Bh5 hr hlk (by decide) ⟨rfl, rfl⟩ dX11_hasOneOf_45
        refine lv_icmp_lt (tgt := 30) hx hb dX11_hasOneOf_23 (by decide) (fun c7 => ?_) (fun c7 => hp_n (n := 26) rfl ?_)
        ·
          replace hf := ms_iT c7 hf
          refine lv_iload_n hx hb dX11_hasOneOf_30 rfl (lv_at hl 0 rfl) (hp_n (n := 31) rfl ?_)
          refine lv_iconst (v := 1) hx hb dX11_hasOneOf_31 (by decide) (hp_n (n := 32) rfl ?_)
          refine lv_iload_n hx hb dX11_hasOneOf_32 rfl (lv_at hl 3 rfl) (hp_n (n := 33) rfl ?_)
          refine lv_ishl hx hb dX11_hasOneOf_33 (hp_n (n := 34) rfl ?_)
          refine lv_iconst (v := 1) hx hb dX11_hasOneOf_34 (by decide) (hp_n (n := 35) rfl ?_)
          refine lv_isub hx hb dX11_hasOneOf_35 (hp_n (n := 36) rfl ?_)
          refine lv_iand hx hb dX11_hasOneOf_36 (hp_n (n := 37) rfl ?_)
          exact J37 s.heap [] B (x4 &&& (((1 : Int32) <<< (a2 &&& 31)) - (1 : Int32))) ls (lv_sub hl [] rfl) hf
        ·
          replace hf := ms_iF c7 hf
          refine lv_iload_n hx hb dX11_hasOneOf_26 rfl (lv_at hl 0 rfl) (hp_n (n := 27) rfl ?_)
          refine lv_goto (tgt := 37) hx hb dX11_hasOneOf_27 (by decide) ?_
          exact J37 s.heap [] B x4 ls (lv_sub hl [] rfl) hf
      ·
        replace hf := ms_iF c3 hf
        refine lv_iconst (v := 0) hx hb dX11_hasOneOf_14 (by decide) (hp_n (n := 15) rfl ?_)
        cases hf
        exact q_zret C B hr hlk (by decide) ⟨rfl, rfl⟩ dX11_hasOneOf_15
def f_X8_putGreatestWithout_J76 (n : Nat) (a0 : Nat) (αh2 : hp_T) (v4_h2 : Int32) (v5_h2 : Int32) : Option (Int32 × hp_T) :=
  ms_b (f_X8_put n αh2 a0 v4_h2 v5_h2 (0 : Int32)) fun αh3 =>
  some (v5_h2, αh3)
def f_X8_putGreatestWithout_J70 (n : Nat) (a0 : Nat) (rec9 : hp_T → Int32 → Int32 → Int32 → Int32 → Int32 → Option (Int32 × hp_T)) (αh7 : hp_T) (v1_h7 : Int32) (v2_h7 : Int32) (v4_h7 : Int32) (v5_h7 : Int32) (v6_h7 : Int32) : Option (Int32 × hp_T) :=
  ms_l (v6_h7 + 1) fun x8 =>
  rec9 αh7 v1_h7 v2_h7 v4_h7 v5_h7 x8
def f_X8_putGreatestWithout_J33 (n : Nat) (a0 : Nat) (rec9 : hp_T → Int32 → Int32 → Int32 → Int32 → Int32 → Option (Int32 × hp_T)) (αh5 : hp_T) (v1_h5 : Int32) (v2_h5 : Int32) (v4_h5 : Int32) (v5_h5 : Int32) (v6_h5 : Int32) : Option (Int32 × hp_T) :=
  ms_b (f_X11_firstPartOf n v5_h5) fun rh6 =>
  if rh6 ≤ (v2_h5 - v4_h5) then
    ms_l ((v4_h5 + rh6)) fun x10 =>
    ms_l ((v5_h5 - rh6)) fun x11 =>
    f_X8_putGreatestWithout_J70 n a0 rec9 αh5 v1_h5 v2_h5 x10 x11 v6_h5
  else
    f_X8_putGreatestWithout_J70 n a0 rec9 αh5 v1_h5 v2_h5 v4_h5 rh6 v6_h5
def f_X8_putGreatestWithout_L9 (n : Nat) (a0 : Nat) : Nat → hp_T → Int32 → Int32 → Int32 → Int32 → Int32 → Option (Int32 × hp_T)
  | 0, _, _, _, _, _, _ => none
  | k9 + 1, αh1, v1_h1, v2_h1, v4_h1, v5_h1, v6_h1 =>
    if (40 : Int32) ≤ v6_h1 then
      f_X8_putGreatestWithout_J76 n a0 αh1 v4_h1 v5_h1
    else
      if v4_h1 = v2_h1 then
        ms_b (f_X11_hasOneOf n v1_h1 v4_h1 v5_h1) fun rh13 =>
        if rh13 = 0 then
          f_X8_putGreatestWithout_J76 n a0 αh1 v4_h1 v5_h1
        else
          f_X8_putGreatestWithout_J33 n a0 (f_X8_putGreatestWithout_L9 n a0 k9) αh1 v1_h1 v2_h1 v4_h1 v5_h1 v6_h1
      else
        f_X8_putGreatestWithout_J33 n a0 (f_X8_putGreatestWithout_L9 n a0 k9) αh1 v1_h1 v2_h1 v4_h1 v5_h1 v6_h1
def f_X8_putGreatestWithout (n : Nat) (α : hp_T) (a0 : Nat) (a1 : Int32) (a2 : Int32) (a3 : Int32) : Option (Int32 × hp_T) :=
  f_X8_putGreatestWithout_L9 n a0 n α a1 a2 (0 : Int32) a3 (0 : Int32)
set_option maxRecDepth 100000 in
set_option maxHeartbeats 4000000 in
theorem n_X8_putGreatestWithout (n : Nat) (Γ : hp_G) (l : Launch) (α : hp_T) (g : GC α) (a0 : Nat) (k0 : hp_K α a0 = 9) (a1 : Int32) (a2 : Int32) (a3 : Int32) (res : (Int32 × hp_T)) (hf : f_X8_putGreatestWithout n α a0 a1 a2 a3 = some res) : Met l yX8_putGreatestWithout (hp_ws yX8_putGreatestWithout cX8_putGreatestWithout 8 (some .int)) (hp_rm 3 0 0) (hp_Pc Γ α [.ref a0, .int a1, .int a2, .int a3]) (hp_Qi Γ (fun r β => r = res.1 ∧ β = res.2 ∧ cw w_X8_putGreatestWithout α β)) 0 0 (hp_A Γ) := by
  unfold f_X8_putGreatestWithout at hf
  refine hp_start (by decide) ?_
  intro p e s m below meth c C hr hlk B0 hnm
  have C : hp_C Γ p m c cX8_putGreatestWithout 8 s ([.ref a0, .int a1, .int a2, .int a3] : List Value).toArray RX8 := C
  have hx := C.1.1
  have hb := C.1.2.1
  have hown := C.1.2.2.2.1
  have hts := C.1.2.2.2.2
  have B : hp_B Γ (cw w_X8_putGreatestWithout) s α α s.heap [] := ⟨B0.1, B0.2.1, cw_rf g⟩
  have hl := lv_entry ([.ref a0, .int a1, .int a2, .int a3]) (n := 8) (Nat.le_of_ble_eq_true rfl)
  show W p l e (hp_rm 3 0 0) s m ([.ref a0, .int a1, .int a2, .int a3] : List Value).toArray below meth c s.heap [] 0 0 (MQ below (hp_Qi Γ (fun r β => r = res.1 ∧ β = res.2 ∧ cw w_X8_putGreatestWithout α β)) ([.ref a0, .int a1, .int a2, .int a3] : List Value).toArray s 0 0 (hp_A Γ)) (entryFrame m ([.ref a0, .int a1, .int a2, .int a3] : List Value).toArray 8)
  rw [lg_entry_eq]
  generalize (lg_sl ([.ref a0, .int a1, .int a2, .int a3]) ++ List.replicate (8 - (lg_sl ([.ref a0, .int a1, .int a2, .int a3])).length) Slot.unset).toArray = ls at hl ⊢
  have hl : lv_has ls 8 [(0, .ref a0), (1, .int a1), (2, .int a2), (3, .int a3)] := hl
  refine lv_iconst (v := 0) hx hb dX8_putGreatestWithout_0 (by decide) (hp_n (n := 1) rfl ?_)
  refine lv_istore (lv' := [(4, .int (0 : Int32)), (0, .ref a0), (1, .int a1), (2, .int a2), (3, .int a3)]) hx hb dX8_putGreatestWithout_1 hl (by decide) rfl (fun ls hl => hp_n (n := 3) rfl ?_)
  refine lv_iload_n hx hb dX8_putGreatestWithout_3 rfl (lv_at hl 4 rfl) (hp_n (n := 4) rfl ?_)
  refine lv_istore (lv' := [(5, .int a3), (4, .int (0 : Int32)), (0, .ref a0), (1, .int a1), (2, .int a2), (3, .int a3)]) hx hb dX8_putGreatestWithout_4 hl (by decide) rfl (fun ls hl => hp_n (n := 6) rfl ?_)
  refine lv_iconst (v := 0) hx hb dX8_putGreatestWithout_6 (by decide) (hp_n (n := 7) rfl ?_)
  have J9 : ∀ (k9 : Nat) (αh1 : hp_T) (Hh1 : Heap) (Lh1 : List Loc) (Bh1 : hp_B Γ (cw w_X8_putGreatestWithout) s α αh1 Hh1 Lh1) (v1_h1 : Int32) (v2_h1 : Int32) (v4_h1 : Int32) (v5_h1 : Int32) (v6_h1 : Int32) (ls : Array Slot) (hl : lv_has ls 8 [(0, .ref a0), (1, .int v1_h1), (2, .int v2_h1), (4, .int v4_h1), (5, .int v5_h1), (6, .int v6_h1)]) (hf : f_X8_putGreatestWithout_L9 n a0 k9 αh1 v1_h1 v2_h1 v4_h1 v5_h1 v6_h1 = some res), W p l e (hp_rm 3 0 0) s m ([.ref a0, .int a1, .int a2, .int a3] : List Value).toArray below meth c Hh1 Lh1 0 0 (MQ below (hp_Qi Γ (fun r β => r = res.1 ∧ β = res.2 ∧ cw w_X8_putGreatestWithout α β)) ([.ref a0, .int a1, .int a2, .int a3] : List Value).toArray s 0 0 (hp_A Γ)) (F0 m 9 ls []) := by
    intro k9
    induction k9 with
    | zero => intro αh1 Hh1 Lh1 Bh1 v1_h1 v2_h1 v4_h1 v5_h1 v6_h1 ls hl hf; rw [f_X8_putGreatestWithout_L9.eq_1] at hf; cases hf
    | succ k9 ih9 =>
      intro αh1 Hh1 Lh1 Bh1 v1_h1 v2_h1 v4_h1 v5_h1 v6_h1 ls hl hf
      rw [f_X8_putGreatestWithout_L9.eq_2] at hf
      refine lv_iload hx hb dX8_putGreatestWithout_9 (lv_at hl 5 rfl) (hp_n (n := 11) rfl ?_)
      refine lv_bipush (v := 40) hx hb dX8_putGreatestWithout_11 (by decide) (hp_n (n := 13) rfl ?_)
      have J76 : ∀ (αh2 : hp_T) (Hh2 : Heap) (Lh2 : List Loc) (Bh2 : hp_B Γ (cw w_X8_putGreatestWithout) s α αh2 Hh2 Lh2) (v4_h2 : Int32) (v5_h2 : Int32) (ls : Array Slot) (hl : lv_has ls 8 [(0, .ref a0), (4, .int v4_h2), (5, .int v5_h2)]) (hf : f_X8_putGreatestWithout_J76 n a0 αh2 v4_h2 v5_h2 = some res), W p l e (hp_rm 3 0 0) s m ([.ref a0, .int a1, .int a2, .int a3] : List Value).toArray below meth c Hh2 Lh2 0 0 (MQ below (hp_Qi Γ (fun r β => r = res.1 ∧ β = res.2 ∧ cw w_X8_putGreatestWithout α β)) ([.ref a0, .int a1, .int a2, .int a3] : List Value).toArray s 0 0 (hp_A Γ)) (F0 m 76 ls []) := by
        intro αh2 Hh2 Lh2 Bh2 v4_h2 v5_h2 ls hl hf
        unfold f_X8_putGreatestWithout_J76 at hf
        refine lv_aload_n hx hb dX8_putGreatestWithout_76 rfl (lv_at hl 0 rfl) (hp_n (n := 77) rfl ?_)
        refine lv_iload hx hb dX8_putGreatestWithout_77 (lv_at hl 1 rfl) (hp_n (n := 79) rfl ?_)
        refine lv_iload hx hb dX8_putGreatestWithout_79 (lv_at hl 2 rfl) (hp_n (n := 81) rfl ?_)
        refine lv_iconst (v := 0) hx hb dX8_putGreatestWithout_81 (by decide) (hp_n (n := 82) rfl ?_)
        obtain ⟨αh3, qh3, hf⟩ := ms_bE hf
        refine d_cv (pc' := 85) Bh2 (hp_runV (As := [.int v4_h2, .int v5_h2, .int (0 : Int32)]) (rest := []) C Bh2 (n_X8_put n Γ l αh2 Bh2.2.2.1 a0 (cw_k Bh2.2.2 k0) v4_h2 v5_h2 (0 : Int32) αh3 qh3) lb_X8_put lv_X8_put lk_X8_37 (cw_k Bh2.2.2 k0) rfl (by decide) rfl hl.1 rfl (Nat.le_of_ble_eq_true rfl) dX8_putGreatestWithout_82 ⟨Nat.le_refl _, Nat.le_refl _⟩) (by decide) rfl (fun Hh3 Lh3 Bh3 => ?_)
        refine lv_iload hx hb dX8_putGreatestWithout_85 (lv_at hl 2 rfl) (hp_n (n := 87) rfl ?_)
        cases hf
        exact q_iret C Bh3 hr hlk ⟨rfl, rfl, Bh3.2.2⟩ dX8_putGreatestWithout_87
      refine lv_icmp_ge (tgt := 76) hx hb dX8_putGreatestWithout_13 (by decide) (fun c4 => ?_) (fun c4 => hp_n (n := 16) rfl ?_)
      ·
        replace hf := ms_iT c4 hf
        exact J76 αh1 Hh1 Lh1 Bh1 v4_h1 v5_h1 ls (lv_sub hl [0, 3, 4] rfl) hf
      ·
        replace hf := ms_iF c4 hf
        refine lv_iload hx hb dX8_putGreatestWithout_16 (lv_at hl 3 rfl) (hp_n (n := 18) rfl ?_)
        refine lv_iload_n hx hb dX8_putGreatestWithout_18 rfl (lv_at hl 2 rfl) (hp_n (n := 19) rfl ?_)
        have J33 : ∀ (αh5 : hp_T) (Hh5 : Heap) (Lh5 : List Loc) (Bh5 : hp_B Γ (cw w_X8_putGreatestWithout) s α αh5 Hh5 Lh5) (v1_h5 : Int32) (v2_h5 : Int32) (v4_h5 : Int32) (v5_h5 : Int32) (v6_h5 : Int32) (ls : Array Slot) (hl : lv_has ls 8 [(0, .ref a0), (1, .int v1_h5), (2, .int v2_h5), (4, .int v4_h5), (5, .int v5_h5), (6, .int v6_h5)]) (hf : f_X8_putGreatestWithout_J33 n a0 (f_X8_putGreatestWithout_L9 n a0 k9) αh5 v1_h5 v2_h5 v4_h5 v5_h5 v6_h5 = some res), W p l e (hp_rm 3 0 0) s m ([.ref a0, .int a1, .int a2, .int a3] : List Value).toArray below meth c Hh5 Lh5 0 0 (MQ below (hp_Qi Γ (fun r β => r = res.1 ∧ β = res.2 ∧ cw w_X8_putGreatestWithout α β)) ([.ref a0, .int a1, .int a2, .int a3] : List Value).toArray s 0 0 (hp_A Γ)) (F0 m 33 ls []) := by
          intro αh5 Hh5 Lh5 Bh5 v1_h5 v2_h5 v4_h5 v5_h5 v6_h5 ls hl hf
          unfold f_X8_putGreatestWithout_J33 at hf
          refine lv_iload hx hb dX8_putGreatestWithout_33 (lv_at hl 4 rfl) (hp_n (n := 35) rfl ?_)
          obtain ⟨rh6, qh6, hf⟩ := ms_bE hf
          refine d_pi (pc' := 38) Bh5 (hp_runS (As := [.int v5_h5]) (rest := []) C Bh5 (n_X11_firstPartOf n Γ l αh5 Bh5.2.2.1 v5_h5 rh6 qh6) lb_X11_firstPartOf ls_X11_firstPartOf lk_X8_33 rfl (by decide) rfl hl.1 rfl (Nat.le_of_ble_eq_true rfl) dX8_putGreatestWithout_35 ⟨Nat.le_refl _, Nat.le_refl _⟩) rfl (fun Hh6 Lh6 Bh6 => ?_)
          refine lv_istore (lv' := [(7, .int rh6), (0, .ref a0), (1, .int v1_h5), (2, .int v2_h5), (4, .int v4_h5), (5, .int v5_h5), (6, .int v6_h5)]) hx hb dX8_putGreatestWithout_38 hl (by decide) rfl (fun ls hl => hp_n (n := 40) rfl ?_)
          refine lv_iload_n hx hb dX8_putGreatestWithout_40 rfl (lv_at hl 3 rfl) (hp_n (n := 41) rfl ?_)
          refine lv_iload hx hb dX8_putGreatestWithout_41 (lv_at hl 4 rfl) (hp_n (n := 43) rfl ?_)
          refine lv_isub hx hb dX8_putGreatestWithout_43 (hp_n (n := 44) rfl ?_)
          refine lv_iload hx hb dX8_putGreatestWithout_44 (lv_at hl 0 rfl) (hp_n (n := 46) rfl ?_)
          have J70 : ∀ (αh7 : hp_T) (Hh7 : Heap) (Lh7 : List Loc) (Bh7 : hp_B Γ (cw w_X8_putGreatestWithout) s α αh7 Hh7 Lh7) (v1_h7 : Int32) (v2_h7 : Int32) (v4_h7 : Int32) (v5_h7 : Int32) (v6_h7 : Int32) (ls : Array Slot) (hl : lv_has ls 8 [(0, .ref a0), (1, .int v1_h7), (2, .int v2_h7), (4, .int v4_h7), (5, .int v5_h7), (6, .int v6_h7)]) (hf : f_X8_putGreatestWithout_J70 n a0 (f_X8_putGreatestWithout_L9 n a0 k9) αh7 v1_h7 v2_h7 v4_h7 v5_h7 v6_h7 = some res), W p l e (hp_rm 3 0 0) s m ([.ref a0, .int a1, .int a2, .int a3] : List Value).toArray below meth c Hh7 Lh7 0 0 (MQ below (hp_Qi Γ (fun r β => r = res.1 ∧ β = res.2 ∧ cw w_X8_putGreatestWithout α β)) ([.ref a0, .int a1, .int a2, .int a3] : List Value).toArray s 0 0 (hp_A Γ)) (F0 m 70 ls []) := by
            intro αh7 Hh7 Lh7 Bh7 v1_h7 v2_h7 v4_h7 v5_h7 v6_h7 ls hl hf
            unfold f_X8_putGreatestWithout_J70 at hf
            obtain ⟨x8, ex8⟩ : ∃ y : Int32, y = v6_h7 + 1 := ⟨_, rfl⟩
            replace hf := ms_lE ex8 hf
            refine lv_iinc (v := x8) (lv' := [(6, .int x8), (0, .ref a0), (1, .int v1_h7), (2, .int v2_h7), (4, .int v4_h7), (5, .int v5_h7)]) hx hb dX8_putGreatestWithout_70 hl (k := 5) rfl (by rw [ex8]; rfl) (by decide) rfl (fun ls hl => hp_n (n := 73) rfl ?_)
            refine lv_goto (tgt := 9) hx hb dX8_putGreatestWithout_73 (by decide) ?_
            exact ih9 αh7 Hh7 Lh7 Bh7 v1_h7 v2_h7 v4_h7 v5_h7 x8 ls (lv_sub hl [1, 2, 3, 4, 5, 0] rfl) hf
          refine lv_icmp_ge (tgt := 56) hx hb dX8_putGreatestWithout_46 (by decide) (fun c9 => ?_) (fun c9 => hp_n (n := 49) rfl ?_)
          ·
            replace hf := ms_iT c9 hf
            refine lv_iload hx hb dX8_putGreatestWithout_56 (lv_at hl 4 rfl) (hp_n (n := 58) rfl ?_)
            refine lv_iload hx hb dX8_putGreatestWithout_58 (lv_at hl 0 rfl) (hp_n (n := 60) rfl ?_)
            refine lv_iadd hx hb dX8_putGreatestWithout_60 (hp_n (n := 61) rfl ?_)
            refine lv_topi (fun x10 ex10 => ?_)
            replace hf := ms_lE ex10 hf
            refine lv_istore (lv' := [(4, .int x10), (7, .int rh6), (0, .ref a0), (1, .int v1_h5), (2, .int v2_h5), (5, .int v5_h5), (6, .int v6_h5)]) hx hb dX8_putGreatestWithout_61 hl (by decide) rfl (fun ls hl => hp_n (n := 63) rfl ?_)
            refine lv_iload hx hb dX8_putGreatestWithout_63 (lv_at hl 5 rfl) (hp_n (n := 65) rfl ?_)
            refine lv_iload hx hb dX8_putGreatestWithout_65 (lv_at hl 1 rfl) (hp_n (n := 67) rfl ?_)
            refine lv_isub hx hb dX8_putGreatestWithout_67 (hp_n (n := 68) rfl ?_)
            refine lv_topi (fun x11 ex11 => ?_)
            replace hf := ms_lE ex11 hf
            refine lv_istore (lv' := [(5, .int x11), (4, .int x10), (7, .int rh6), (0, .ref a0), (1, .int v1_h5), (2, .int v2_h5), (6, .int v6_h5)]) hx hb dX8_putGreatestWithout_68 hl (by decide) rfl (fun ls hl => hp_n (n := 70) rfl ?_)
            exact J70 αh5 Hh6 Lh6 Bh6 v1_h5 v2_h5 x10 x11 v6_h5 ls (lv_sub hl [3, 4, 5, 1, 0, 6] rfl) hf
          ·
            replace hf := ms_iF c9 hf
            refine lv_iload hx hb dX8_putGreatestWithout_49 (lv_at hl 0 rfl) (hp_n (n := 51) rfl ?_)
            refine lv_istore (lv' := [(5, .int rh6), (7, .int rh6), (0, .ref a0), (1, .int v1_h5), (2, .int v2_h5), (4, .int v4_h5), (6, .int v6_h5)]) hx hb dX8_putGreatestWithout_51 hl (by decide) rfl (fun ls hl => hp_n (n := 53) rfl ?_)
            refine lv_goto (tgt := 70) hx hb dX8_putGreatestWithout_53 (by decide) ?_
            exact J70 αh5 Hh6 Lh6 Bh6 v1_h5 v2_h5 v4_h5 rh6 v6_h5 ls (lv_sub hl [2, 3, 4, 5, 0, 6] rfl) hf
        refine lv_icmp_ne (tgt := 33) hx hb dX8_putGreatestWithout_19 (by decide) (fun c12 => ?_) (fun c12 => hp_n (n := 22) rfl ?_)
        ·
          replace hf := ms_iF c12 hf
          exact J33 αh1 Hh1 Lh1 Bh1 v1_h1 v2_h1 v4_h1 v5_h1 v6_h1 ls (lv_sub hl [0, 1, 2, 3, 4, 5] rfl) hf
        ·
          replace hf := ms_iT c12 hf
          refine lv_iload_n hx hb dX8_putGreatestWithout_22 rfl (lv_at hl 1 rfl) (hp_n (n := 23) rfl ?_)
          refine lv_iload hx hb dX8_putGreatestWithout_23 (lv_at hl 3 rfl) (hp_n (n := 25) rfl ?_)
          refine lv_iload hx hb dX8_putGreatestWithout_25 (lv_at hl 4 rfl) (hp_n (n := 27) rfl ?_)
          obtain ⟨rh13, qh13, hf⟩ := ms_bE hf
          refine d_pi (pc' := 30) Bh1 (hp_runS (As := [.int v1_h1, .int v4_h1, .int v5_h1]) (rest := []) C Bh1 (n_X11_hasOneOf n Γ l αh1 Bh1.2.2.1 v1_h1 v4_h1 v5_h1 rh13 qh13) lb_X11_hasOneOf ls_X11_hasOneOf lk_X8_44 rfl (by decide) rfl hl.1 rfl (Nat.le_of_ble_eq_true rfl) dX8_putGreatestWithout_27 ⟨Nat.le_refl _, Nat.le_refl _⟩) rfl (fun Hh13 Lh13 Bh13 => ?_)
          refine lv_if_eq (tgt := 76) hx hb dX8_putGreatestWithout_30 (by decide) (fun c14 => ?_) (fun c14 => hp_n (n := 33) rfl ?_)
          ·
            replace hf := ms_iT c14 hf
            exact J76 αh1 Hh13 Lh13 Bh13 v4_h1 v5_h1 ls (lv_sub hl [0, 3, 4] rfl) hf
          ·
            replace hf := ms_iF c14 hf
            exact J33 αh1 Hh13 Lh13 Bh13 v1_h1 v2_h1 v4_h1 v5_h1 v6_h1 ls (lv_sub hl [0, 1, 2, 3, 4, 5] rfl) hf
  refine lv_istore (lv' := [(6, .int (0 : Int32)), (5, .int a3), (4, .int (0 : Int32)), (0, .ref a0), (1, .int a1), (2, .int a2), (3, .int a3)]) hx hb dX8_putGreatestWithout_7 hl (by decide) rfl (fun ls hl => hp_n (n := 9) rfl ?_)
  exact J9 n α s.heap [] B a1 a2 (0 : Int32) a3 (0 : Int32) ls (lv_sub hl [3, 4, 5, 2, 1, 0] rfl) hf
def f_X8_toBundle_J47 (n : Nat) (a0 : Nat) (rec9 : hp_T → Int32 → Int32 → Int32 → Int32 → Option hp_T) (αh6 : hp_T) (v1_h6 : Int32) (v2_h6 : Int32) (v3_h6 : Int32) (v4_h6 : Int32) : Option hp_T :=
  ms_l (v4_h6 + 1) fun x7 =>
  rec9 αh6 v1_h6 v2_h6 v3_h6 x7
def f_X8_toBundle_L9 (n : Nat) (a0 : Nat) : Nat → hp_T → Int32 → Int32 → Int32 → Int32 → Option hp_T
  | 0, _, _, _, _, _ => none
  | k9 + 1, αh2, v1_h2, v2_h2, v3_h2, v4_h2 =>
    if (128 : Int32) ≤ v4_h2 then
      some αh2
    else
      if v2_h2 ≤ v3_h2 then
        some αh2
      else
        ms_b (f_X11_hasOneOf n v1_h2 v3_h2 (1 : Int32)) fun rh5 =>
        if rh5 = 0 then
          hq_c (f_X8_putGreatestWithout n αh2 a0 v1_h2 v3_h2 v2_h2) fun rh9 αh9 =>
          ms_l ((v3_h2 + rh9)) fun x10 =>
          f_X8_toBundle_J47 n a0 (f_X8_toBundle_L9 n a0 k9) αh9 v1_h2 v2_h2 x10 v4_h2
        else
          ms_l (v3_h2 + 1) fun x11 =>
          f_X8_toBundle_J47 n a0 (f_X8_toBundle_L9 n a0 k9) αh2 v1_h2 v2_h2 x11 v4_h2
def f_X8_toBundle (n : Nat) (α : hp_T) (a0 : Nat) (a1 : Int32) (a2 : Int32) : Option hp_T :=
  ms_b (f_X8_clear n α a0) fun αh1 =>
  f_X8_toBundle_L9 n a0 n αh1 a1 a2 (0 : Int32) (0 : Int32)
set_option maxRecDepth 100000 in
set_option maxHeartbeats 4000000 in
theorem n_X8_toBundle (n : Nat) (Γ : hp_G) (l : Launch) (α : hp_T) (g : GC α) (a0 : Nat) (k0 : hp_K α a0 = 9) (a1 : Int32) (a2 : Int32) (res : hp_T) (hf : f_X8_toBundle n α a0 a1 a2 = some res) : Met l yX8_toBundle (hp_ws yX8_toBundle cX8_toBundle 5 none) (hp_rm 4 0 0) (hp_Pc Γ α [.ref a0, .int a1, .int a2]) (hp_Qv Γ (fun β => β = res ∧ cw w_X8_toBundle α β)) 0 0 (hp_A Γ) := by
  unfold f_X8_toBundle at hf
  refine hp_start (by decide) ?_
  intro p e s m below meth c C hr hlk B0 hnm
  have C : hp_C Γ p m c cX8_toBundle 5 s ([.ref a0, .int a1, .int a2] : List Value).toArray RX8 := C
  have hx := C.1.1
  have hb := C.1.2.1
  have hown := C.1.2.2.2.1
  have hts := C.1.2.2.2.2
  have B : hp_B Γ (cw w_X8_toBundle) s α α s.heap [] := ⟨B0.1, B0.2.1, cw_rf g⟩
  have hl := lv_entry ([.ref a0, .int a1, .int a2]) (n := 5) (Nat.le_of_ble_eq_true rfl)
  show W p l e (hp_rm 4 0 0) s m ([.ref a0, .int a1, .int a2] : List Value).toArray below meth c s.heap [] 0 0 (MQ below (hp_Qv Γ (fun β => β = res ∧ cw w_X8_toBundle α β)) ([.ref a0, .int a1, .int a2] : List Value).toArray s 0 0 (hp_A Γ)) (entryFrame m ([.ref a0, .int a1, .int a2] : List Value).toArray 5)
  rw [lg_entry_eq]
  generalize (lg_sl ([.ref a0, .int a1, .int a2]) ++ List.replicate (5 - (lg_sl ([.ref a0, .int a1, .int a2])).length) Slot.unset).toArray = ls at hl ⊢
  have hl : lv_has ls 5 [(0, .ref a0), (1, .int a1), (2, .int a2)] := hl
  refine lv_aload_n hx hb dX8_toBundle_0 rfl (lv_at hl 0 rfl) (hp_n (n := 1) rfl ?_)
  obtain ⟨αh1, qh1, hf⟩ := ms_bE hf
  refine d_cv (pc' := 4) B (hp_runV (As := []) (rest := []) C B (n_X8_clear n Γ l α B.2.2.1 a0 (cw_k B.2.2 k0) αh1 qh1) lb_X8_clear lv_X8_clear lk_X8_30 (cw_k B.2.2 k0) rfl (by decide) rfl hl.1 rfl (Nat.le_of_ble_eq_true rfl) dX8_toBundle_1 ⟨Nat.le_refl _, Nat.le_refl _⟩) (by decide) rfl (fun Hh1 Lh1 Bh1 => ?_)
  refine lv_iconst (v := 0) hx hb dX8_toBundle_4 (by decide) (hp_n (n := 5) rfl ?_)
  refine lv_istore_n (lv' := [(3, .int (0 : Int32)), (0, .ref a0), (1, .int a1), (2, .int a2)]) hx hb dX8_toBundle_5 rfl hl (by decide) rfl (fun ls hl => hp_n (n := 6) rfl ?_)
  refine lv_iconst (v := 0) hx hb dX8_toBundle_6 (by decide) (hp_n (n := 7) rfl ?_)
  have J9 : ∀ (k9 : Nat) (αh2 : hp_T) (Hh2 : Heap) (Lh2 : List Loc) (Bh2 : hp_B Γ (cw w_X8_toBundle) s α αh2 Hh2 Lh2) (v1_h2 : Int32) (v2_h2 : Int32) (v3_h2 : Int32) (v4_h2 : Int32) (ls : Array Slot) (hl : lv_has ls 5 [(0, .ref a0), (1, .int v1_h2), (2, .int v2_h2), (3, .int v3_h2), (4, .int v4_h2)]) (hf : f_X8_toBundle_L9 n a0 k9 αh2 v1_h2 v2_h2 v3_h2 v4_h2 = some res), W p l e (hp_rm 4 0 0) s m ([.ref a0, .int a1, .int a2] : List Value).toArray below meth c Hh2 Lh2 0 0 (MQ below (hp_Qv Γ (fun β => β = res ∧ cw w_X8_toBundle α β)) ([.ref a0, .int a1, .int a2] : List Value).toArray s 0 0 (hp_A Γ)) (F0 m 9 ls []) := by
    intro k9
    induction k9 with
    | zero => intro αh2 Hh2 Lh2 Bh2 v1_h2 v2_h2 v3_h2 v4_h2 ls hl hf; rw [f_X8_toBundle_L9.eq_1] at hf; cases hf
    | succ k9 ih9 =>
      intro αh2 Hh2 Lh2 Bh2 v1_h2 v2_h2 v3_h2 v4_h2 ls hl hf
      rw [f_X8_toBundle_L9.eq_2] at hf
      refine lv_iload hx hb dX8_toBundle_9 (lv_at hl 4 rfl) (hp_n (n := 11) rfl ?_)
      refine lv_sipush (v := 128) hx hb dX8_toBundle_11 (by decide) (hp_n (n := 14) rfl ?_)
      refine lv_icmp_ge (tgt := 53) hx hb dX8_toBundle_14 (by decide) (fun c3 => ?_) (fun c3 => hp_n (n := 17) rfl ?_)
      ·
        replace hf := ms_iT c3 hf
        cases hf
        exact q_vret C Bh2 hr hlk ⟨rfl, Bh2.2.2⟩ dX8_toBundle_53
      ·
        replace hf := ms_iF c3 hf
        refine lv_iload_n hx hb dX8_toBundle_17 rfl (lv_at hl 3 rfl) (hp_n (n := 18) rfl ?_)
        refine lv_iload_n hx hb dX8_toBundle_18 rfl (lv_at hl 2 rfl) (hp_n (n := 19) rfl ?_)
        refine lv_icmp_ge (tgt := 53) hx hb dX8_toBundle_19 (by decide) (fun c4 => ?_) (fun c4 => hp_n (n := 22) rfl ?_)
        ·
          replace hf := ms_iT c4 hf
          cases hf
          exact q_vret C Bh2 hr hlk ⟨rfl, Bh2.2.2⟩ dX8_toBundle_53
        ·
          replace hf := ms_iF c4 hf
          refine lv_iload_n hx hb dX8_toBundle_22 rfl (lv_at hl 1 rfl) (hp_n (n := 23) rfl ?_)
          refine lv_iload_n hx hb dX8_toBundle_23 rfl (lv_at hl 3 rfl) (hp_n (n := 24) rfl ?_)
          refine lv_iconst (v := 1) hx hb dX8_toBundle_24 (by decide) (hp_n (n := 25) rfl ?_)
          obtain ⟨rh5, qh5, hf⟩ := ms_bE hf
          refine d_pi (pc' := 28) Bh2 (hp_runS (As := [.int v1_h2, .int v3_h2, .int (1 : Int32)]) (rest := []) C Bh2 (n_X11_hasOneOf n Γ l αh2 Bh2.2.2.1 v1_h2 v3_h2 (1 : Int32) rh5 qh5) lb_X11_hasOneOf ls_X11_hasOneOf lk_X8_44 rfl (by decide) rfl hl.1 rfl (Nat.le_of_ble_eq_true rfl) dX8_toBundle_25 ⟨Nat.le_refl _, Nat.le_refl _⟩) rfl (fun Hh5 Lh5 Bh5 => ?_)
          have J47 : ∀ (αh6 : hp_T) (Hh6 : Heap) (Lh6 : List Loc) (Bh6 : hp_B Γ (cw w_X8_toBundle) s α αh6 Hh6 Lh6) (v1_h6 : Int32) (v2_h6 : Int32) (v3_h6 : Int32) (v4_h6 : Int32) (ls : Array Slot) (hl : lv_has ls 5 [(0, .ref a0), (1, .int v1_h6), (2, .int v2_h6), (3, .int v3_h6), (4, .int v4_h6)]) (hf : f_X8_toBundle_J47 n a0 (f_X8_toBundle_L9 n a0 k9) αh6 v1_h6 v2_h6 v3_h6 v4_h6 = some res), W p l e (hp_rm 4 0 0) s m ([.ref a0, .int a1, .int a2] : List Value).toArray below meth c Hh6 Lh6 0 0 (MQ below (hp_Qv Γ (fun β => β = res ∧ cw w_X8_toBundle α β)) ([.ref a0, .int a1, .int a2] : List Value).toArray s 0 0 (hp_A Γ)) (F0 m 47 ls []) := by
            intro αh6 Hh6 Lh6 Bh6 v1_h6 v2_h6 v3_h6 v4_h6 ls hl hf
            unfold f_X8_toBundle_J47 at hf
            obtain ⟨x7, ex7⟩ : ∃ y : Int32, y = v4_h6 + 1 := ⟨_, rfl⟩
            replace hf := ms_lE ex7 hf
            refine lv_iinc (v := x7) (lv' := [(4, .int x7), (0, .ref a0), (1, .int v1_h6), (2, .int v2_h6), (3, .int v3_h6)]) hx hb dX8_toBundle_47 hl (k := 4) rfl (by rw [ex7]; rfl) (by decide) rfl (fun ls hl => hp_n (n := 50) rfl ?_)
            refine lv_goto (tgt := 9) hx hb dX8_toBundle_50 (by decide) ?_
            exact ih9 αh6 Hh6 Lh6 Bh6 v1_h6 v2_h6 v3_h6 x7 ls (lv_sub hl [1, 2, 3, 4, 0] rfl) hf
          refine lv_if_eq (tgt := 37) hx hb dX8_toBundle_28 (by decide) (fun c8 => ?_) (fun c8 => hp_n (n := 31) rfl ?_)
          ·
            replace hf := ms_iT c8 hf
            refine lv_iload_n hx hb dX8_toBundle_37 rfl (lv_at hl 3 rfl) (hp_n (n := 38) rfl ?_)
            refine lv_aload_n hx hb dX8_toBundle_38 rfl (lv_at hl 0 rfl) (hp_n (n := 39) rfl ?_)
            refine lv_iload_n hx hb dX8_toBundle_39 rfl (lv_at hl 1 rfl) (hp_n (n := 40) rfl ?_)
            refine lv_iload_n hx hb dX8_toBundle_40 rfl (lv_at hl 3 rfl) (hp_n (n := 41) rfl ?_)
            refine lv_iload_n hx hb dX8_toBundle_41 rfl (lv_at hl 2 rfl) (hp_n (n := 42) rfl ?_)
            obtain ⟨rh9, αh9, qh9, hf⟩ := hq_cE hf
            refine d_ci (pc' := 45) Bh5 (hp_runV (As := [.int v1_h2, .int v3_h2, .int v2_h2]) (rest := [.int v3_h2]) C Bh5 (n_X8_putGreatestWithout n Γ l αh2 Bh5.2.2.1 a0 (cw_k Bh5.2.2 k0) v1_h2 v3_h2 v2_h2 (rh9, αh9) qh9) lb_X8_putGreatestWithout lv_X8_putGreatestWithout lk_X8_48 (cw_k Bh5.2.2 k0) rfl (by decide) rfl hl.1 rfl (Nat.le_of_ble_eq_true rfl) dX8_toBundle_42 ⟨Nat.le_refl _, Nat.le_refl _⟩) (by decide) rfl (fun Hh9 Lh9 Bh9 => ?_)
            refine lv_iadd hx hb dX8_toBundle_45 (hp_n (n := 46) rfl ?_)
            refine lv_topi (fun x10 ex10 => ?_)
            replace hf := ms_lE ex10 hf
            refine lv_istore_n (lv' := [(3, .int x10), (0, .ref a0), (1, .int v1_h2), (2, .int v2_h2), (4, .int v4_h2)]) hx hb dX8_toBundle_46 rfl hl (by decide) rfl (fun ls hl => hp_n (n := 47) rfl ?_)
            exact J47 αh9 Hh9 Lh9 Bh9 v1_h2 v2_h2 x10 v4_h2 ls (lv_sub hl [1, 2, 3, 0, 4] rfl) hf
          ·
            replace hf := ms_iF c8 hf
            obtain ⟨x11, ex11⟩ : ∃ y : Int32, y = v3_h2 + 1 := ⟨_, rfl⟩
            replace hf := ms_lE ex11 hf
            refine lv_iinc (v := x11) (lv' := [(3, .int x11), (0, .ref a0), (1, .int v1_h2), (2, .int v2_h2), (4, .int v4_h2)]) hx hb dX8_toBundle_31 hl (k := 3) rfl (by rw [ex11]; rfl) (by decide) rfl (fun ls hl => hp_n (n := 34) rfl ?_)
            refine lv_goto (tgt := 47) hx hb dX8_toBundle_34 (by decide) ?_
            exact J47 αh2 Hh5 Lh5 Bh5 v1_h2 v2_h2 x11 v4_h2 ls (lv_sub hl [1, 2, 3, 0, 4] rfl) hf
  refine lv_istore (lv' := [(4, .int (0 : Int32)), (3, .int (0 : Int32)), (0, .ref a0), (1, .int a1), (2, .int a2)]) hx hb dX8_toBundle_7 hl (by decide) rfl (fun ls hl => hp_n (n := 9) rfl ?_)
  exact J9 n αh1 Hh1 Lh1 Bh1 a1 a2 (0 : Int32) (0 : Int32) ls (lv_sub hl [2, 3, 4, 1, 0] rfl) hf
def f_X11_bundle_J11 (n : Nat) (a0 : Nat) (αh1 : hp_T) : Option (Int32 × hp_T) :=
  hq_c (f_X11_refuse n αh1 a0 (1 : Int32)) fun rh2 αh2 =>
  some (rh2, αh2)
def f_X11_bundle_J55 (n : Nat) (a0 : Nat) (αh10 : hp_T) : Option (Int32 × hp_T) :=
  hq_c (f_X11_refuse n αh10 a0 (5 : Int32)) fun rh11 αh11 =>
  some (rh11, αh11)
def f_X11_bundle (n : Nat) (α : hp_T) (a0 : Nat) (a1 : Int32) (a2 : Int32) (a3 : Int32) : Option (Int32 × hp_T) :=
  if a3 < 0 then
    f_X11_bundle_J11 n a0 α
  else
    ms_b (f_X11_isSet n a2) fun rh4 =>
    if rh4 = 0 then
      f_X11_bundle_J11 n a0 α
    else
      ms_l (hp_R α 601 a0) fun b6 =>
      ms_b (f_X10_logAt n α b6 a1) fun rh7 =>
      hq_m rh7 (
        hq_c (f_X11_refuse n α a0 (2 : Int32)) fun rh8 αh8 =>
        some (rh8, αh8)) fun bh7 =>
      ms_l (hp_I α 152 bh7) fun x9 =>
      if x9 < a3 then
        f_X11_bundle_J55 n a0 α
      else
        ms_b (f_X11_lieBelow n a2 a3) fun rh13 =>
        if rh13 = 0 then
          f_X11_bundle_J55 n a0 α
        else
          ms_l (hp_R α 612 a0) fun b15 =>
          ms_b (f_X8_toBundle n α b15 a2 a3) fun αh16 =>
          ms_l (hp_R αh16 601 a0) fun b17 =>
          ms_l (hp_R αh16 612 a0) fun b18 =>
          ms_l (hp_R αh16 603 a0) fun b19 =>
          ms_b (f_X10_marksAlong n αh16 b17 b18 (some bh7) b19) fun αh20 =>
          ms_l (hp_R αh20 603 a0) fun b21 =>
          ms_l (hp_I αh20 301 b21) fun x22 =>
          hq_c (f_X11_answer n αh20 a0 x22) fun rh23 αh23 =>
          some (rh23, αh23)
set_option maxRecDepth 100000 in
set_option maxHeartbeats 4000000 in
theorem n_X11_bundle (n : Nat) (Γ : hp_G) (l : Launch) (α : hp_T) (g : GC α) (a0 : Nat) (k0 : hp_K α a0 = 12) (a1 : Int32) (a2 : Int32) (a3 : Int32) (res : (Int32 × hp_T)) (hf : f_X11_bundle n α a0 a1 a2 a3 = some res) : Met l yX11_bundle (hp_ws yX11_bundle cX11_bundle 5 (some .int)) (hp_rm 5 0 0) (hp_Pc Γ α [.ref a0, .int a1, .int a2, .int a3]) (hp_Qi Γ (fun r β => r = res.1 ∧ β = res.2 ∧ cw w_X11_bundle α β)) 0 0 (hp_A Γ) := by
  unfold f_X11_bundle at hf
  refine hp_start (by decide) ?_
  intro p e s m below meth c C hr hlk B0 hnm
  have C : hp_C Γ p m c cX11_bundle 5 s ([.ref a0, .int a1, .int a2, .int a3] : List Value).toArray RX11 := C
  have hx := C.1.1
  have hb := C.1.2.1
  have hown := C.1.2.2.2.1
  have hts := C.1.2.2.2.2
  have B : hp_B Γ (cw w_X11_bundle) s α α s.heap [] := ⟨B0.1, B0.2.1, cw_rf g⟩
  have hl := lv_entry ([.ref a0, .int a1, .int a2, .int a3]) (n := 5) (Nat.le_of_ble_eq_true rfl)
  show W p l e (hp_rm 5 0 0) s m ([.ref a0, .int a1, .int a2, .int a3] : List Value).toArray below meth c s.heap [] 0 0 (MQ below (hp_Qi Γ (fun r β => r = res.1 ∧ β = res.2 ∧ cw w_X11_bundle α β)) ([.ref a0, .int a1, .int a2, .int a3] : List Value).toArray s 0 0 (hp_A Γ)) (entryFrame m ([.ref a0, .int a1, .int a2, .int a3] : List Value).toArray 5)
  rw [lg_entry_eq]
  generalize (lg_sl ([.ref a0, .int a1, .int a2, .int a3]) ++ List.replicate (5 - (lg_sl ([.ref a0, .int a1, .int a2, .int a3])).length) Slot.unset).toArray = ls at hl ⊢
  have hl : lv_has ls 5 [(0, .ref a0), (1, .int a1), (2, .int a2), (3, .int a3)] := hl
  refine lv_iload_n hx hb dX11_bundle_0 rfl (lv_at hl 3 rfl) (hp_n (n := 1) rfl ?_)
  have J11 : ∀ (αh1 : hp_T) (Hh1 : Heap) (Lh1 : List Loc) (Bh1 : hp_B Γ (cw w_X11_bundle) s α αh1 Hh1 Lh1) (ls : Array Slot) (hl : lv_has ls 5 [(0, .ref a0)]) (hf : f_X11_bundle_J11 n a0 αh1 = some res), W p l e (hp_rm 5 0 0) s m ([.ref a0, .int a1, .int a2, .int a3] : List Value).toArray below meth c Hh1 Lh1 0 0 (MQ below (hp_Qi Γ (fun r β => r = res.1 ∧ β = res.2 ∧ cw w_X11_bundle α β)) ([.ref a0, .int a1, .int a2, .int a3] : List Value).toArray s 0 0 (hp_A Γ)) (F0 m 11 ls []) := by
    intro αh1 Hh1 Lh1 Bh1 ls hl hf
    unfold f_X11_bundle_J11 at hf
    refine lv_aload_n hx hb dX11_bundle_11 rfl (lv_at hl 0 rfl) (hp_n (n := 12) rfl ?_)
    refine lv_iconst (v := 1) hx hb dX11_bundle_12 (by decide) (hp_n (n := 13) rfl ?_)
    obtain ⟨rh2, αh2, qh2, hf⟩ := hq_cE hf
    refine d_ci (pc' := 16) Bh1 (hp_runV (As := [.int (1 : Int32)]) (rest := []) C Bh1 (n_X11_refuse n Γ l αh1 Bh1.2.2.1 a0 (cw_k Bh1.2.2 k0) (1 : Int32) (rh2, αh2) qh2) lb_X11_refuse lv_X11_refuse lk_X11_98 (cw_k Bh1.2.2 k0) rfl (by decide) rfl hl.1 rfl (Nat.le_of_ble_eq_true rfl) dX11_bundle_13 ⟨Nat.le_refl _, Nat.le_refl _⟩) (by decide) rfl (fun Hh2 Lh2 Bh2 => ?_)
    cases hf
    exact q_iret C Bh2 hr hlk ⟨rfl, rfl, Bh2.2.2⟩ dX11_bundle_16
  refine lv_if_lt (tgt := 11) hx hb dX11_bundle_1 (by decide) (fun c3 => ?_) (fun c3 => hp_n (n := 4) rfl ?_)
  ·
    replace hf := ms_iT c3 hf
    exact J11 α s.heap [] B ls (lv_sub hl [0] rfl) hf
  ·
    replace hf := ms_iF c3 hf
    refine lv_iload_n hx hb dX11_bundle_4 rfl (lv_at hl 2 rfl) (hp_n (n := 5) rfl ?_)
    obtain ⟨rh4, qh4, hf⟩ := ms_bE hf
    refine d_pi (pc' := 8) B (hp_runS (As := [.int a2]) (rest := []) C B (n_X11_isSet n Γ l α B.2.2.1 a2 rh4 qh4) lb_X11_isSet ls_X11_isSet lk_X11_277 rfl (by decide) rfl hl.1 rfl (Nat.le_of_ble_eq_true rfl) dX11_bundle_5 ⟨Nat.le_refl _, Nat.le_refl _⟩) rfl (fun Hh4 Lh4 Bh4 => ?_)
    refine lv_if_ne (tgt := 17) hx hb dX11_bundle_8 (by decide) (fun c5 => ?_) (fun c5 => hp_n (n := 11) rfl ?_)
    ·
      replace hf := ms_iF c5 hf
      refine lv_aload_n hx hb dX11_bundle_17 rfl (lv_at hl 0 rfl) (hp_n (n := 18) rfl ?_)
      refine q_getr (κ := 12) (k := 1) (φ := 601) (pc' := 21) C Bh4 (cw_k Bh4.2.2 k0) fl_X11_16 rfl rfl rfl (cw_r Bh4.2.2 k0 rfl rfl (by decide) (by decide)) dX11_bundle_18 rfl (fun b6 eb6 kb6 => ?_)
      replace hf := ms_lE eb6 hf
      refine lv_iload_n hx hb dX11_bundle_21 rfl (lv_at hl 1 rfl) (hp_n (n := 22) rfl ?_)
      obtain ⟨rh7, qh7, hf⟩ := ms_bE hf
      refine d_pq (pc' := 25) Bh4 (hp_runV (As := [.int a1]) (rest := []) C Bh4 (n_X10_logAt n Γ l α Bh4.2.2.1 b6 (cw_k Bh4.2.2 kb6) a1 rh7 qh7) lb_X10_logAt lv_X10_logAt lk_X11_163 (cw_k Bh4.2.2 kb6) rfl (by decide) rfl hl.1 rfl (Nat.le_of_ble_eq_true rfl) dX11_bundle_22 ⟨Nat.le_refl _, Nat.le_refl _⟩) rfl (fun Hh7 Lh7 Bh7 kh7 => ?_)
      rcases rh7 with _ | bh7
      ·
        replace hf := hq_N hf
        refine lv_astoreN (lv' := [(4, .null), (0, .ref a0), (1, .int a1), (2, .int a2), (3, .int a3)]) hx hb dX11_bundle_25 hl (by decide) rfl (fun ls hl => hp_n (n := 27) rfl ?_)
        refine lv_aloadN hx hb dX11_bundle_27 (lv_at hl 0 rfl) (hp_n (n := 29) rfl ?_)
        refine lv_ifnonnullN hx hb dX11_bundle_29 (hp_n (n := 32) rfl ?_)
        refine lv_aload_n hx hb dX11_bundle_32 rfl (lv_at hl 1 rfl) (hp_n (n := 33) rfl ?_)
        refine lv_iconst (v := 2) hx hb dX11_bundle_33 (by decide) (hp_n (n := 34) rfl ?_)
        obtain ⟨rh8, αh8, qh8, hf⟩ := hq_cE hf
        refine d_ci (pc' := 37) Bh7 (hp_runV (As := [.int (2 : Int32)]) (rest := []) C Bh7 (n_X11_refuse n Γ l α Bh7.2.2.1 a0 (cw_k Bh7.2.2 k0) (2 : Int32) (rh8, αh8) qh8) lb_X11_refuse lv_X11_refuse lk_X11_98 (cw_k Bh7.2.2 k0) rfl (by decide) rfl hl.1 rfl (Nat.le_of_ble_eq_true rfl) dX11_bundle_34 ⟨Nat.le_refl _, Nat.le_refl _⟩) (by decide) rfl (fun Hh8 Lh8 Bh8 => ?_)
        cases hf
        exact q_iret C Bh8 hr hlk ⟨rfl, rfl, Bh8.2.2⟩ dX11_bundle_37
      ·
        replace hf := hq_S hf
        have kbh7 := kh7 bh7 rfl
        refine lv_astore (lv' := [(4, .ref bh7), (0, .ref a0), (1, .int a1), (2, .int a2), (3, .int a3)]) hx hb dX11_bundle_25 hl (by decide) rfl (fun ls hl => hp_n (n := 27) rfl ?_)
        refine lv_aload hx hb dX11_bundle_27 (lv_at hl 0 rfl) (hp_n (n := 29) rfl ?_)
        refine lv_ifnonnull (tgt := 38) hx hb dX11_bundle_29 (by decide) ?_
        refine lv_iload_n hx hb dX11_bundle_38 rfl (lv_at hl 4 rfl) (hp_n (n := 39) rfl ?_)
        refine lv_aload hx hb dX11_bundle_39 (lv_at hl 0 rfl) (hp_n (n := 41) rfl ?_)
        refine q_geti (κ := 3) (k := 2) (φ := 152) (pc' := 44) C Bh7 (cw_k Bh7.2.2 kbh7) fl_X11_167 rfl rfl rfl dX11_bundle_41 rfl (fun x9 ex9 => ?_)
        replace hf := ms_lE ex9 hf
        have J55 : ∀ (αh10 : hp_T) (Hh10 : Heap) (Lh10 : List Loc) (Bh10 : hp_B Γ (cw w_X11_bundle) s α αh10 Hh10 Lh10) (ls : Array Slot) (hl : lv_has ls 5 [(0, .ref a0)]) (hf : f_X11_bundle_J55 n a0 αh10 = some res), W p l e (hp_rm 5 0 0) s m ([.ref a0, .int a1, .int a2, .int a3] : List Value).toArray below meth c Hh10 Lh10 0 0 (MQ below (hp_Qi Γ (fun r β => r = res.1 ∧ β = res.2 ∧ cw w_X11_bundle α β)) ([.ref a0, .int a1, .int a2, .int a3] : List Value).toArray s 0 0 (hp_A Γ)) (F0 m 55 ls []) := by
          intro αh10 Hh10 Lh10 Bh10 ls hl hf
          unfold f_X11_bundle_J55 at hf
          refine lv_aload_n hx hb dX11_bundle_55 rfl (lv_at hl 0 rfl) (hp_n (n := 56) rfl ?_)
          refine lv_iconst (v := 5) hx hb dX11_bundle_56 (by decide) (hp_n (n := 57) rfl ?_)
          obtain ⟨rh11, αh11, qh11, hf⟩ := hq_cE hf
          refine d_ci (pc' := 60) Bh10 (hp_runV (As := [.int (5 : Int32)]) (rest := []) C Bh10 (n_X11_refuse n Γ l αh10 Bh10.2.2.1 a0 (cw_k Bh10.2.2 k0) (5 : Int32) (rh11, αh11) qh11) lb_X11_refuse lv_X11_refuse lk_X11_98 (cw_k Bh10.2.2 k0) rfl (by decide) rfl hl.1 rfl (Nat.le_of_ble_eq_true rfl) dX11_bundle_57 ⟨Nat.le_refl _, Nat.le_refl _⟩) (by decide) rfl (fun Hh11 Lh11 Bh11 => ?_)
          cases hf
          exact q_iret C Bh11 hr hlk ⟨rfl, rfl, Bh11.2.2⟩ dX11_bundle_60
        refine lv_icmp_gt (tgt := 55) hx hb dX11_bundle_44 (by decide) (fun c12 => ?_) (fun c12 => hp_n (n := 47) rfl ?_)
        ·
          replace hf := ms_iT c12 hf
          exact J55 α Hh7 Lh7 Bh7 ls (lv_sub hl [1] rfl) hf
        ·
          replace hf := ms_iF c12 hf
          refine lv_iload_n hx hb dX11_bundle_47 rfl (lv_at hl 3 rfl) (hp_n (n := 48) rfl ?_)
          refine lv_iload_n hx hb dX11_bundle_48 rfl (lv_at hl 4 rfl) (hp_n (n := 49) rfl ?_)
          obtain ⟨rh13, qh13, hf⟩ := ms_bE hf
          refine d_pi (pc' := 52) Bh7 (hp_runS (As := [.int a2, .int a3]) (rest := []) C Bh7 (n_X11_lieBelow n Γ l α Bh7.2.2.1 a2 a3 rh13 qh13) lb_X11_lieBelow ls_X11_lieBelow lk_X11_280 rfl (by decide) rfl hl.1 rfl (Nat.le_of_ble_eq_true rfl) dX11_bundle_49 ⟨Nat.le_refl _, Nat.le_refl _⟩) rfl (fun Hh13 Lh13 Bh13 => ?_)
          refine lv_if_ne (tgt := 61) hx hb dX11_bundle_52 (by decide) (fun c14 => ?_) (fun c14 => hp_n (n := 55) rfl ?_)
          ·
            replace hf := ms_iF c14 hf
            refine lv_aload_n hx hb dX11_bundle_61 rfl (lv_at hl 1 rfl) (hp_n (n := 62) rfl ?_)
            refine q_getr (κ := 12) (k := 12) (φ := 612) (pc' := 65) C Bh13 (cw_k Bh13.2.2 k0) fl_X11_62 rfl rfl rfl (cw_r Bh13.2.2 k0 rfl rfl (by decide) (by decide)) dX11_bundle_62 rfl (fun b15 eb15 kb15 => ?_)
            replace hf := ms_lE eb15 hf
            refine lv_iload_n hx hb dX11_bundle_65 rfl (lv_at hl 3 rfl) (hp_n (n := 66) rfl ?_)
            refine lv_iload_n hx hb dX11_bundle_66 rfl (lv_at hl 4 rfl) (hp_n (n := 67) rfl ?_)
            obtain ⟨αh16, qh16, hf⟩ := ms_bE hf
            refine d_cv (pc' := 70) Bh13 (hp_runV (As := [.int a2, .int a3]) (rest := []) C Bh13 (n_X8_toBundle n Γ l α Bh13.2.2.1 b15 (cw_k Bh13.2.2 kb15) a2 a3 αh16 qh16) lb_X8_toBundle lv_X8_toBundle lk_X11_284 (cw_k Bh13.2.2 kb15) rfl (by decide) rfl hl.1 rfl (Nat.le_of_ble_eq_true rfl) dX11_bundle_67 ⟨Nat.le_refl _, Nat.le_refl _⟩) (by decide) rfl (fun Hh16 Lh16 Bh16 => ?_)
            refine lv_aload_n hx hb dX11_bundle_70 rfl (lv_at hl 1 rfl) (hp_n (n := 71) rfl ?_)
            refine q_getr (κ := 12) (k := 1) (φ := 601) (pc' := 74) C Bh16 (cw_k Bh16.2.2 k0) fl_X11_16 rfl rfl rfl (cw_r Bh16.2.2 k0 rfl rfl (by decide) (by decide)) dX11_bundle_71 rfl (fun b17 eb17 kb17 => ?_)
            replace hf := ms_lE eb17 hf
            refine lv_aload_n hx hb dX11_bundle_74 rfl (lv_at hl 1 rfl) (hp_n (n := 75) rfl ?_)
            refine q_getr (κ := 12) (k := 12) (φ := 612) (pc' := 78) C Bh16 (cw_k Bh16.2.2 k0) fl_X11_62 rfl rfl rfl (cw_r Bh16.2.2 k0 rfl rfl (by decide) (by decide)) dX11_bundle_75 rfl (fun b18 eb18 kb18 => ?_)
            replace hf := ms_lE eb18 hf
            refine lv_aload hx hb dX11_bundle_78 (lv_at hl 0 rfl) (hp_n (n := 80) rfl ?_)
            refine lv_aload_n hx hb dX11_bundle_80 rfl (lv_at hl 1 rfl) (hp_n (n := 81) rfl ?_)
            refine q_getr (κ := 12) (k := 3) (φ := 603) (pc' := 84) C Bh16 (cw_k Bh16.2.2 k0) fl_X11_26 rfl rfl rfl (cw_r Bh16.2.2 k0 rfl rfl (by decide) (by decide)) dX11_bundle_81 rfl (fun b19 eb19 kb19 => ?_)
            replace hf := ms_lE eb19 hf
            obtain ⟨αh20, qh20, hf⟩ := ms_bE hf
            refine d_cv (pc' := 87) Bh16 (hp_runV (As := [.ref b18, va_rf (some bh7), .ref b19]) (rest := []) C Bh16 (n_X10_marksAlong n Γ l αh16 Bh16.2.2.1 b17 (cw_k Bh16.2.2 kb17) b18 (cw_k Bh16.2.2 kb18) (some bh7) (fun b h => by cases h; exact (cw_k Bh16.2.2 kbh7)) b19 (cw_k Bh16.2.2 kb19) αh20 qh20) lb_X10_marksAlong lv_X10_marksAlong lk_X11_270 (cw_k Bh16.2.2 kb17) rfl (by decide) rfl hl.1 rfl (Nat.le_of_ble_eq_true rfl) dX11_bundle_84 ⟨Nat.le_refl _, Nat.le_refl _⟩) (by decide) rfl (fun Hh20 Lh20 Bh20 => ?_)
            refine lv_aload_n hx hb dX11_bundle_87 rfl (lv_at hl 1 rfl) (hp_n (n := 88) rfl ?_)
            refine lv_aload_n hx hb dX11_bundle_88 rfl (lv_at hl 1 rfl) (hp_n (n := 89) rfl ?_)
            refine q_getr (κ := 12) (k := 3) (φ := 603) (pc' := 92) C Bh20 (cw_k Bh20.2.2 k0) fl_X11_26 rfl rfl rfl (cw_r Bh20.2.2 k0 rfl rfl (by decide) (by decide)) dX11_bundle_89 rfl (fun b21 eb21 kb21 => ?_)
            replace hf := ms_lE eb21 hf
            refine q_geti (κ := 6) (k := 1) (φ := 301) (pc' := 95) C Bh20 (cw_k Bh20.2.2 kb21) fl_X11_132 rfl rfl rfl dX11_bundle_92 rfl (fun x22 ex22 => ?_)
            replace hf := ms_lE ex22 hf
            obtain ⟨rh23, αh23, qh23, hf⟩ := hq_cE hf
            refine d_ci (pc' := 98) Bh20 (hp_runV (As := [.int x22]) (rest := []) C Bh20 (n_X11_answer n Γ l αh20 Bh20.2.2.1 a0 (cw_k Bh20.2.2 k0) x22 (rh23, αh23) qh23) lb_X11_answer lv_X11_answer lk_X11_115 (cw_k Bh20.2.2 k0) rfl (by decide) rfl hl.1 rfl (Nat.le_of_ble_eq_true rfl) dX11_bundle_95 ⟨Nat.le_refl _, Nat.le_refl _⟩) (by decide) rfl (fun Hh23 Lh23 Bh23 => ?_)
            cases hf
            exact q_iret C Bh23 hr hlk ⟨rfl, rfl, Bh23.2.2⟩ dX11_bundle_98
          ·
            replace hf := ms_iT c14 hf
            exact J55 α Hh13 Lh13 Bh13 ls (lv_sub hl [1] rfl) hf
    ·
      replace hf := ms_iT c5 hf
      exact J11 α Hh4 Lh4 Bh4 ls (lv_sub hl [0] rfl) hf
def f_X10_alarmedBits_J32 (n : Nat) (α : hp_T) (a0 : Nat) (rec4 : Int32 → Int32 → Option Int32) (v1_h4 : Int32) (v2_h4 : Int32) : Option Int32 :=
  ms_l (v2_h4 + 1) fun x5 =>
  rec4 v1_h4 x5
def f_X10_alarmedBits_L4 (n : Nat) (α : hp_T) (a0 : Nat) : Nat → Int32 → Int32 → Option Int32
  | 0, _, _ => none
  | k4 + 1, v1_h1, v2_h1 =>
    if (4 : Int32) ≤ v2_h1 then
      some v1_h1
    else
      ms_b (f_X10_watcherAt n α a0 v2_h1) fun rh3 =>
      hq_m rh3 (
        f_X10_alarmedBits_J32 n α a0 (f_X10_alarmedBits_L4 n α a0 k4) v1_h1 v2_h1) fun bh3 =>
      ms_l (hp_I α 403 bh3) fun x8 =>
      if x8 = 0 then
        f_X10_alarmedBits_J32 n α a0 (f_X10_alarmedBits_L4 n α a0 k4) v1_h1 v2_h1
      else
        ms_l ((v1_h1 ||| ((1 : Int32) <<< (v2_h1 &&& 31)))) fun x10 =>
        f_X10_alarmedBits_J32 n α a0 (f_X10_alarmedBits_L4 n α a0 k4) x10 v2_h1
def f_X10_alarmedBits (n : Nat) (α : hp_T) (a0 : Nat) : Option Int32 :=
  f_X10_alarmedBits_L4 n α a0 n (0 : Int32) (0 : Int32)
set_option maxRecDepth 100000 in
set_option maxHeartbeats 4000000 in
theorem n_X10_alarmedBits (n : Nat) (Γ : hp_G) (l : Launch) (α : hp_T) (g : GC α) (a0 : Nat) (k0 : hp_K α a0 = 11) (res : Int32) (hf : f_X10_alarmedBits n α a0 = some res) : Met l yX10_alarmedBits (hp_ws yX10_alarmedBits cX10_alarmedBits 4 (some .int)) (hp_rm 1 0 0) (hp_Pc Γ α [.ref a0]) (hp_Qi Γ (fun r β => β = α ∧ r = res)) 0 0 (hp_A Γ) := by
  unfold f_X10_alarmedBits at hf
  refine hp_start (by decide) ?_
  intro p e s m below meth c C hr hlk B0 hnm
  have C : hp_C Γ p m c cX10_alarmedBits 4 s ([.ref a0] : List Value).toArray RX10 := C
  have hx := C.1.1
  have hb := C.1.2.1
  have hown := C.1.2.2.2.1
  have hts := C.1.2.2.2.2
  have B : hp_B Γ (cw w_X10_alarmedBits) s α α s.heap [] := ⟨B0.1, B0.2.1, cw_rf g⟩
  have hl := lv_entry ([.ref a0]) (n := 4) (Nat.le_of_ble_eq_true rfl)
  show W p l e (hp_rm 1 0 0) s m ([.ref a0] : List Value).toArray below meth c s.heap [] 0 0 (MQ below (hp_Qi Γ (fun r β => β = α ∧ r = res)) ([.ref a0] : List Value).toArray s 0 0 (hp_A Γ)) (entryFrame m ([.ref a0] : List Value).toArray 4)
  rw [lg_entry_eq]
  generalize (lg_sl ([.ref a0]) ++ List.replicate (4 - (lg_sl ([.ref a0])).length) Slot.unset).toArray = ls at hl ⊢
  have hl : lv_has ls 4 [(0, .ref a0)] := hl
  refine lv_iconst (v := 0) hx hb dX10_alarmedBits_0 (by decide) (hp_n (n := 1) rfl ?_)
  refine lv_istore_n (lv' := [(1, .int (0 : Int32)), (0, .ref a0)]) hx hb dX10_alarmedBits_1 rfl hl (by decide) rfl (fun ls hl => hp_n (n := 2) rfl ?_)
  refine lv_iconst (v := 0) hx hb dX10_alarmedBits_2 (by decide) (hp_n (n := 3) rfl ?_)
  have J4 : ∀ (k4 : Nat) (Hh1 : Heap) (Lh1 : List Loc) (Bh1 : hp_B Γ (cw w_X10_alarmedBits) s α α Hh1 Lh1) (v1_h1 : Int32) (v2_h1 : Int32) (ls : Array Slot) (hl : lv_has ls 4 [(0, .ref a0), (1, .int v1_h1), (2, .int v2_h1)]) (hf : f_X10_alarmedBits_L4 n α a0 k4 v1_h1 v2_h1 = some res), W p l e (hp_rm 1 0 0) s m ([.ref a0] : List Value).toArray below meth c Hh1 Lh1 0 0 (MQ below (hp_Qi Γ (fun r β => β = α ∧ r = res)) ([.ref a0] : List Value).toArray s 0 0 (hp_A Γ)) (F0 m 4 ls []) := by
    intro k4
    induction k4 with
    | zero => intro Hh1 Lh1 Bh1 v1_h1 v2_h1 ls hl hf; rw [f_X10_alarmedBits_L4.eq_1] at hf; cases hf
    | succ k4 ih4 =>
      intro Hh1 Lh1 Bh1 v1_h1 v2_h1 ls hl hf
      rw [f_X10_alarmedBits_L4.eq_2] at hf
      refine lv_iload_n hx hb dX10_alarmedBits_4 rfl (lv_at hl 2 rfl) (hp_n (n := 5) rfl ?_)
      refine lv_iconst (v := 4) hx hb dX10_alarmedBits_5 (by decide) (hp_n (n := 6) rfl ?_)
      refine lv_icmp_ge (tgt := 38) hx hb dX10_alarmedBits_6 (by decide) (fun c2 => ?_) (fun c2 => hp_n (n := 9) rfl ?_)
      ·
        replace hf := ms_iT c2 hf
        refine lv_iload_n hx hb dX10_alarmedBits_38 rfl (lv_at hl 1 rfl) (hp_n (n := 39) rfl ?_)
        cases hf
        exact q_iret C Bh1 hr hlk ⟨rfl, rfl⟩ dX10_alarmedBits_39
      ·
        replace hf := ms_iF c2 hf
        refine lv_aload_n hx hb dX10_alarmedBits_9 rfl (lv_at hl 0 rfl) (hp_n (n := 10) rfl ?_)
        refine lv_iload_n hx hb dX10_alarmedBits_10 rfl (lv_at hl 2 rfl) (hp_n (n := 11) rfl ?_)
        obtain ⟨rh3, qh3, hf⟩ := ms_bE hf
        refine d_pq (pc' := 14) Bh1 (hp_runV (As := [.int v2_h1]) (rest := []) C Bh1 (n_X10_watcherAt n Γ l α Bh1.2.2.1 a0 (cw_k Bh1.2.2 k0) v2_h1 rh3 qh3) lb_X10_watcherAt lv_X10_watcherAt lk_X10_71 (cw_k Bh1.2.2 k0) rfl (by decide) rfl hl.1 rfl (Nat.le_of_ble_eq_true rfl) dX10_alarmedBits_11 ⟨Nat.le_refl _, Nat.le_refl _⟩) rfl (fun Hh3 Lh3 Bh3 kh3 => ?_)
        rcases rh3 with _ | bh3
        ·
          replace hf := hq_N hf
          refine lv_astore_nN (lv' := [(3, .null), (0, .ref a0), (1, .int v1_h1), (2, .int v2_h1)]) hx hb dX10_alarmedBits_14 rfl hl (by decide) rfl (fun ls hl => hp_n (n := 15) rfl ?_)
          refine lv_aload_nN hx hb dX10_alarmedBits_15 rfl (lv_at hl 0 rfl) (hp_n (n := 16) rfl ?_)
          have J32 : ∀ (Hh4 : Heap) (Lh4 : List Loc) (Bh4 : hp_B Γ (cw w_X10_alarmedBits) s α α Hh4 Lh4) (v1_h4 : Int32) (v2_h4 : Int32) (ls : Array Slot) (hl : lv_has ls 4 [(0, .ref a0), (1, .int v1_h4), (2, .int v2_h4)]) (hf : f_X10_alarmedBits_J32 n α a0 (f_X10_alarmedBits_L4 n α a0 k4) v1_h4 v2_h4 = some res), W p l e (hp_rm 1 0 0) s m ([.ref a0] : List Value).toArray below meth c Hh4 Lh4 0 0 (MQ below (hp_Qi Γ (fun r β => β = α ∧ r = res)) ([.ref a0] : List Value).toArray s 0 0 (hp_A Γ)) (F0 m 32 ls []) := by
            intro Hh4 Lh4 Bh4 v1_h4 v2_h4 ls hl hf
            unfold f_X10_alarmedBits_J32 at hf
            obtain ⟨x5, ex5⟩ : ∃ y : Int32, y = v2_h4 + 1 := ⟨_, rfl⟩
            replace hf := ms_lE ex5 hf
            refine lv_iinc (v := x5) (lv' := [(2, .int x5), (0, .ref a0), (1, .int v1_h4)]) hx hb dX10_alarmedBits_32 hl (k := 2) rfl (by rw [ex5]; rfl) (by decide) rfl (fun ls hl => hp_n (n := 35) rfl ?_)
            refine lv_goto (tgt := 4) hx hb dX10_alarmedBits_35 (by decide) ?_
            exact ih4 Hh4 Lh4 Bh4 v1_h4 x5 ls (lv_sub hl [1, 2, 0] rfl) hf
          refine lv_ifnullN (tgt := 32) hx hb dX10_alarmedBits_16 (by decide) ?_
          exact J32 Hh3 Lh3 Bh3 v1_h1 v2_h1 ls (lv_sub hl [1, 2, 3] rfl) hf
        ·
          replace hf := hq_S hf
          have kbh3 := kh3 bh3 rfl
          refine lv_astore_n (lv' := [(3, .ref bh3), (0, .ref a0), (1, .int v1_h1), (2, .int v2_h1)]) hx hb dX10_alarmedBits_14 rfl hl (by decide) rfl (fun ls hl => hp_n (n := 15) rfl ?_)
          refine lv_aload_n hx hb dX10_alarmedBits_15 rfl (lv_at hl 0 rfl) (hp_n (n := 16) rfl ?_)
          have J32 : ∀ (Hh6 : Heap) (Lh6 : List Loc) (Bh6 : hp_B Γ (cw w_X10_alarmedBits) s α α Hh6 Lh6) (v1_h6 : Int32) (v2_h6 : Int32) (ls : Array Slot) (hl : lv_has ls 4 [(0, .ref a0), (1, .int v1_h6), (2, .int v2_h6)]) (hf : f_X10_alarmedBits_J32 n α a0 (f_X10_alarmedBits_L4 n α a0 k4) v1_h6 v2_h6 = some res), W p l e (hp_rm 1 0 0) s m ([.ref a0] : List Value).toArray below meth c Hh6 Lh6 0 0 (MQ below (hp_Qi Γ (fun r β => β = α ∧ r = res)) ([.ref a0] : List Value).toArray s 0 0 (hp_A Γ)) (F0 m 32 ls []) := by
            intro Hh6 Lh6 Bh6 v1_h6 v2_h6 ls hl hf
            unfold f_X10_alarmedBits_J32 at hf
            obtain ⟨x7, ex7⟩ : ∃ y : Int32, y = v2_h6 + 1 := ⟨_, rfl⟩
            replace hf := ms_lE ex7 hf
            refine lv_iinc (v := x7) (lv' := [(2, .int x7), (0, .ref a0), (1, .int v1_h6)]) hx hb dX10_alarmedBits_32 hl (k := 2) rfl (by rw [ex7]; rfl) (by decide) rfl (fun ls hl => hp_n (n := 35) rfl ?_)
            refine lv_goto (tgt := 4) hx hb dX10_alarmedBits_35 (by decide) ?_
            exact ih4 Hh6 Lh6 Bh6 v1_h6 x7 ls (lv_sub hl [1, 2, 0] rfl) hf
          refine lv_ifnull hx hb dX10_alarmedBits_16 (hp_n (n := 19) rfl ?_)
          refine lv_aload_n hx hb dX10_alarmedBits_19 rfl (lv_at hl 0 rfl) (hp_n (n := 20) rfl ?_)
          refine q_geti (κ := 8) (k := 3) (φ := 403) (pc' := 23) C Bh3 (cw_k Bh3.2.2 kbh3) fl_X10_78 rfl rfl rfl dX10_alarmedBits_20 rfl (fun x8 ex8 => ?_)
          replace hf := ms_lE ex8 hf
          refine lv_if_eq (tgt := 32) hx hb dX10_alarmedBits_23 (by decide) (fun c9 => ?_) (fun c9 => hp_n (n := 26) rfl ?_)
          ·
            replace hf := ms_iT c9 hf
            exact J32 Hh3 Lh3 Bh3 v1_h1 v2_h1 ls (lv_sub hl [1, 2, 3] rfl) hf
          ·
            replace hf := ms_iF c9 hf
            refine lv_iload_n hx hb dX10_alarmedBits_26 rfl (lv_at hl 2 rfl) (hp_n (n := 27) rfl ?_)
            refine lv_iconst (v := 1) hx hb dX10_alarmedBits_27 (by decide) (hp_n (n := 28) rfl ?_)
            refine lv_iload_n hx hb dX10_alarmedBits_28 rfl (lv_at hl 3 rfl) (hp_n (n := 29) rfl ?_)
            refine lv_ishl hx hb dX10_alarmedBits_29 (hp_n (n := 30) rfl ?_)
            refine lv_ior hx hb dX10_alarmedBits_30 (hp_n (n := 31) rfl ?_)
            refine lv_topi (fun x10 ex10 => ?_)
            replace hf := ms_lE ex10 hf
            refine lv_istore_n (lv' := [(1, .int x10), (3, .ref bh3), (0, .ref a0), (2, .int v2_h1)]) hx hb dX10_alarmedBits_31 rfl hl (by decide) rfl (fun ls hl => hp_n (n := 32) rfl ?_)
            exact J32 Hh3 Lh3 Bh3 x10 v2_h1 ls (lv_sub hl [2, 0, 3] rfl) hf
  refine lv_istore_n (lv' := [(2, .int (0 : Int32)), (1, .int (0 : Int32)), (0, .ref a0)]) hx hb dX10_alarmedBits_3 rfl hl (by decide) rfl (fun ls hl => hp_n (n := 4) rfl ?_)
  exact J4 n s.heap [] B (0 : Int32) (0 : Int32) ls (lv_sub hl [2, 1, 0] rfl) hf
def f_X11_many (n : Nat) (α : hp_T) (a0 : Nat) (a1 : Int32) : Option (Int32 × hp_T) :=
  if a1 = (0 : Int32) then
    ms_l (hp_R α 601 a0) fun b2 =>
    ms_l (hp_I α 552 b2) fun x3 =>
    hq_c (f_X11_answer n α a0 x3) fun rh4 αh4 =>
    some (rh4, αh4)
  else
  if a1 = (1 : Int32) then
    ms_l (hp_R α 601 a0) fun b6 =>
    ms_l (hp_I α 550 b6) fun x7 =>
    hq_c (f_X11_answer n α a0 x7) fun rh8 αh8 =>
    some (rh8, αh8)
  else
  if a1 = (2 : Int32) then
    ms_l (hp_R α 603 a0) fun b10 =>
    ms_l (hp_I α 301 b10) fun x11 =>
    hq_c (f_X11_answer n α a0 x11) fun rh12 αh12 =>
    some (rh12, αh12)
  else
  if a1 = (3 : Int32) then
    ms_l (hp_R α 601 a0) fun b14 =>
    ms_l (hp_I α 554 b14) fun x15 =>
    hq_c (f_X11_answer n α a0 x15) fun rh16 αh16 =>
    some (rh16, αh16)
  else
  if a1 = (4 : Int32) then
    ms_l (hp_R α 601 a0) fun b18 =>
    ms_l (hp_I α 556 b18) fun x19 =>
    hq_c (f_X11_answer n α a0 x19) fun rh20 αh20 =>
    some (rh20, αh20)
  else
  if a1 = (5 : Int32) then
    ms_l (hp_R α 601 a0) fun b22 =>
    ms_b (f_X10_alarmedBits n α b22) fun rh23 =>
    hq_c (f_X11_answer n α a0 rh23) fun rh24 αh24 =>
    some (rh24, αh24)
  else
  hq_c (f_X11_refuse n α a0 (1 : Int32)) fun rh25 αh25 =>
  some (rh25, αh25)
set_option maxRecDepth 100000 in
set_option maxHeartbeats 4000000 in
theorem n_X11_many (n : Nat) (Γ : hp_G) (l : Launch) (α : hp_T) (g : GC α) (a0 : Nat) (k0 : hp_K α a0 = 12) (a1 : Int32) (res : (Int32 × hp_T)) (hf : f_X11_many n α a0 a1 = some res) : Met l yX11_many (hp_ws yX11_many cX11_many 2 (some .int)) (hp_rm 2 0 0) (hp_Pc Γ α [.ref a0, .int a1]) (hp_Qi Γ (fun r β => r = res.1 ∧ β = res.2 ∧ cw w_X11_many α β)) 0 0 (hp_A Γ) := by
  unfold f_X11_many at hf
  refine hp_start (by decide) ?_
  intro p e s m below meth c C hr hlk B0 hnm
  have C : hp_C Γ p m c cX11_many 2 s ([.ref a0, .int a1] : List Value).toArray RX11 := C
  have hx := C.1.1
  have hb := C.1.2.1
  have hown := C.1.2.2.2.1
  have hts := C.1.2.2.2.2
  have B : hp_B Γ (cw w_X11_many) s α α s.heap [] := ⟨B0.1, B0.2.1, cw_rf g⟩
  have hl := lv_entry ([.ref a0, .int a1]) (n := 2) (Nat.le_of_ble_eq_true rfl)
  show W p l e (hp_rm 2 0 0) s m ([.ref a0, .int a1] : List Value).toArray below meth c s.heap [] 0 0 (MQ below (hp_Qi Γ (fun r β => r = res.1 ∧ β = res.2 ∧ cw w_X11_many α β)) ([.ref a0, .int a1] : List Value).toArray s 0 0 (hp_A Γ)) (entryFrame m ([.ref a0, .int a1] : List Value).toArray 2)
  rw [lg_entry_eq]
  generalize (lg_sl ([.ref a0, .int a1]) ++ List.replicate (2 - (lg_sl ([.ref a0, .int a1])).length) Slot.unset).toArray = ls at hl ⊢
  have hl : lv_has ls 2 [(0, .ref a0), (1, .int a1)] := hl
  refine lv_iload_n hx hb dX11_many_0 rfl (lv_at hl 1 rfl) (hp_n (n := 1) rfl ?_)
  by_cases c1 : a1 = (0 : Int32)
  ·
    replace hf := ms_iT c1 hf
    refine lv_tableIn (off := 39) (tgt := 40) hx hb dX11_many_1 (by rw [c1]; decide) (by rw [c1]; decide) (by rw [c1]; rfl) (by decide) ?_
    refine lv_aload_n hx hb dX11_many_40 rfl (lv_at hl 0 rfl) (hp_n (n := 41) rfl ?_)
    refine lv_aload_n hx hb dX11_many_41 rfl (lv_at hl 0 rfl) (hp_n (n := 42) rfl ?_)
    refine q_getr (κ := 12) (k := 1) (φ := 601) (pc' := 45) C B (cw_k B.2.2 k0) fl_X11_16 rfl rfl rfl (cw_r B.2.2 k0 rfl rfl (by decide) (by decide)) dX11_many_42 rfl (fun b2 eb2 kb2 => ?_)
    replace hf := ms_lE eb2 hf
    refine q_geti (κ := 11) (k := 2) (φ := 552) (pc' := 48) C B (cw_k B.2.2 kb2) fl_X11_112 rfl rfl rfl dX11_many_45 rfl (fun x3 ex3 => ?_)
    replace hf := ms_lE ex3 hf
    obtain ⟨rh4, αh4, qh4, hf⟩ := hq_cE hf
    refine d_ci (pc' := 51) B (hp_runV (As := [.int x3]) (rest := []) C B (n_X11_answer n Γ l α B.2.2.1 a0 (cw_k B.2.2 k0) x3 (rh4, αh4) qh4) lb_X11_answer lv_X11_answer lk_X11_115 (cw_k B.2.2 k0) rfl (by decide) rfl hl.1 rfl (Nat.le_of_ble_eq_true rfl) dX11_many_48 ⟨Nat.le_refl _, Nat.le_refl _⟩) (by decide) rfl (fun Hh4 Lh4 Bh4 => ?_)
    cases hf
    exact q_iret C Bh4 hr hlk ⟨rfl, rfl, Bh4.2.2⟩ dX11_many_51
  replace hf := ms_iF c1 hf
  by_cases c5 : a1 = (1 : Int32)
  ·
    replace hf := ms_iT c5 hf
    refine lv_tableIn (off := 51) (tgt := 52) hx hb dX11_many_1 (by rw [c5]; decide) (by rw [c5]; decide) (by rw [c5]; rfl) (by decide) ?_
    refine lv_aload_n hx hb dX11_many_52 rfl (lv_at hl 0 rfl) (hp_n (n := 53) rfl ?_)
    refine lv_aload_n hx hb dX11_many_53 rfl (lv_at hl 0 rfl) (hp_n (n := 54) rfl ?_)
    refine q_getr (κ := 12) (k := 1) (φ := 601) (pc' := 57) C B (cw_k B.2.2 k0) fl_X11_16 rfl rfl rfl (cw_r B.2.2 k0 rfl rfl (by decide) (by decide)) dX11_many_54 rfl (fun b6 eb6 kb6 => ?_)
    replace hf := ms_lE eb6 hf
    refine q_geti (κ := 11) (k := 0) (φ := 550) (pc' := 60) C B (cw_k B.2.2 kb6) fl_X11_122 rfl rfl rfl dX11_many_57 rfl (fun x7 ex7 => ?_)
    replace hf := ms_lE ex7 hf
    obtain ⟨rh8, αh8, qh8, hf⟩ := hq_cE hf
    refine d_ci (pc' := 63) B (hp_runV (As := [.int x7]) (rest := []) C B (n_X11_answer n Γ l α B.2.2.1 a0 (cw_k B.2.2 k0) x7 (rh8, αh8) qh8) lb_X11_answer lv_X11_answer lk_X11_115 (cw_k B.2.2 k0) rfl (by decide) rfl hl.1 rfl (Nat.le_of_ble_eq_true rfl) dX11_many_60 ⟨Nat.le_refl _, Nat.le_refl _⟩) (by decide) rfl (fun Hh8 Lh8 Bh8 => ?_)
    cases hf
    exact q_iret C Bh8 hr hlk ⟨rfl, rfl, Bh8.2.2⟩ dX11_many_63
  replace hf := ms_iF c5 hf
  by_cases c9 : a1 = (2 : Int32)
  ·
    replace hf := ms_iT c9 hf
    refine lv_tableIn (off := 63) (tgt := 64) hx hb dX11_many_1 (by rw [c9]; decide) (by rw [c9]; decide) (by rw [c9]; rfl) (by decide) ?_
    refine lv_aload_n hx hb dX11_many_64 rfl (lv_at hl 0 rfl) (hp_n (n := 65) rfl ?_)
    refine lv_aload_n hx hb dX11_many_65 rfl (lv_at hl 0 rfl) (hp_n (n := 66) rfl ?_)
    refine q_getr (κ := 12) (k := 3) (φ := 603) (pc' := 69) C B (cw_k B.2.2 k0) fl_X11_26 rfl rfl rfl (cw_r B.2.2 k0 rfl rfl (by decide) (by decide)) dX11_many_66 rfl (fun b10 eb10 kb10 => ?_)
    replace hf := ms_lE eb10 hf
    refine q_geti (κ := 6) (k := 1) (φ := 301) (pc' := 72) C B (cw_k B.2.2 kb10) fl_X11_132 rfl rfl rfl dX11_many_69 rfl (fun x11 ex11 => ?_)
    replace hf := ms_lE ex11 hf
    obtain ⟨rh12, αh12, qh12, hf⟩ := hq_cE hf
    refine d_ci (pc' := 75) B (hp_runV (As := [.int x11]) (rest := []) C B (n_X11_answer n Γ l α B.2.2.1 a0 (cw_k B.2.2 k0) x11 (rh12, αh12) qh12) lb_X11_answer lv_X11_answer lk_X11_115 (cw_k B.2.2 k0) rfl (by decide) rfl hl.1 rfl (Nat.le_of_ble_eq_true rfl) dX11_many_72 ⟨Nat.le_refl _, Nat.le_refl _⟩) (by decide) rfl (fun Hh12 Lh12 Bh12 => ?_)
    cases hf
    exact q_iret C Bh12 hr hlk ⟨rfl, rfl, Bh12.2.2⟩ dX11_many_75
  replace hf := ms_iF c9 hf
  by_cases c13 : a1 = (3 : Int32)
  ·
    replace hf := ms_iT c13 hf
    refine lv_tableIn (off := 75) (tgt := 76) hx hb dX11_many_1 (by rw [c13]; decide) (by rw [c13]; decide) (by rw [c13]; rfl) (by decide) ?_
    refine lv_aload_n hx hb dX11_many_76 rfl (lv_at hl 0 rfl) (hp_n (n := 77) rfl ?_)
    refine lv_aload_n hx hb dX11_many_77 rfl (lv_at hl 0 rfl) (hp_n (n := 78) rfl ?_)
    refine q_getr (κ := 12) (k := 1) (φ := 601) (pc' := 81) C B (cw_k B.2.2 k0) fl_X11_16 rfl rfl rfl (cw_r B.2.2 k0 rfl rfl (by decide) (by decide)) dX11_many_78 rfl (fun b14 eb14 kb14 => ?_)
    replace hf := ms_lE eb14 hf
    refine q_geti (κ := 11) (k := 4) (φ := 554) (pc' := 84) C B (cw_k B.2.2 kb14) fl_X11_153 rfl rfl rfl dX11_many_81 rfl (fun x15 ex15 => ?_)
    replace hf := ms_lE ex15 hf
    obtain ⟨rh16, αh16, qh16, hf⟩ := hq_cE hf
    refine d_ci (pc' := 87) B (hp_runV (As := [.int x15]) (rest := []) C B (n_X11_answer n Γ l α B.2.2.1 a0 (cw_k B.2.2 k0) x15 (rh16, αh16) qh16) lb_X11_answer lv_X11_answer lk_X11_115 (cw_k B.2.2 k0) rfl (by decide) rfl hl.1 rfl (Nat.le_of_ble_eq_true rfl) dX11_many_84 ⟨Nat.le_refl _, Nat.le_refl _⟩) (by decide) rfl (fun Hh16 Lh16 Bh16 => ?_)
    cases hf
    exact q_iret C Bh16 hr hlk ⟨rfl, rfl, Bh16.2.2⟩ dX11_many_87
  replace hf := ms_iF c13 hf
  by_cases c17 : a1 = (4 : Int32)
  ·
    replace hf := ms_iT c17 hf
    refine lv_tableIn (off := 87) (tgt := 88) hx hb dX11_many_1 (by rw [c17]; decide) (by rw [c17]; decide) (by rw [c17]; rfl) (by decide) ?_
    refine lv_aload_n hx hb dX11_many_88 rfl (lv_at hl 0 rfl) (hp_n (n := 89) rfl ?_)
    refine lv_aload_n hx hb dX11_many_89 rfl (lv_at hl 0 rfl) (hp_n (n := 90) rfl ?_)
    refine q_getr (κ := 12) (k := 1) (φ := 601) (pc' := 93) C B (cw_k B.2.2 k0) fl_X11_16 rfl rfl rfl (cw_r B.2.2 k0 rfl rfl (by decide) (by decide)) dX11_many_90 rfl (fun b18 eb18 kb18 => ?_)
    replace hf := ms_lE eb18 hf
    refine q_geti (κ := 11) (k := 6) (φ := 556) (pc' := 96) C B (cw_k B.2.2 kb18) fl_X11_156 rfl rfl rfl dX11_many_93 rfl (fun x19 ex19 => ?_)
    replace hf := ms_lE ex19 hf
    obtain ⟨rh20, αh20, qh20, hf⟩ := hq_cE hf
    refine d_ci (pc' := 99) B (hp_runV (As := [.int x19]) (rest := []) C B (n_X11_answer n Γ l α B.2.2.1 a0 (cw_k B.2.2 k0) x19 (rh20, αh20) qh20) lb_X11_answer lv_X11_answer lk_X11_115 (cw_k B.2.2 k0) rfl (by decide) rfl hl.1 rfl (Nat.le_of_ble_eq_true rfl) dX11_many_96 ⟨Nat.le_refl _, Nat.le_refl _⟩) (by decide) rfl (fun Hh20 Lh20 Bh20 => ?_)
    cases hf
    exact q_iret C Bh20 hr hlk ⟨rfl, rfl, Bh20.2.2⟩ dX11_many_99
  replace hf := ms_iF c17 hf
  by_cases c21 : a1 = (5 : Int32)
  ·
    replace hf := ms_iT c21 hf
    refine lv_tableIn (off := 99) (tgt := 100) hx hb dX11_many_1 (by rw [c21]; decide) (by rw [c21]; decide) (by rw [c21]; rfl) (by decide) ?_
    refine lv_aload_n hx hb dX11_many_100 rfl (lv_at hl 0 rfl) (hp_n (n := 101) rfl ?_)
    refine lv_aload_n hx hb dX11_many_101 rfl (lv_at hl 0 rfl) (hp_n (n := 102) rfl ?_)
    refine q_getr (κ := 12) (k := 1) (φ := 601) (pc' := 105) C B (cw_k B.2.2 k0) fl_X11_16 rfl rfl rfl (cw_r B.2.2 k0 rfl rfl (by decide) (by decide)) dX11_many_102 rfl (fun b22 eb22 kb22 => ?_)
    replace hf := ms_lE eb22 hf
    obtain ⟨rh23, qh23, hf⟩ := ms_bE hf
    refine d_pi (pc' := 108) B (hp_runV (As := []) (rest := [.ref a0]) C B (n_X10_alarmedBits n Γ l α B.2.2.1 b22 (cw_k B.2.2 kb22) rh23 qh23) lb_X10_alarmedBits lv_X10_alarmedBits lk_X11_159 (cw_k B.2.2 kb22) rfl (by decide) rfl hl.1 rfl (Nat.le_of_ble_eq_true rfl) dX11_many_105 ⟨Nat.le_refl _, Nat.le_refl _⟩) rfl (fun Hh23 Lh23 Bh23 => ?_)
    obtain ⟨rh24, αh24, qh24, hf⟩ := hq_cE hf
    refine d_ci (pc' := 111) Bh23 (hp_runV (As := [.int rh23]) (rest := []) C Bh23 (n_X11_answer n Γ l α Bh23.2.2.1 a0 (cw_k Bh23.2.2 k0) rh23 (rh24, αh24) qh24) lb_X11_answer lv_X11_answer lk_X11_115 (cw_k Bh23.2.2 k0) rfl (by decide) rfl hl.1 rfl (Nat.le_of_ble_eq_true rfl) dX11_many_108 ⟨Nat.le_refl _, Nat.le_refl _⟩) (by decide) rfl (fun Hh24 Lh24 Bh24 => ?_)
    cases hf
    exact q_iret C Bh24 hr hlk ⟨rfl, rfl, Bh24.2.2⟩ dX11_many_111
  replace hf := ms_iF c21 hf
  have jc1 := il_ne c1
  rw [show (0 : Int32).toInt = 0 by decide] at jc1
  have jc5 := il_ne c5
  rw [show (1 : Int32).toInt = 1 by decide] at jc5
  have jc9 := il_ne c9
  rw [show (2 : Int32).toInt = 2 by decide] at jc9
  have jc13 := il_ne c13
  rw [show (3 : Int32).toInt = 3 by decide] at jc13
  have jc17 := il_ne c17
  rw [show (4 : Int32).toInt = 4 by decide] at jc17
  have jc21 := il_ne c21
  rw [show (5 : Int32).toInt = 5 by decide] at jc21
  refine lv_tableOut (tgt := 112) hx hb dX11_many_1 (by omega) (by decide) ?_
  refine lv_aload_n hx hb dX11_many_112 rfl (lv_at hl 0 rfl) (hp_n (n := 113) rfl ?_)
  refine lv_iconst (v := 1) hx hb dX11_many_113 (by decide) (hp_n (n := 114) rfl ?_)
  obtain ⟨rh25, αh25, qh25, hf⟩ := hq_cE hf
  refine d_ci (pc' := 117) B (hp_runV (As := [.int (1 : Int32)]) (rest := []) C B (n_X11_refuse n Γ l α B.2.2.1 a0 (cw_k B.2.2 k0) (1 : Int32) (rh25, αh25) qh25) lb_X11_refuse lv_X11_refuse lk_X11_98 (cw_k B.2.2 k0) rfl (by decide) rfl hl.1 rfl (Nat.le_of_ble_eq_true rfl) dX11_many_114 ⟨Nat.le_refl _, Nat.le_refl _⟩) (by decide) rfl (fun Hh25 Lh25 Bh25 => ?_)
  cases hf
  exact q_iret C Bh25 hr hlk ⟨rfl, rfl, Bh25.2.2⟩ dX11_many_117
end JN11_3
section JN11_4
set_option maxRecDepth 100000
/-! ===== a mark folded along a way ===== -/
def fwd (m : Int32) (xs : Nat → Int32) : List (Nat × Nat × Bool) → Nat → Int32 → Int32
  | [], _, s => s
  | q :: r, k, s => fwd m xs r (k + 1) (if q.2.2 then bt m (xs k) s else bt m s (xs k))
theorem fwd_app (m : Int32) (xs : Nat → Int32) : ∀ (l r : List (Nat × Nat × Bool)) (k : Nat) (s : Int32), fwd m xs (l ++ r) k s = fwd m xs r (k + l.length) (fwd m xs l k s) := by
  intro l
  induction l with
  | nil => intro r k s; rfl
  | cons q l ih =>
    intro r k s
    rw [List.cons_append, fwd, fwd, ih, List.length_cons, show k + 1 + l.length = k + (l.length + 1) by omega]
theorem fwd_c (m : Int32) {xs ys : Nat → Int32} : ∀ (l : List (Nat × Nat × Bool)) (k : Nat) (s : Int32), (∀ j, k ≤ j → j < k + l.length → xs j = ys j) → fwd m xs l k s = fwd m ys l k s := by
  intro l
  induction l with
  | nil => intro k s _; rfl
  | cons q l ih =>
    intro k s h
    rw [List.length_cons] at h
    rw [fwd, fwd, h k (Nat.le_refl _) (by omega)]
    exact ih (k + 1) _ (fun j h1 h2 => h j (by omega) (by omega))
theorem v_foldsIn (n : Nat) (mark : Int32) : ∀ (d e : Nat) (σ : ms_T) (f i m a0 : Nat) (iI mI : Int32), (ms_I σ 658).toInt = (a0 : Int) → a0 + e ≤ 100 → iI.toInt = (i : Int) → mI.toInt = (m : Int) → i < m → m ≤ 2 ^ e → pr (f_X12_foldsIn n d σ mark iI mI) (fun res => res.1 = fwd (ms_E σ 40 1) (ms_E σ 44) (wyT e i f m).reverse a0 mark ∧ (ms_I res.2 658).toInt = (a0 : Int) + (wyT e i f m).length ∧ fr [658] [] σ res.2) := by
  intro d
  induction d with
  | zero => intro e σ f i m a0 iI mI _ _ _ _ _ _; rw [f_X12_foldsIn.eq_1]; exact pr_0
  | succ d ih =>
    intro e σ f i m a0 iI mI h0 hae hi hm him hme
    rw [f_X12_foldsIn.eq_2]
    refine pr_e (fun h1 => ?_) (fun h1 => ?_)
    · have : m = 1 := by rw [h1, lt1] at hm; omega
      subst this
      have e1 : wyT e i f 1 = [] := by cases e <;> simp [wyT]
      rw [e1]
      exact pr_s ⟨rfl, by rw [h0]; simp, fr_rf⟩
    · rw [lt1, hm] at h1
      have hm2 : 2 ≤ m := by omega
      have hmb := ib_hi mI
      cases e with
      | zero => simp at hme; omega
      | succ e =>
      have hp1 := p0_lt hm2
      have hp2 := p0_le (m := m)
      have hp3 := p0_pos m
      have hp4 := p0_dn hm2 hme
      have e1 : wyT (e + 1) i f m = if i < p0 m then (f + p0 m, m - p0 m, false) :: wyT e i f (p0 m) else (f, p0 m, true) :: wyT e (i - p0 m) (f + p0 m) (m - p0 m) := by rw [wyT, if_neg (by omega)]
      rw [e1]
      refine pr_b (v_part0 n mI (by omega)) (fun r hr => ?_)
      rw [hm, Int.toNat_natCast] at hr
      refine pr_le (fun h2 => ?_) (fun h2 => ?_)
      · rw [if_neg (show ¬ i < p0 m by omega)]
        refine pr_c (ih e σ (f + p0 m) (i - p0 m) (m - p0 m) a0 _ _ h0 (by omega) (by rw [ii_sub (by omega) (by omega)]; omega) (by rw [ii_sub (by omega) (by omega)]; omega) (by omega) (by omega)) (fun v τ hτ => ?_)
        obtain ⟨t1, t2, t3⟩ := hτ
        replace t2 : (ms_I τ 658).toInt = _ := t2
        have hwl := wyT_len e (i - p0 m) (f + p0 m) (m - p0 m)
        have e44 : ms_E τ 44 = ms_E σ 44 := funext (t3.2 44 (by decide))
        have e40 : ms_E τ 40 1 = ms_E σ 40 1 := t3.2 40 (by decide) 1
        refine pr_ln (fun υ hυ => pr_g (fun _ _ => ?_))
        have u1 : (ms_I υ 658).toInt = (a0 : Int) + (wyT e (i - p0 m) (f + p0 m) (m - p0 m)).length + 1 := by rw [hυ, mI_sI, if_pos rfl, iw_add, lt1]; omega
        have hc : (ms_I υ 658 - 1).toNatClampNeg = a0 + (wyT e (i - p0 m) (f + p0 m) (m - p0 m)).length := cl_n (by rw [iw_sub, lt1, u1]; omega)
        have uE : ms_E υ = ms_E τ := by rw [hυ]; rfl
        rw [hc, uE, e44]
        refine pr_b (v_both n υ _ _) (fun w hw => pr_s ⟨?_, ?_, ?_⟩)
        · replace t1 : v = _ := t1
          rw [List.reverse_cons, fwd_app, List.length_reverse, ← t1, fwd, fwd]
          rw [uE, e40] at hw
          show w = _
          rw [hw]
          rfl
        · show (ms_I υ 658).toInt = _
          rw [u1, List.length_cons]; omega
        · show fr [658] [] σ υ
          rw [hυ]
          exact fr_tr t3 (fr_sI (by decide))
      · rw [if_pos (show i < p0 m by omega)]
        refine pr_c (ih e σ f i (p0 m) a0 _ _ h0 (by omega) hi hr (by omega) hp4) (fun v τ hτ => ?_)
        obtain ⟨t1, t2, t3⟩ := hτ
        replace t2 : (ms_I τ 658).toInt = _ := t2
        have hwl := wyT_len e i f (p0 m)
        have e44 : ms_E τ 44 = ms_E σ 44 := funext (t3.2 44 (by decide))
        have e40 : ms_E τ 40 1 = ms_E σ 40 1 := t3.2 40 (by decide) 1
        refine pr_ln (fun υ hυ => pr_g (fun _ _ => ?_))
        have u1 : (ms_I υ 658).toInt = (a0 : Int) + (wyT e i f (p0 m)).length + 1 := by rw [hυ, mI_sI, if_pos rfl, iw_add, lt1]; omega
        have hc : (ms_I υ 658 - 1).toNatClampNeg = a0 + (wyT e i f (p0 m)).length := cl_n (by rw [iw_sub, lt1, u1]; omega)
        have uE : ms_E υ = ms_E τ := by rw [hυ]; rfl
        rw [hc, uE, e44]
        refine pr_b (v_both n υ _ _) (fun w hw => pr_s ⟨?_, ?_, ?_⟩)
        · replace t1 : v = _ := t1
          rw [List.reverse_cons, fwd_app, List.length_reverse, ← t1, fwd, fwd]
          rw [uE, e40] at hw
          show w = _
          rw [hw]
          rfl
        · show (ms_I υ 658).toInt = _
          rw [u1, List.length_cons]; omega
        · show fr [658] [] σ υ
          rw [hυ]
          exact fr_tr t3 (fr_sI (by decide))
theorem v_folded (n : Nat) (σ : ms_T) (mark : Int32) (i m : Nat) (iI mI : Int32) (hi : iI.toInt = (i : Int)) (hm : mI.toInt = (m : Int)) (him : i < m) : pr (f_X12_folded n σ mark iI mI) (fun res => res.1 = fwd (ms_E σ 40 1) (ms_E σ 44) (wyT 31 i 0 m).reverse 0 mark ∧ fr [658] [] σ res.2) := by
  have hmb := ib_hi mI
  have h31 : (2 : Nat) ^ 31 = 2147483648 := by decide
  unfold f_X12_folded
  refine pr_ln (fun τ hτ => ?_)
  have h0 : (ms_I τ 658).toInt = ((0 : Nat) : Int) := by rw [hτ, mI_sI, if_pos rfl]; rfl
  refine pr_c (v_foldsIn n mark 40 31 τ 0 i m 0 iI mI h0 (by omega) hi hm him (by omega)) (fun r υ hr => pr_s ⟨?_, ?_⟩)
  · have := hr.1
    rw [hτ] at this
    exact this
  · have := hr.2.2
    rw [hτ] at this
    exact fr_tr (fr_sI (by decide)) this
theorem v_waysIn_fr (n : Nat) : ∀ (d : Nat) (σ : ms_T) (f i m : Int32), pr (f_X12_waysIn n d σ f i m) (fun τ => fr [657] [42, 43] σ τ) := by
  intro d
  induction d with
  | zero => intro σ f i m; rw [f_X12_waysIn.eq_1]; exact pr_0
  | succ d ih =>
    intro σ f i m
    rw [f_X12_waysIn.eq_2]
    refine pr_i (fun _ => pr_s fr_rf) (fun _ => pr_b (T := fun _ => True) (fun _ _ => trivial) (fun r _ => pr_i (fun _ => ?_) (fun _ => ?_)))
    · exact pr_b (ih σ _ _ _) (fun τ hτ => pr_b (pr_w_asks n τ _ _) (fun υ hυ => pr_s (fr_tr hτ hυ)))
    · exact pr_b (ih σ _ _ _) (fun τ hτ => pr_b (pr_w_asks n τ _ _) (fun υ hυ => pr_s (fr_tr hτ hυ)))
theorem v_incl_fr (n : Nat) (σ : ms_T) (i m : Int32) : pr (f_X12_inclusion n σ i m) (fun τ => fr [657] [42, 43] σ τ) := by
  unfold f_X12_inclusion
  exact pr_l (pr_b (v_waysIn_fr n 40 _ _ _ _) (fun τ hτ => pr_s (fr_tr (fr_sI (by decide)) hτ)))
/-- WHY an inclusion is not taken: c marks, of them xs -/
def WIN (m : Int32) (xs : Nat → Int32) (c : Nat) (mark : Int32) (i N : Nat) (head : Int32) : Int32 :=
  if c < (wyT 31 i 0 N).length then 1 else if (wyT 31 i 0 N).length < c then 2 else if fwd m xs (wyT 31 i 0 N).reverse 0 mark = head then 0 else 3
theorem v_whyIn (n : Nat) (σ : ms_T) (c : Nat) (cI : Int32) (hc : cI.toInt = (c : Int)) (mark head : Int32) (i N : Nat) (iI NI : Int32) (hi : iI.toInt = (i : Int)) (hN : NI.toInt = (N : Int)) (hiN : i < N) : pr (f_X12_whyIn n σ cI mark iI NI head) (fun res => res.1 = WIN (ms_E σ 40 1) (ms_E σ 44) c mark i N head ∧ kq σ res.2) := by
  unfold f_X12_whyIn f_X12_whyIn_J36 f_X12_whyIn_J41
  refine pr_b (fun τ hτ => (⟨v_inclusion n σ iI NI (by omega) (by omega) τ hτ, z_X12_inclusion kq_rf τ hτ, v_incl_fr n σ iI NI τ hτ⟩ : WS τ _ ∧ kq σ τ ∧ fr [657] [42, 43] σ τ)) (fun τ hτ => pr_l ?_)
  obtain ⟨hW, hk, hf⟩ := hτ
  have h657 := hW.1
  rw [List.length_reverse, show iI.toInt.toNat = i by omega, show NI.toInt.toNat = N by omega] at h657
  have e40 : ms_E τ 40 1 = ms_E σ 40 1 := hf.2 40 (by decide) 1
  have e44 : ms_E τ 44 = ms_E σ 44 := funext (hf.2 44 (by decide))
  have hwhy : ∀ (τ2 : ms_T) (b : Int32), kq σ τ2 → (c = (wyT 31 i 0 N).length → b = if fwd (ms_E σ 40 1) (ms_E σ 44) (wyT 31 i 0 N).reverse 0 mark = head then 1 else 0) → pr (ms_b (f_X12_why n τ2 cI (ms_I τ 657) b) fun r => some (r, τ2)) (fun res => res.1 = WIN (ms_E σ 40 1) (ms_E σ 44) c mark i N head ∧ kq σ res.2) := fun τ2 b hk2 hb => by
    refine pr_b (T := fun r => r = WIN (ms_E σ 40 1) (ms_E σ 44) c mark i N head) ?_ (fun r hr => pr_s ⟨hr, hk2⟩)
    unfold f_X12_why WIN
    refine pr_le (fun z1 => ?_) (fun z1 => pr_s (by rw [if_pos (by omega)]))
    refine pr_le (fun z2 => ?_) (fun z2 => pr_s (by rw [if_neg (by omega), if_pos (by omega)]))
    have ec : c = (wyT 31 i 0 N).length := by omega
    rw [if_neg (show ¬ c < (wyT 31 i 0 N).length by omega), if_neg (show ¬ (wyT 31 i 0 N).length < c by omega)]
    have hb2 := hb ec
    by_cases hq : fwd (ms_E σ 40 1) (ms_E σ 44) (wyT 31 i 0 N).reverse 0 mark = head
    · rw [if_pos hq] at hb2 ⊢
      rw [hb2]
      exact pr_i (fun q => absurd q (by decide)) (fun _ => pr_s rfl)
    · rw [if_neg hq] at hb2 ⊢
      rw [hb2]
      exact pr_i (fun _ => pr_s rfl) (fun q => absurd rfl q)
  refine pr_e (fun z => ?_) (fun z => hwhy τ 1 hk (fun q => by omega))
  refine pr_c (v_folded n τ mark i N iI NI hi hN hiN) (fun v υ hυ => ?_)
  obtain ⟨h1, h2⟩ := hυ
  replace h1 : v = fwd (ms_E τ 40 1) (ms_E τ 44) (wyT 31 i 0 N).reverse 0 mark := h1
  rw [e40, e44] at h1
  have hkυ : kq σ υ := ⟨fun φ hφ => by rw [h2.1 φ (by rw [beq_iff_eq] at hφ; rw [hφ]; decide)]; exact hk.1 φ hφ, fun κ hκ j => by rw [h2.2 κ List.not_mem_nil j]; exact hk.2 κ hκ j⟩
  refine pr_i (fun q => hwhy υ 1 hkυ (fun _ => ?_)) (fun q => hwhy υ 0 hkυ (fun _ => ?_))
  · rw [if_pos (h1.symm.trans q)]
  · rw [if_neg (fun y => q (h1.trans y))]
/-! of the class -/
theorem k_folded_L (n : Nat) (α : hp_T) (a row : Nat) (W : List (Nat × Nat × Bool)) (hW : WC α a W) (hW64 : W.length ≤ 64) (xl : List Int32) (hR : RWL α row xl) (m : Int32) (hm : 0 < m.toInt) (c : Nat) (cI : Int32) (hc : cI.toInt = (c : Int)) (hcW : c ≤ W.length) (hcx : c ≤ xl.length) : ∀ (d k : Nat) (s kI : Int32), kI.toInt = (k : Int) → k ≤ c → 65 - k ≤ d → ws (f_X8_folded_L6 n α a d m row cI s kI) (fun r => r = fwd m (fun j => xl.getD j 0) ((W.take c).drop k) k s) := by
  intro d
  induction d with
  | zero => intro k s kI _ _ hd; omega
  | succ d ih =>
    intro k s kI hk hkc hd
    have t64 := t_64
    rw [f_X8_folded_L6.eq_2]
    refine ws_le (fun e => ws_s ?_) (fun e => ws_l (ws_le (fun e2 => by have := hW.1; omega) (fun e2 => ?_)))
    · rw [List.drop_eq_nil_of_le (by rw [List.length_take]; omega)]; rfl
    · have hkc2 : k < c := by omega
      have hkt : k < (W.take c).length := by rw [List.length_take]; omega
      have e1 : (kI + 1).toInt = ((k + 1 : Nat) : Int) := by rw [iw_add, lt1]; omega
      refine ws_b (k_rat n hR k (by omega) kI hk) (fun x hx => ws_b (k_joined n hW hW64 k (by omega) kI hk m hm s x) (fun r hr => ws_l ?_))
      rw [List.drop_eq_getElem_cons hkt, fwd, List.getElem_take, ← hx, ← hr]
      exact ih (k + 1) r _ e1 (by omega) (by omega)
theorem k_folded (n : Nat) (hn : 70000 ≤ n) (α : hp_T) (a row : Nat) (W : List (Nat × Nat × Bool)) (hW : WC α a W) (hW64 : W.length ≤ 64) (xl : List Int32) (hR : RWL α row xl) (m : Int32) (hm : 0 < m.toInt) (c : Nat) (cI : Int32) (hc : cI.toInt = (c : Int)) (hcW : c ≤ W.length) (hcx : c ≤ xl.length) (s : Int32) : ws (f_X8_folded n α a m row s cI) (fun r => r = fwd m (fun j => xl.getD j 0) (W.take c) 0 s) := by
  unfold f_X8_folded
  have := k_folded_L n α a row W hW hW64 xl hR m hm c cI hc hcW hcx n 0 s 0 rfl (Nat.zero_le _) (by omega)
  rw [List.drop_zero] at this
  exact this
theorem k_whyIn (n : Nat) (hn : 70000 ≤ n) (α : hp_T) (a row : Nat) (i N : Nat) (hW : WC α a (wyT 31 i 0 N).reverse) (xl : List Int32) (hR : RWL α row xl) (m : Int32) (hm : 0 < m.toInt) (mark head : Int32) : ws (f_X8_whyInclusion n α a m row mark head) (fun r => r = WIN m (fun j => xl.getD j 0) xl.length mark i N head) := by
  have h1 := hR.2.1
  have h2 := hW.1
  rw [List.length_reverse] at h2
  have hl := wyT_len 31 i 0 N
  unfold f_X8_whyInclusion WIN
  refine ws_l (ws_l (ws_e (fun z => ws_l ?_) (fun z => ws_l (ws_l (ws_le (fun z2 => ws_s ?_) (fun z2 => ws_s ?_))))))
  · have ec : xl.length = (wyT 31 i 0 N).length := by rw [z, h2] at h1; omega
    rw [if_neg (by omega), if_neg (by omega)]
    refine ws_b (k_folded n hn α a row _ hW (by rw [List.length_reverse]; omega) xl hR m hm (wyT 31 i 0 N).length _ h2 (by rw [List.length_reverse]; exact Nat.le_refl _) (by omega) mark) (fun r hr => ?_)
    rw [List.take_of_length_le (by rw [List.length_reverse]; exact Nat.le_refl _)] at hr
    refine ws_i (fun q => ws_s ?_) (fun q => ws_s ?_)
    · rw [if_pos (hr.symm.trans q)]
    · rw [if_neg (fun y => q (hr.trans y))]
  · rw [if_neg (by omega), if_pos (by omega)]
  · rw [if_pos (by omega)]
/-! ===== whyIn leaves the letters read last ===== -/
theorem j_waysIn (n : Nat) {j : Int64} : ∀ (d : Nat) (σ : ms_T) (h : ms_J σ = j) (a b c : Int32), pr (f_X12_waysIn n d σ a b c) (fun τ => ms_J τ = j) := by
  intro d
  induction d with
  | zero => intros; exact pr_0
  | succ d ih =>
    intro σ h a b c
    unfold f_X12_waysIn
    repeat' (first
        | exact pr_s (by (first | assumption | (simp only [mJ_sE, mJ_sI]; assumption)))
        | exact pr_0
        | with_reducible refine pr_l ?_
        | with_reducible refine pr_g (fun _ _ => ?_)
        | with_reducible refine pr_n (fun _ => ?_)
        | with_reducible refine pr_i (fun _ => ?_) (fun _ => ?_)
        | with_reducible refine pr_b (T := fun (τ : ms_T) => ms_J τ = j) (j_asks n (by (first | assumption | (simp only [mJ_sE, mJ_sI]; assumption))) _ _) (fun _ _ => ?_)
        | with_reducible refine pr_b (T := fun (τ : ms_T) => ms_J τ = j) (ih _ (by (first | assumption | (simp only [mJ_sE, mJ_sI]; assumption))) _ _ _) (fun _ _ => ?_)
        | with_reducible refine pr_b (T := fun (_ : Int32) => True) pr_t (fun _ _ => ?_))
theorem j_inclusion (n : Nat) {j : Int64} {σ : ms_T} (h : ms_J σ = j) (a b : Int32) : pr (f_X12_inclusion n σ a b) (fun τ => ms_J τ = j) := by
  unfold f_X12_inclusion
  repeat' (first
      | exact pr_s (by (first | assumption | (simp only [mJ_sE, mJ_sI]; assumption)))
      | exact pr_0
      | with_reducible refine pr_l ?_
      | with_reducible refine pr_g (fun _ _ => ?_)
      | with_reducible refine pr_n (fun _ => ?_)
      | with_reducible refine pr_i (fun _ => ?_) (fun _ => ?_)
      | with_reducible refine pr_b (T := fun (τ : ms_T) => ms_J τ = j) (j_waysIn n 40 _ (by (first | assumption | (simp only [mJ_sE, mJ_sI]; assumption))) _ _ _) (fun _ _ => ?_)
      | with_reducible refine pr_b (T := fun (_ : Int32) => True) pr_t (fun _ _ => ?_))
theorem j_foldsIn (n : Nat) {j : Int64} : ∀ (d : Nat) (σ : ms_T) (h : ms_J σ = j) (a b c : Int32), pr (f_X12_foldsIn n d σ a b c) (fun τ => ms_J τ.2 = j) := by
  intro d
  induction d with
  | zero => intros; exact pr_0
  | succ d ih =>
    intro σ h a b c
    unfold f_X12_foldsIn
    repeat' (first
        | exact pr_s (by (first | assumption | (simp only [mJ_sE, mJ_sI]; assumption)))
        | exact pr_0
        | with_reducible refine pr_l ?_
        | with_reducible refine pr_g (fun _ _ => ?_)
        | with_reducible refine pr_n (fun _ => ?_)
        | with_reducible refine pr_i (fun _ => ?_) (fun _ => ?_)
        | with_reducible refine pr_c (T := fun (τ : Int32 × ms_T) => ms_J τ.2 = j) (ih _ (by (first | assumption | (simp only [mJ_sE, mJ_sI]; assumption))) _ _ _) (fun _ _ _ => ?_)
        | with_reducible refine pr_b (T := fun (_ : Int32) => True) pr_t (fun _ _ => ?_))
theorem j_folded (n : Nat) {j : Int64} {σ : ms_T} (h : ms_J σ = j) (a b c : Int32) : pr (f_X12_folded n σ a b c) (fun τ => ms_J τ.2 = j) := by
  unfold f_X12_folded
  repeat' (first
      | exact pr_s (by (first | assumption | (simp only [mJ_sE, mJ_sI]; assumption)))
      | exact pr_0
      | with_reducible refine pr_l ?_
      | with_reducible refine pr_g (fun _ _ => ?_)
      | with_reducible refine pr_n (fun _ => ?_)
      | with_reducible refine pr_i (fun _ => ?_) (fun _ => ?_)
      | with_reducible refine pr_c (T := fun (τ : Int32 × ms_T) => ms_J τ.2 = j) (j_foldsIn n 40 _ (by (first | assumption | (simp only [mJ_sE, mJ_sI]; assumption))) _ _ _) (fun _ _ _ => ?_)
      | with_reducible refine pr_b (T := fun (_ : Int32) => True) pr_t (fun _ _ => ?_))
theorem j_whyIn (n : Nat) {j : Int64} {σ : ms_T} (h : ms_J σ = j) (a b c d e : Int32) : pr (f_X12_whyIn n σ a b c d e) (fun τ => ms_J τ.2 = j) := by
  unfold f_X12_whyIn f_X12_whyIn_J36 f_X12_whyIn_J41
  repeat' (first
      | exact pr_s (by (first | assumption | (simp only [mJ_sE, mJ_sI]; assumption)))
      | exact pr_0
      | with_reducible refine pr_l ?_
      | with_reducible refine pr_g (fun _ _ => ?_)
      | with_reducible refine pr_n (fun _ => ?_)
      | with_reducible refine pr_i (fun _ => ?_) (fun _ => ?_)
      | with_reducible refine pr_b (T := fun (τ : ms_T) => ms_J τ = j) (j_inclusion n (by (first | assumption | (simp only [mJ_sE, mJ_sI]; assumption))) _ _) (fun _ _ => ?_)
      | with_reducible refine pr_c (T := fun (τ : Int32 × ms_T) => ms_J τ.2 = j) (j_folded n (by (first | assumption | (simp only [mJ_sE, mJ_sI]; assumption))) _ _ _) (fun _ _ _ => ?_)
      | with_reducible refine pr_b (T := fun (_ : Int32) => True) pr_t (fun _ _ => ?_))
/-! ===== PROOFS are read, side by side: MARKS, rows of MARKS ===== -/
theorem BBp {σ τ : ms_T} (h : BB σ τ) (g : 0 < (ms_I σ 670).toInt) : 0 < (ms_I τ 670).toInt := by rw [h.1]; exact g
theorem v_takesMark_B (n : Nat) (σ : ms_T) (h : 0 < (ms_I σ 670).toInt) : pr (f_X12_takesMark n σ) (fun res => BB σ res.2) := by
  unfold f_X12_takesMark
  exact pr_g (fun _ _ => pr_c (v_takesNumber_B n σ _ _ h) (fun _ _ hτ => pr_s hτ))
theorem v_marksL_B (n d : Nat) (σ : ms_T) (v : Int32) (h : 0 < (ms_I σ 670).toInt) : pr (f_X12_takesMarks_L8 n d σ v) (fun res => BB σ res.2) := by
  cases d with
  | zero => rw [f_X12_takesMarks_L8.eq_1]; exact pr_0
  | succ d =>
    rw [f_X12_takesMarks_L8.eq_2]
    refine pr_i (fun e => by rw [e, lt0] at h; omega) (fun _ => ?_)
    unfold f_X12_takesMarks_J82
    exact pr_b (v_takesEnd_B n σ h) (fun τ hτ => pr_s hτ)
theorem v_takesMarks_B (n : Nat) (σ : ms_T) (h : 0 < (ms_I σ 670).toInt) : pr (f_X12_takesMarks n σ) (fun res => BB σ res.2) := by
  unfold f_X12_takesMarks
  exact pr_b (v_takes_B n σ 11 h) (fun τ hτ => pr_m (v_marksL_B n n τ 0 (BBp hτ h)) (fun res hr => BB_tr hτ hr))
theorem TOK_e {α β : hp_T} {rd N q : Nat} {σ : ms_T} {t : Nat → Int32} (h : TOK α rd σ t N q) (eR : hp_R β = hp_R α) (eK : hp_K β = hp_K α) (e24 : ∀ b j, hp_E β 24 b j = hp_E α 24 b j) (eI : ∀ φ, 350 ≤ φ → φ ≤ 356 → hp_I β φ (hp_R α 200 rd) = hp_I α φ (hp_R α 200 rd)) : TOK β rd σ t N q := by
  obtain ⟨h1, ⟨b1, b2, b3, b4⟩, ⟨c1, c2, c3, c4, c5⟩, h4, h5, h6⟩ := h
  refine ⟨h1, ⟨b1, ?_, ?_, fun j hj => ?_⟩, ⟨?_, ?_, ?_, ?_, fun hs => ?_⟩, h4, h5, h6⟩
  · rw [eR, eI 351 (by decide) (by decide)]; exact b2
  · rw [eR, eK]; exact b3
  · rw [eR, e24]; exact b4 j hj
  · rw [eR, eI 354 (by decide) (by decide)]; exact c1
  · rw [eR, eI 353 (by decide) (by decide)]; exact c2
  · rw [eR, eI 352 (by decide) (by decide)]; exact c3
  · rw [eR, eI 355 (by decide) (by decide)]; exact c4
  · rw [eR, eI 356 (by decide) (by decide)]; exact c5 hs
theorem PRE_e {α β : hp_T} {rd N p : Nat} {σ : ms_T} {t : Nat → Int32} (h : PRE α rd σ t N p) (eR : hp_R β = hp_R α) (eK : hp_K β = hp_K α) (e24 : ∀ b j, hp_E β 24 b j = hp_E α 24 b j) (eI : ∀ φ, 350 ≤ φ → φ ≤ 356 → hp_I β φ (hp_R α 200 rd) = hp_I α φ (hp_R α 200 rd)) : PRE β rd σ t N p := by
  obtain ⟨h1, ⟨b1, b2, b3, b4⟩, h3, h4, h5, h6⟩ := h
  refine ⟨h1, ⟨b1, ?_, ?_, fun j hj => ?_⟩, ?_, h4, h5, h6⟩
  · rw [eR, eI 351 (by decide) (by decide)]; exact b2
  · rw [eR, eK]; exact b3
  · rw [eR, e24]; exact b4 j hj
  · rw [eR, eI 352 (by decide) (by decide)]; exact h3
/-- a WORD and a MARK behind it -/
theorem r_mark (n : Nat) (hn : 70000 ≤ n) {α : hp_T} {rd : Nat} {σ τ υ : ms_T} {v : Int32} {t : Nat → Int32} {N p : Nat} (h : PRE α rd σ t N p) (hM : hp_I α 203 rd = ms_E σ 40 1) (hC : rC (ms_E σ 40)) (w : Nat) (hw : w < 12) (wI : Int32) (hwI : wI.toInt = (w : Int)) (e1 : f_X12_takes n σ wI = some τ) (e2 : f_X12_takesMark n τ = some (v, υ)) :
    ws (f_X3_readMark n α rd (wtx w)) (fun a => OUT α rd σ t N p a.1 a.2 υ (hp_I a.2 209 rd = v ∧ 0 ≤ v.toInt ∧ v.toInt < (ms_E σ 40 1).toInt ∧ ∀ φ, φ < 350 → φ ≠ 209 → hp_I a.2 φ rd = hp_I α φ rd)) := by
  have hm := hC.2.1
  unfold f_X3_readMark
  refine ws_hc (r_word n hn h w hw wI hwI) (fun a β hab => ?_)
  obtain ⟨hf, hg, hc⟩ := hab τ e1
  have e2B := e2
  unfold f_X12_takesMark at e2
  replace e2 := ms_gE e2
  obtain ⟨-, e2⟩ := e2
  replace e2 := ms_cE e2
  obtain ⟨v', υ', e3, e4⟩ := e2
  cases e4
  rcases hc with ⟨ra, ⟨p2, hlt, hP2⟩, hk⟩ | ⟨ra, hB⟩
  · replace ra : a = 1 := ra
    subst ra
    rw [if_neg (by decide)]
    refine ws_l ?_
    have e203 : hp_I β 203 rd = ms_E σ 40 1 := by rw [hk 203 (by decide)]; exact hM
    have h40 : ms_E τ 40 = ms_E σ 40 := funext (hg.2 40 (by decide))
    have ec : ms_E τ 40 ((1 : Int32)).toNatClampNeg = ms_E σ 40 1 := by rw [h40]; rfl
    rw [ec] at e3
    rw [e203]
    have e200 : hp_R β 200 rd = hp_R α 200 rd := by rw [hf.1]
    have hb : (ms_E σ 40 1 - 1).toInt = (ms_E σ 40 1).toInt - 1 := by rw [iw_sub, lt1]; omega
    refine ws_hc (r_number n hn hP2 0 (ms_E σ 40 1 - 1) 0 (ms_E σ 40 1 - 1) (fun _ _ _ => Iff.rfl)) (fun a2 γ h2 => ?_)
    obtain ⟨hf2, hg2, hc2⟩ := h2 _ e3
    rw [e200] at hf2
    rcases hc2 with ⟨ra2, ⟨p3, hlt3, hP3⟩, ev, v0, v1, v2, v3, hk2⟩ | ⟨ra2, hB⟩
    · replace ra2 : a2 = 1 := ra2
      subst ra2
      rw [if_neg (by decide)]
      refine ws_s ⟨rdf_tr hf hf2, rg_tr hg hg2, Or.inl ⟨rfl, ⟨p3, by omega, hP3⟩, ev, v0, ?_, fun φ h1 h2 => (hk2 φ h1 h2).trans (hk φ h1)⟩⟩
      replace v3 : v.toInt ≤ (ms_E σ 40 1 - 1).toInt := v3
      omega
    · replace ra2 : a2 = 0 := ra2
      subst ra2
      rw [if_pos rfl]
      exact ws_s ⟨rdf_tr hf hf2, rg_tr hg hg2, Or.inr ⟨rfl, hB⟩⟩
  · replace ra : a = 0 := ra
    subst ra
    rw [if_pos rfl]
    have hb := v_takesMark_B n τ hB.1 _ e2B
    exact ws_s ⟨hf, rg_tr hg hb.2.2, Or.inr ⟨rfl, BAD_B hB hb⟩⟩
/-- a WORD, when nothing is compared but where both stand -/
theorem r_end110 (n : Nat) {α : hp_T} {rd : Nat} {σ : ms_T} {t : Nat → Int32} {N q : Nat} (hT : TOK α rd σ t N q) (hR : hp_R α 200 rd = rd + 1) : ws (f_X3_readRow_J110 n rd α) (fun a => pr (f_X12_takesEnd n σ) (fun τ => rdf rd (rd + 1) α a.2 ∧ rg σ τ ∧ ((a.1 = 1 ∧ (∃ p', q < p' ∧ PRE a.2 rd τ t N p') ∧ a.2 = α) ∨ (a.1 = 0 ∧ BAD a.2 rd τ)))) := by
  unfold f_X3_readRow_J110 f_X3_readRow_J128
  obtain ⟨q1, q2, q3, q4, q5, q6⟩ := id hT
  unfold f_X12_takesEnd f_X12_takesEnd_J14
  refine ws_l (ws_l (ws_i (fun e => ?_) (fun e => ?_)))
  · have hs := q3.2.1.symm.trans e
    rw [if_pos (q5.2.1.trans hs)]
    exact ws_s (r_must n hT 1 (Or.inr rfl) (fun _ => q_lt hs (by decide)) (R := ms_T) _ (fun _ τ t1 t2 => ⟨rdf_rf, t2, Or.inl ⟨rfl, ⟨_, by have := (tkN_le t (q_lt hs (by decide))).1; omega, t1⟩, rfl⟩⟩) (fun h => absurd h (by decide)))
  · rw [if_neg (fun h => e (q3.2.1.trans (q5.2.1.symm.trans h)))]
    refine ws_hc (k_stray n q3) (fun r γ hr => ws_i (fun _ => ws_s ?_) (fun e => absurd hr.1 e))
    obtain ⟨g1, g2, g3, g4⟩ := hr
    refine r_must n hT 0 (Or.inl rfl) (fun h => absurd h (by decide)) (R := ms_T) _ (fun h => absurd h (by decide)) (fun _ τ t1 t2 t3 t4 => ⟨by rw [hR] at g4; exact g4, t4, Or.inr ⟨rfl, t1, by rw [g2, t2], ?_⟩⟩)
    exact Int32.toInt_inj.mp (by rw [g3, t3])
/-- the reader's rows -/
def RSH (α : hp_T) (rd : Nat) : Prop := RS α rd ∧ hp_R α 201 rd = rd + 3 ∧ hp_R α 300 (rd + 3) = rd + 4 ∧ hp_R α 202 rd = rd + 5 ∧ hp_R α 450 (rd + 5) = rd + 6 ∧ hp_R α 451 (rd + 5) = rd + 7 ∧ hp_R α 452 (rd + 5) = rd + 8
theorem RSH_R {rd : Nat} {α β : hp_T} (h : RSH α rd) (e : hp_R β = hp_R α) : RSH β rd := by unfold RSH RS; rw [e]; exact h
theorem rfr_ef {rd : Nat} {α β : hp_T} (hS : RSH α rd) (h : ef (rd + 3) α β) : rfr rd α β := by
  obtain ⟨h1, h2, h3, h4, h5, h6⟩ := h
  refine ⟨h1, h2, h3, h4, fun φ b hb => h5 φ b (fun z => by omega), fun κ b j hb => h6 κ b j (fun z => ?_)⟩
  have := z.2
  rw [hS.2.2.1] at this
  omega
theorem rfr_wf {rd : Nat} {α β : hp_T} (hS : RSH α rd) (h : wf (rd + 5) α β) : rfr rd α β := by
  obtain ⟨h1, h2, h3, h4, h5, h6⟩ := h
  refine ⟨h1, h2, h3, h4, fun φ b hb => h5 φ b (fun z => by omega), fun κ b j hb => h6 κ b j (fun z => ?_)⟩
  rw [hS.2.2.2.2.1, hS.2.2.2.2.2.1, hS.2.2.2.2.2.2] at z
  omega
def rgm (σ τ : ms_T) : Prop := fr [670, 671, 672, 673, 674, 675] [44] σ τ
theorem rgm_rg {σ τ : ms_T} (h : rg σ τ) : rgm σ τ := fr_sb h (by decide) (by decide)
/-- the MARKS that both have read -/
def MKR (α : hp_T) (rd : Nat) (σ : ms_T) (c : Int32) (yl : List Int32) : Prop := RWL α (rd + 3) yl ∧ c.toInt = (yl.length : Int) ∧ ∀ j, j < yl.length → some (ms_E σ 44 j) = yl[j]?
def ROUT (α : hp_T) (rd : Nat) (σ : ms_T) (t : Nat → Int32) (N q : Nat) (a : Int32 × hp_T) (res : Int32 × ms_T) : Prop := rfr rd α a.2 ∧ rgm σ res.2 ∧ ((a.1 = 1 ∧ (∃ p, q < p ∧ PRE a.2 rd res.2 t N p) ∧ (∃ yl, MKR a.2 rd res.2 res.1 yl) ∧ ∀ φ, φ < 350 → hp_I a.2 φ rd = hp_I α φ rd) ∨ (a.1 = 0 ∧ BAD a.2 rd res.2))
theorem r_row_L (n : Nat) (hn : 70000 ≤ n) (rd : Nat) (t : Nat → Int32) (N : Nat) (res : Int32 × ms_T) : ∀ (d : Nat) (α : hp_T) (σ : ms_T) (xl : List Int32) (q : Nat) (kI vI : Int32) (d2 : Nat), RSH α rd → TOK α rd σ t N q → MKR α rd σ vI xl → hp_I α 203 rd = ms_E σ 40 1 → rC (ms_E σ 40) → kI = vI → 66 - xl.length ≤ d → f_X12_takesMarks_L8 n d2 σ vI = some res → ws (f_X3_readRow_L28 n rd d α kI) (fun a => ROUT α rd σ t N q a res) := by
  intro d
  induction d with
  | zero => intro α σ xl q kI vI d2 _ _ hK _ _ _ hd; have := hK.1.1; omega
  | succ d ih =>
    intro α σ xl q kI vI d2 hS hT hK hM hC hkv hd e
    subst hkv
    obtain ⟨hRW, hv, h44⟩ := id hK
    have t64 := t_64
    have hx := hRW.1
    have hm := hC.2.1
    obtain ⟨q1, q2, q3, q4, q5, q6⟩ := id hT
    have eR : hp_R α 200 rd = rd + 1 := hS.1.1
    cases d2 with
    | zero => rw [f_X12_takesMarks_L8.eq_1] at e; cases e
    | succ d2 =>
    rw [f_X12_takesMarks_L8.eq_2] at e
    rw [if_pos q6] at e
    rw [f_X3_readRow_L28.eq_2]
    refine ws_lt (fun c => by rw [t64] at c; omega) (fun _ => ws_l (ws_l ?_))
    have h353 : hp_I α 353 (hp_R α 200 rd) = tkS t N q := q3.2.1
    by_cases hs : tkS t N q = 2
    · refine ws_i (fun _ => ws_l (ws_l (ws_l ?_))) (fun z => absurd (h353.trans hs) z)
      rw [if_pos (q5.2.1.trans hs)] at e
      obtain ⟨hqN, h5, hv0, hv1⟩ := tk_num hs
      have hval := q3.2.2.2.2 hs
      have hval2 := q5.2.2.2.1 hs
      rw [hval2] at e
      rw [hval, hM]
      obtain ⟨V, hV⟩ : ∃ V, V = vl t q (tkN t N q - q) := ⟨_, rfl⟩
      rw [← hV] at e hval hval2 hv0 hv1 ⊢
      replace e := ms_bE e
      obtain ⟨b, eb, e⟩ := e
      obtain ⟨b', eb', hbo⟩ := s_isMark (n := n) hC V
      have hbb : b' = b := by rw [eb'] at eb; exact Option.some.inj eb
      subst hbb
      replace e := ms_bE e
      obtain ⟨σ8, e8, e⟩ := e
      -- the end where a fault stands
      have hend : ∀ (w : Int32) (σ9 : ms_T), 0 < (ms_I σ9 670).toInt → f_X12_takesMarks_J48 n (f_X12_takesMarks_L8 n d2) σ9 kI w = some res → res.2 = σ9 := by
        intro w σ9 h9 e9
        unfold f_X12_takesMarks_J48 at e9
        replace e9 := ms_bE e9
        obtain ⟨σ0, e0, e9⟩ := e9
        have := v_must2 n σ9 w 6 h9 σ0 e0
        subst this
        rw [if_neg (fun z => by have := il_le z; rw [lt0] at this; omega)] at e9
        cases e9
        rfl
      refine ws_lt (fun hlt => ?_) (fun hge => ?_)
      · have hb1 : b' = 1 := by
          rcases hbo with ⟨g, -⟩ | ⟨-, g⟩
          · exact g
          · exact absurd ⟨hv0, hlt⟩ g
        subst hb1
        have h8 := v_must1 n σ 1 3 (by decide) σ8 e8
        subst h8
        refine ws_l (ws_l ?_)
        have e201 : hp_R α 201 rd = rd + 3 := hS.2.1
        rw [e201]
        refine ws_hc (r_room n hT eR (hp_I α 301 (rd + 3)) 64) (fun a β hab => ?_)
        obtain ⟨hab1, hab2⟩ := hab
        by_cases h64 : xl.length < 64
        · obtain ⟨ra, rb⟩ := hab1 (by rw [hRW.2.1, t64]; omega)
          replace ra : a = 1 := ra
          replace rb : β = α := rb
          subst ra
          subst rb
          refine ws_i (fun z => absurd z (by decide)) (fun _ => ws_l (ws_l (ws_l ?_)))
          rw [e201, hval]
          rw [if_neg (fun z => by have := il_le z; rw [t64] at this; omega)] at e
          unfold f_X12_takesMarks_J48 at e
          replace e := ms_bE e
          obtain ⟨σ9, e9, e⟩ := e
          have h9 := v_must1 n σ8 1 6 (by decide) σ9 e9
          subst h9
          rw [if_pos (by rw [q6]; decide)] at e
          replace e := ms_gE e
          obtain ⟨-, e⟩ := e
          rw [cl_n hv, hval2] at e
          replace e := ms_lE rfl (ms_lE rfl e)
          replace e := ms_bE e
          obtain ⟨σ15, e15, e⟩ := e
          refine ws_b (k_rput n hRW h64 V) (fun γ hγ => ws_l ?_)
          obtain ⟨hRγ, hef⟩ := hγ
          have hSγ := RSH_R hS hef.1
          have eI : ∀ φ, 350 ≤ φ → φ ≤ 356 → hp_I γ φ (hp_R β 200 rd) = hp_I β φ (hp_R β 200 rd) := fun φ h1 h2 => hef.2.2.2.2.1 φ _ (fun z => by omega)
          have e24 : ∀ b j, hp_E γ 24 b j = hp_E β 24 b j := fun b j => hef.2.2.2.2.2 24 b j (fun z => absurd z.1 (by decide))
          have hTγ : TOK γ rd (ms_sE σ9 44 xl.length V) t N q := TOK_m (wI := []) (wE := [44]) (TOK_e hT hef.1 hef.2.1 e24 eI) (fr_sE (by decide)) (by decide) (by decide) rfl
          obtain ⟨hP, hg⟩ := r_reads n hTγ hqN σ15 e15
          have e200 : hp_R γ 200 rd = rd + 1 := hSγ.1.1
          refine ws_b (r_adv n hn hP) (fun δ hδ => ws_l ?_)
          obtain ⟨hTδ, hfδ, hkδ⟩ := hδ
          rw [e200] at hfδ
          have hfr : rfr rd β δ := rfr_tr (rfr_ef hS hef) (rfr_rdf hfδ)
          have hRδ : RWL δ (rd + 3) (xl ++ [V]) := ⟨hRγ.1, by rw [hkδ 301 (by decide)]; exact hRγ.2.1, fun k hk => by rw [hfδ.1, hfδ.2.2.2.2.1]; exact hRγ.2.2 k hk⟩
          have h40 : ms_E σ15 40 = ms_E σ9 40 := by
            funext j
            rw [hg.2 40 (by decide) j, mE_sE, if_neg (fun z => absurd z.1 (by decide))]
          have hk1 : (kI + 1).toInt = (xl.length : Int) + 1 := by rw [iw_add, lt1]; omega
          have hlen : (xl ++ [V]).length = xl.length + 1 := by rw [List.length_append, List.length_singleton]
          have hK2 : MKR δ rd σ15 (kI + 1) (xl ++ [V]) := by
            refine ⟨hRδ, by rw [hk1, hlen]; omega, fun j hj => ?_⟩
            rw [hlen] at hj
            rw [hg.2 44 (by decide) j, mE_sE]
            by_cases ej : j = xl.length
            · rw [if_pos ⟨rfl, ej⟩, ej, List.getElem?_append_right (Nat.le_refl _), Nat.sub_self]; rfl
            · rw [if_neg (fun z => ej z.2), List.getElem?_append_left (by omega)]
              exact h44 j (by omega)
          have e203 : hp_I δ 203 rd = ms_E σ15 40 1 := by
            rw [hkδ 203 (by decide), h40, hef.2.2.2.2.1 203 rd (fun z => absurd z.2 (by decide))]; exact hM
          have hq2 : q < tkP t N (tkN t N q) := by
            have h1 := (tkN_le t hqN).1
            have h2 : tkN t N q ≤ tkP t N (tkN t N q) := (ru_le isB t _ _).1
            omega
          refine ws_m (ih δ σ15 (xl ++ [V]) _ (kI + 1) (kI + 1) d2 (RSH_R hSγ hfδ.1) hTδ hK2 e203 (by rw [h40]; exact hC) rfl (by rw [hlen]; omega) e) (fun a ha => ?_)
          obtain ⟨g1, g2, g3⟩ := ha
          refine ⟨rfr_tr hfr g1, fr_tr (fr_sE (by decide)) (fr_tr (rgm_rg hg) g2), ?_⟩
          rcases g3 with ⟨r1, ⟨p, hp, hP2⟩, r3, r4⟩ | r
          · refine Or.inl ⟨r1, ⟨p, by omega, hP2⟩, r3, fun φ hφ => ?_⟩
            rw [r4 φ hφ, hkδ φ hφ, hef.2.2.2.2.1 φ rd (fun z => by omega)]
          · exact Or.inr r
        · obtain ⟨ra, rb, rc⟩ := hab2 (by rw [hRW.2.1, t64]; omega)
          replace ra : a = 0 := ra
          subst ra
          refine ws_i (fun _ => ws_s ?_) (fun z => absurd rfl z)
          rw [if_pos (by rw [Int32.le_iff_toInt_le, t64]; omega)] at e
          unfold f_X12_takesMarks_J48 at e
          replace e := ms_bE e
          obtain ⟨σ9, e9, e⟩ := e
          obtain ⟨u1, u2, u3⟩ := v_mustk n q6 6 (by decide) σ9 e9
          rw [if_neg (fun z => by rw [u1] at z; exact absurd z (by decide))] at e
          cases e
          exact ⟨rfr_rdf rb, rgm_rg u3, Or.inr ⟨rfl, rc σ9 u1 u2⟩⟩
      · have hb0 : b' = 0 := by
          rcases hbo with ⟨-, g⟩ | ⟨g, -⟩
          · exact absurd g.2 (by omega)
          · exact g
        subst hb0
        obtain ⟨u1, u2, u3⟩ := v_mustk n q6 3 (by decide) σ8 e8
        have hpos : 0 < (ms_I σ8 670).toInt := by rw [u1]; decide
        have hr2 : res.2 = σ8 := by
          by_cases h64 : (64 : Int32) ≤ kI
          · rw [if_pos h64] at e; exact hend 0 σ8 hpos e
          · rw [if_neg h64] at e; exact hend 1 σ8 hpos e
        refine ws_hc (k_fail n α rd 3) (fun r γ hr => ?_)
        obtain ⟨g1, g2, g3, g4⟩ := hr
        rw [eR] at g4
        refine ws_z (Or.inl g1) (ws_s ⟨rfr_rdf g4, by rw [hr2]; exact rgm_rg u3, Or.inr ⟨g1, ?_⟩⟩)
        rw [hr2]
        refine ⟨hpos, by rw [u1]; exact g2, ?_⟩
        show hp_I γ 205 rd = _
        rw [g3, u2]
        exact Int32.toInt_inj.mp (by rw [q3.1, q5.1])
    · refine ws_i (fun z => absurd (h353.symm.trans z) hs) (fun _ => ?_)
      rw [if_neg (fun z => hs (q5.2.1.symm.trans z))] at e
      unfold f_X12_takesMarks_J82 at e
      replace e := ms_bE e
      obtain ⟨σ4, e4, e⟩ := e
      cases e
      refine ws_m (r_end110 n hT eR) (fun a ha => ?_)
      obtain ⟨g1, g2, g3⟩ := ha σ4 e4
      refine ⟨rfr_rdf g1, rgm_rg g2, ?_⟩
      rcases g3 with ⟨r1, r2, r3⟩ | r
      · refine Or.inl ⟨r1, r2, ⟨xl, ?_⟩, fun φ _ => by rw [r3]⟩
        rw [r3]
        exact ⟨hRW, hv, fun j hj => by rw [g2.2 44 (by decide) j]; exact h44 j hj⟩
      · exact Or.inr r
theorem r_row (n : Nat) (hn : 70000 ≤ n) {α : hp_T} {rd : Nat} {σ : ms_T} {t : Nat → Int32} {N p : Nat} (hS : RSH α rd) (h : PRE α rd σ t N p) (hM : hp_I α 203 rd = ms_E σ 40 1) (hC : rC (ms_E σ 40)) (hr : 0 ≤ (hp_I α 301 (rd + 3)).toInt ∧ (hp_I α 301 (rd + 3)).toInt ≤ 64) (res : Int32 × ms_T) (e : f_X12_takesMarks n σ = some res) :
    ws (f_X3_readRow n α rd) (fun a => ROUT α rd σ t N p a res) := by
  unfold f_X12_takesMarks at e
  replace e := ms_bE e
  obtain ⟨τ, e1, e⟩ := e
  have eR : hp_R α 200 rd = rd + 1 := hS.1.1
  unfold f_X3_readRow
  refine ws_hc (r_word n hn h 11 (by decide) 11 (by decide)) (fun a β hab => ?_)
  obtain ⟨hf, hg, hc⟩ := hab τ e1
  rw [eR] at hf
  rcases hc with ⟨ra, ⟨p2, hlt, hP2⟩, hk⟩ | ⟨ra, hB⟩
  · replace ra : a = 1 := ra
    subst ra
    rw [if_neg (by decide)]
    have hSβ := RSH_R hS hf.1
    refine ws_l ?_
    rw [hSβ.2.1]
    obtain ⟨l, hl⟩ := RWL_any (α := β) (a := rd + 3) (by rw [hf.2.2.2.2.2 301 (rd + 3) (fun z => by omega) (fun z => by omega)]; exact hr.1) (by rw [hf.2.2.2.2.2 301 (rd + 3) (fun z => by omega) (fun z => by omega)]; exact hr.2)
    refine ws_b (k_rshort n hl 0 (Nat.zero_le _) 0 (by decide)) (fun γ hγ => ws_l ?_)
    obtain ⟨hRγ, hef⟩ := hγ
    rw [List.take_zero] at hRγ
    have hSγ := RSH_R hSβ hef.1
    have e200β : hp_R β 200 rd = rd + 1 := hSβ.1.1
    have e200 : hp_R γ 200 rd = rd + 1 := hSγ.1.1
    have hPγ : PRE γ rd τ t N p2 := PRE_e hP2 hef.1 hef.2.1 (fun b j => hef.2.2.2.2.2 24 b j (fun z => absurd z.1 (by decide))) (fun φ h1 h2 => hef.2.2.2.2.1 φ _ (fun z => by omega))
    refine ws_b (r_adv n hn hPγ) (fun δ hδ => ?_)
    obtain ⟨hTδ, hfδ, hkδ⟩ := hδ
    rw [e200] at hfδ
    have h40 : ms_E τ 40 = ms_E σ 40 := funext (hg.2 40 (by decide))
    have hfr : rfr rd α δ := rfr_tr (rfr_rdf hf) (rfr_tr (rfr_ef hSβ hef) (rfr_rdf hfδ))
    have hRδ : RWL δ (rd + 3) [] := ⟨by decide, by rw [hkδ 301 (by decide)]; exact hRγ.2.1, fun k hk => absurd hk (by simp)⟩
    have hkk : ∀ φ, φ < 350 → hp_I δ φ rd = hp_I α φ rd := fun φ hφ => by
      rw [hkδ φ hφ, hef.2.2.2.2.1 φ rd (fun z => by omega), hk φ hφ]
    have hq2 : p2 ≤ tkP t N p2 := (ru_le isB t _ _).1
    refine ws_m (r_row_L n hn rd t N res n δ τ [] _ 0 0 n (RSH_R hSγ hfδ.1) hTδ ⟨hRδ, rfl, fun j hj => absurd hj (by simp)⟩ (by rw [hkk 203 (by decide), h40]; exact hM) (by rw [h40]; exact hC) rfl (by simp; omega) e) (fun b hb => ?_)
    obtain ⟨g1, g2, g3⟩ := hb
    refine ⟨rfr_tr hfr g1, fr_tr (rgm_rg hg) g2, ?_⟩
    rcases g3 with ⟨r1, ⟨p3, hp3, hP3⟩, r3, r4⟩ | r
    · exact Or.inl ⟨r1, ⟨p3, by omega, hP3⟩, r3, fun φ hφ => (r4 φ hφ).trans (hkk φ hφ)⟩
    · exact Or.inr r
  · replace ra : a = 0 := ra
    subst ra
    rw [if_pos rfl]
    have hb := v_marksL_B n n τ 0 hB.1 res e
    exact ws_s ⟨rfr_rdf hf, rgm_rg (rg_tr hg hb.2.2), Or.inr ⟨rfl, BAD_B hB hb⟩⟩
/-! ===== STATEMENTS, side by side: behind a fault nothing is read ===== -/
theorem bI_8 (n : Nat) (σh8 : ms_T) (rh2 rh4 rh6 rh8 : Int32) (h : 0 < (ms_I σh8 670).toInt) : pr (ms_c (f_X12_takesMarks n σh8) fun rh9 σh9 => if (ms_I σh9 670) ≤ 0 then ms_c (f_X12_whyIn n σh9 rh9 rh6 rh2 rh4 rh8) fun rh11 σh11 => some (rh11, σh11) else some ((0 : Int32), σh9)) (fun z => z.1 = 0 ∧ BB σh8 z.2) :=
  pr_c (v_takesMarks_B n σh8 h) (fun a τ hτ => pr_le (fun z => by have := BBp (τ := τ) hτ h; rw [lt0] at z; omega) (fun _ => pr_s ⟨rfl, hτ⟩))
theorem bI_7 (n : Nat) (σh7 : ms_T) (rh2 rh4 rh6 : Int32) (h : 0 < (ms_I σh7 670).toInt) : pr (ms_c (f_X12_takesMark n σh7) fun rh8 σh8 => ms_c (f_X12_takesMarks n σh8) fun rh9 σh9 => if (ms_I σh9 670) ≤ 0 then ms_c (f_X12_whyIn n σh9 rh9 rh6 rh2 rh4 rh8) fun rh11 σh11 => some (rh11, σh11) else some ((0 : Int32), σh9)) (fun z => z.1 = 0 ∧ BB σh7 z.2) :=
  pr_c (v_takesMark_B n σh7 h) (fun a τ hτ => pr_m (bI_8 n τ rh2 rh4 rh6 a (BBp hτ h)) (fun z hz => ⟨hz.1, BB_tr hτ hz.2⟩))
theorem bI_6 (n : Nat) (σh6 : ms_T) (rh2 rh4 rh6 : Int32) (h : 0 < (ms_I σh6 670).toInt) : pr (ms_b (f_X12_takes n σh6 (10 : Int32)) fun σh7 => ms_c (f_X12_takesMark n σh7) fun rh8 σh8 => ms_c (f_X12_takesMarks n σh8) fun rh9 σh9 => if (ms_I σh9 670) ≤ 0 then ms_c (f_X12_whyIn n σh9 rh9 rh6 rh2 rh4 rh8) fun rh11 σh11 => some (rh11, σh11) else some ((0 : Int32), σh9)) (fun z => z.1 = 0 ∧ BB σh6 z.2) :=
  pr_b (v_takes_B n σh6 _ h) (fun τ hτ => pr_m (bI_7 n τ rh2 rh4 rh6 (BBp hτ h)) (fun z hz => ⟨hz.1, BB_tr hτ hz.2⟩))
theorem bI_5 (n : Nat) (σh5 : ms_T) (rh2 rh4 : Int32) (h : 0 < (ms_I σh5 670).toInt) : pr (ms_c (f_X12_takesMark n σh5) fun rh6 σh6 => ms_b (f_X12_takes n σh6 (10 : Int32)) fun σh7 => ms_c (f_X12_takesMark n σh7) fun rh8 σh8 => ms_c (f_X12_takesMarks n σh8) fun rh9 σh9 => if (ms_I σh9 670) ≤ 0 then ms_c (f_X12_whyIn n σh9 rh9 rh6 rh2 rh4 rh8) fun rh11 σh11 => some (rh11, σh11) else some ((0 : Int32), σh9)) (fun z => z.1 = 0 ∧ BB σh5 z.2) :=
  pr_c (v_takesMark_B n σh5 h) (fun a τ hτ => pr_m (bI_6 n τ rh2 rh4 a (BBp hτ h)) (fun z hz => ⟨hz.1, BB_tr hτ hz.2⟩))
theorem bI_4 (n : Nat) (σh4 : ms_T) (rh2 rh4 : Int32) (h : 0 < (ms_I σh4 670).toInt) : pr (ms_b (f_X12_takes n σh4 (9 : Int32)) fun σh5 => ms_c (f_X12_takesMark n σh5) fun rh6 σh6 => ms_b (f_X12_takes n σh6 (10 : Int32)) fun σh7 => ms_c (f_X12_takesMark n σh7) fun rh8 σh8 => ms_c (f_X12_takesMarks n σh8) fun rh9 σh9 => if (ms_I σh9 670) ≤ 0 then ms_c (f_X12_whyIn n σh9 rh9 rh6 rh2 rh4 rh8) fun rh11 σh11 => some (rh11, σh11) else some ((0 : Int32), σh9)) (fun z => z.1 = 0 ∧ BB σh4 z.2) :=
  pr_b (v_takes_B n σh4 _ h) (fun τ hτ => pr_m (bI_5 n τ rh2 rh4 (BBp hτ h)) (fun z hz => ⟨hz.1, BB_tr hτ hz.2⟩))
theorem bI_3 (n : Nat) (σh3 : ms_T) (rh2 : Int32) (h : 0 < (ms_I σh3 670).toInt) : pr (ms_c (f_X12_takesNumber n σh3 (rh2 + (1 : Int32)) (99999 : Int32)) fun rh4 σh4 => ms_b (f_X12_takes n σh4 (9 : Int32)) fun σh5 => ms_c (f_X12_takesMark n σh5) fun rh6 σh6 => ms_b (f_X12_takes n σh6 (10 : Int32)) fun σh7 => ms_c (f_X12_takesMark n σh7) fun rh8 σh8 => ms_c (f_X12_takesMarks n σh8) fun rh9 σh9 => if (ms_I σh9 670) ≤ 0 then ms_c (f_X12_whyIn n σh9 rh9 rh6 rh2 rh4 rh8) fun rh11 σh11 => some (rh11, σh11) else some ((0 : Int32), σh9)) (fun z => z.1 = 0 ∧ BB σh3 z.2) :=
  pr_c (v_takesNumber_B n σh3 _ _ h) (fun a τ hτ => pr_m (bI_4 n τ rh2 a (BBp hτ h)) (fun z hz => ⟨hz.1, BB_tr hτ hz.2⟩))
theorem bI_2 (n : Nat) (σh2 : ms_T) (rh2 : Int32) (h : 0 < (ms_I σh2 670).toInt) : pr (ms_b (f_X12_takes n σh2 (8 : Int32)) fun σh3 => ms_c (f_X12_takesNumber n σh3 (rh2 + (1 : Int32)) (99999 : Int32)) fun rh4 σh4 => ms_b (f_X12_takes n σh4 (9 : Int32)) fun σh5 => ms_c (f_X12_takesMark n σh5) fun rh6 σh6 => ms_b (f_X12_takes n σh6 (10 : Int32)) fun σh7 => ms_c (f_X12_takesMark n σh7) fun rh8 σh8 => ms_c (f_X12_takesMarks n σh8) fun rh9 σh9 => if (ms_I σh9 670) ≤ 0 then ms_c (f_X12_whyIn n σh9 rh9 rh6 rh2 rh4 rh8) fun rh11 σh11 => some (rh11, σh11) else some ((0 : Int32), σh9)) (fun z => z.1 = 0 ∧ BB σh2 z.2) :=
  pr_b (v_takes_B n σh2 _ h) (fun τ hτ => pr_m (bI_3 n τ rh2 (BBp hτ h)) (fun z hz => ⟨hz.1, BB_tr hτ hz.2⟩))
theorem bG_8 (n : Nat) (σh8 : ms_T) (rh2 rh4 rh6 rh8 : Int32) (h : 0 < (ms_I σh8 670).toInt) : pr (ms_c (f_X12_takesMarks n σh8) fun rh9 σh9 => if (ms_I σh9 670) ≤ 0 then ms_c (f_X12_whyGrown n σh9 rh9 rh2 rh4 rh6 rh8) fun rh11 σh11 => some (rh11, σh11) else some ((0 : Int32), σh9)) (fun z => z.1 = 0 ∧ BB σh8 z.2) :=
  pr_c (v_takesMarks_B n σh8 h) (fun a τ hτ => pr_le (fun z => by have := BBp (τ := τ) hτ h; rw [lt0] at z; omega) (fun _ => pr_s ⟨rfl, hτ⟩))
theorem bG_7 (n : Nat) (σh7 : ms_T) (rh2 rh4 rh6 : Int32) (h : 0 < (ms_I σh7 670).toInt) : pr (ms_c (f_X12_takesMark n σh7) fun rh8 σh8 => ms_c (f_X12_takesMarks n σh8) fun rh9 σh9 => if (ms_I σh9 670) ≤ 0 then ms_c (f_X12_whyGrown n σh9 rh9 rh2 rh4 rh6 rh8) fun rh11 σh11 => some (rh11, σh11) else some ((0 : Int32), σh9)) (fun z => z.1 = 0 ∧ BB σh7 z.2) :=
  pr_c (v_takesMark_B n σh7 h) (fun a τ hτ => pr_m (bG_8 n τ rh2 rh4 rh6 a (BBp hτ h)) (fun z hz => ⟨hz.1, BB_tr hτ hz.2⟩))
theorem bG_6 (n : Nat) (σh6 : ms_T) (rh2 rh4 rh6 : Int32) (h : 0 < (ms_I σh6 670).toInt) : pr (ms_b (f_X12_takes n σh6 (10 : Int32)) fun σh7 => ms_c (f_X12_takesMark n σh7) fun rh8 σh8 => ms_c (f_X12_takesMarks n σh8) fun rh9 σh9 => if (ms_I σh9 670) ≤ 0 then ms_c (f_X12_whyGrown n σh9 rh9 rh2 rh4 rh6 rh8) fun rh11 σh11 => some (rh11, σh11) else some ((0 : Int32), σh9)) (fun z => z.1 = 0 ∧ BB σh6 z.2) :=
  pr_b (v_takes_B n σh6 _ h) (fun τ hτ => pr_m (bG_7 n τ rh2 rh4 rh6 (BBp hτ h)) (fun z hz => ⟨hz.1, BB_tr hτ hz.2⟩))
theorem bG_5 (n : Nat) (σh5 : ms_T) (rh2 rh4 : Int32) (h : 0 < (ms_I σh5 670).toInt) : pr (ms_c (f_X12_takesNumber n σh5 rh2 (99999 : Int32)) fun rh6 σh6 => ms_b (f_X12_takes n σh6 (10 : Int32)) fun σh7 => ms_c (f_X12_takesMark n σh7) fun rh8 σh8 => ms_c (f_X12_takesMarks n σh8) fun rh9 σh9 => if (ms_I σh9 670) ≤ 0 then ms_c (f_X12_whyGrown n σh9 rh9 rh2 rh4 rh6 rh8) fun rh11 σh11 => some (rh11, σh11) else some ((0 : Int32), σh9)) (fun z => z.1 = 0 ∧ BB σh5 z.2) :=
  pr_c (v_takesNumber_B n σh5 _ _ h) (fun a τ hτ => pr_m (bG_6 n τ rh2 rh4 a (BBp hτ h)) (fun z hz => ⟨hz.1, BB_tr hτ hz.2⟩))
theorem bG_4 (n : Nat) (σh4 : ms_T) (rh2 rh4 : Int32) (h : 0 < (ms_I σh4 670).toInt) : pr (ms_b (f_X12_takes n σh4 (2 : Int32)) fun σh5 => ms_c (f_X12_takesNumber n σh5 rh2 (99999 : Int32)) fun rh6 σh6 => ms_b (f_X12_takes n σh6 (10 : Int32)) fun σh7 => ms_c (f_X12_takesMark n σh7) fun rh8 σh8 => ms_c (f_X12_takesMarks n σh8) fun rh9 σh9 => if (ms_I σh9 670) ≤ 0 then ms_c (f_X12_whyGrown n σh9 rh9 rh2 rh4 rh6 rh8) fun rh11 σh11 => some (rh11, σh11) else some ((0 : Int32), σh9)) (fun z => z.1 = 0 ∧ BB σh4 z.2) :=
  pr_b (v_takes_B n σh4 _ h) (fun τ hτ => pr_m (bG_5 n τ rh2 rh4 (BBp hτ h)) (fun z hz => ⟨hz.1, BB_tr hτ hz.2⟩))
theorem bG_3 (n : Nat) (σh3 : ms_T) (rh2 : Int32) (h : 0 < (ms_I σh3 670).toInt) : pr (ms_c (f_X12_takesMark n σh3) fun rh4 σh4 => ms_b (f_X12_takes n σh4 (2 : Int32)) fun σh5 => ms_c (f_X12_takesNumber n σh5 rh2 (99999 : Int32)) fun rh6 σh6 => ms_b (f_X12_takes n σh6 (10 : Int32)) fun σh7 => ms_c (f_X12_takesMark n σh7) fun rh8 σh8 => ms_c (f_X12_takesMarks n σh8) fun rh9 σh9 => if (ms_I σh9 670) ≤ 0 then ms_c (f_X12_whyGrown n σh9 rh9 rh2 rh4 rh6 rh8) fun rh11 σh11 => some (rh11, σh11) else some ((0 : Int32), σh9)) (fun z => z.1 = 0 ∧ BB σh3 z.2) :=
  pr_c (v_takesMark_B n σh3 h) (fun a τ hτ => pr_m (bG_4 n τ rh2 a (BBp hτ h)) (fun z hz => ⟨hz.1, BB_tr hτ hz.2⟩))
theorem bG_2 (n : Nat) (σh2 : ms_T) (rh2 : Int32) (h : 0 < (ms_I σh2 670).toInt) : pr (ms_b (f_X12_takes n σh2 (9 : Int32)) fun σh3 => ms_c (f_X12_takesMark n σh3) fun rh4 σh4 => ms_b (f_X12_takes n σh4 (2 : Int32)) fun σh5 => ms_c (f_X12_takesNumber n σh5 rh2 (99999 : Int32)) fun rh6 σh6 => ms_b (f_X12_takes n σh6 (10 : Int32)) fun σh7 => ms_c (f_X12_takesMark n σh7) fun rh8 σh8 => ms_c (f_X12_takesMarks n σh8) fun rh9 σh9 => if (ms_I σh9 670) ≤ 0 then ms_c (f_X12_whyGrown n σh9 rh9 rh2 rh4 rh6 rh8) fun rh11 σh11 => some (rh11, σh11) else some ((0 : Int32), σh9)) (fun z => z.1 = 0 ∧ BB σh2 z.2) :=
  pr_b (v_takes_B n σh2 _ h) (fun τ hτ => pr_m (bG_3 n τ rh2 (BBp hτ h)) (fun z hz => ⟨hz.1, BB_tr hτ hz.2⟩))
def FWH : List Nat := [657, 658, 659, 660, 670, 671, 672, 673, 674, 675]
def FEH : List Nat := [42, 43, 44]
theorem frg {σ τ : ms_T} (h : rg σ τ) : fr FWH FEH σ τ := fr_sb h (by decide) (by decide)
theorem frgm {σ τ : ms_T} (h : rgm σ τ) : fr FWH FEH σ τ := fr_sb h (by decide) (by decide)
/-- what a STATEMENT leaves: all but the reader and a row of WHYs -/
def hfr (rd w : Nat) (α β : hp_T) : Prop := hp_R β = hp_R α ∧ hp_K β = hp_K α ∧ hp_Q β = hp_Q α ∧ hp_N β = hp_N α ∧ (∀ φ b, ¬ (φ = 301 ∧ b = w) → (b < rd ∨ rd + 11 ≤ b) → hp_I β φ b = hp_I α φ b) ∧ ∀ κ b j, ¬ (κ = 20 ∧ b = w + 1) → (b < rd ∨ rd + 11 ≤ b) → hp_E β κ b j = hp_E α κ b j
theorem hfr_rf {rd w : Nat} {α : hp_T} : hfr rd w α α := ⟨rfl, rfl, rfl, rfl, fun _ _ _ _ => rfl, fun _ _ _ _ _ => rfl⟩
theorem hfr_tr {rd w : Nat} {α β γ : hp_T} (h : hfr rd w α β) (g : hfr rd w β γ) : hfr rd w α γ := by
  obtain ⟨h1, h2, h3, h4, h5, h6⟩ := h
  obtain ⟨g1, g2, g3, g4, g5, g6⟩ := g
  exact ⟨g1.trans h1, g2.trans h2, g3.trans h3, g4.trans h4, fun φ b q r => (g5 φ b q r).trans (h5 φ b q r), fun κ b j q r => (g6 κ b j q r).trans (h6 κ b j q r)⟩
theorem hfr_r {rd w : Nat} {α β : hp_T} (h : rfr rd α β) : hfr rd w α β := ⟨h.1, h.2.1, h.2.2.1, h.2.2.2.1, fun φ b _ r => h.2.2.2.2.1 φ b r, fun κ b j _ r => h.2.2.2.2.2 κ b j r⟩
theorem hfr_ef {rd w : Nat} {α β : hp_T} (h : ef w α β) (h3 : hp_R α 300 w = w + 1) : hfr rd w α β := by
  obtain ⟨h1, h2, h3', h4, h5, h6⟩ := h
  exact ⟨h1, h2, h3', h4, fun φ b q _ => h5 φ b (fun z => q ⟨z.2, z.1⟩), fun κ b j q _ => h6 κ b j (fun z => q ⟨z.1, by rw [z.2, h3]⟩)⟩
theorem RWL_rfr {α β : hp_T} {rd w : Nat} {l : List Int32} (h : RWL α w l) (f : rfr rd α β) (h3 : hp_R α 300 w = w + 1) (hw : w + 2 ≤ rd) : RWL β w l :=
  ⟨h.1, by rw [f.2.2.2.2.1 301 w (by omega)]; exact h.2.1, fun k hk => by rw [f.1, f.2.2.2.2.2 20 _ k (by omega)]; exact h.2.2 k hk⟩
theorem WIN_h (m : Int32) {xs ys : Nat → Int32} (c : Nat) (mark : Int32) (i N : Nat) (head : Int32) (h : ∀ j, j < c → xs j = ys j) : WIN m xs c mark i N head = WIN m ys c mark i N head := by
  unfold WIN
  by_cases h1 : c < (wyT 31 i 0 N).length
  · rw [if_pos h1, if_pos h1]
  · rw [if_neg h1, if_neg h1]
    by_cases h2 : (wyT 31 i 0 N).length < c
    · rw [if_pos h2, if_pos h2]
    · rw [if_neg h2, if_neg h2, fwd_c m _ _ _ (fun j _ hj => h j (by rw [List.length_reverse] at hj; omega))]
theorem v_whyIn_fr (n : Nat) (σ : ms_T) (cI mark head : Int32) (i N : Nat) (iI NI : Int32) (hi : iI.toInt = (i : Int)) (hN : NI.toInt = (N : Int)) (hiN : i < N) : pr (f_X12_whyIn n σ cI mark iI NI head) (fun res => fr [657, 658] [42, 43] σ res.2) := by
  unfold f_X12_whyIn f_X12_whyIn_J36 f_X12_whyIn_J41
  have hy : ∀ (τ : ms_T) (a b c : Int32), fr [657, 658] [42, 43] σ τ → pr (ms_b (f_X12_why n τ a b c) fun r => some (r, τ)) (fun res => fr [657, 658] [42, 43] σ res.2) := fun τ a b c h => pr_b pr_any (fun _ _ => pr_s h)
  refine pr_b (v_incl_fr n σ iI NI) (fun τ hτ => pr_l ?_)
  have h1 : fr [657, 658] [42, 43] σ τ := fr_sb hτ (by decide) (by decide)
  refine pr_i (fun _ => pr_c (v_folded n τ mark i N iI NI hi hN hiN) (fun v υ hυ => ?_)) (fun _ => hy τ _ _ _ h1)
  have h2 : fr [657, 658] [42, 43] σ υ := fr_tr h1 (fr_sb hυ.2 (by decide) (by decide))
  exact pr_i (fun _ => hy υ _ _ _ h2) (fun _ => hy υ _ _ _ h2)
def STO (rd w : Nat) (wl : List Int32) (α : hp_T) (σ : ms_T) (t : Nat → Int32) (N q : Nat) (a : Int32 × hp_T) (res : Int32 × ms_T) : Prop := hfr rd w α a.2 ∧ fr FWH FEH σ res.2 ∧ ((a.1 = 1 ∧ (∃ p, q < p ∧ PRE a.2 rd res.2 t N p) ∧ RWL a.2 w (wl ++ [res.1]) ∧ (∀ φ, φ < 350 → φ ≠ 209 → hp_I a.2 φ rd = hp_I α φ rd) ∧ 0 ≤ (hp_I a.2 301 (rd + 3)).toInt ∧ (hp_I a.2 301 (rd + 3)).toInt ≤ 64) ∨ (a.1 = 0 ∧ res.1 = 0 ∧ BAD a.2 rd res.2))
theorem tMx : (2147483647 : Int32).toInt = 2147483647 := by decide
theorem t99k : (99999 : Int32).toInt = 99999 := by decide
theorem mkD {σ : ms_T} {yl : List Int32} (h : ∀ j, j < yl.length → some (ms_E σ 44 j) = yl[j]?) : ∀ j, j < yl.length → ms_E σ 44 j = yl.getD j 0 := fun j hj => by
  rw [List.getD_eq_getElem?_getD, ← h j hj]; rfl
theorem r_statIn (n : Nat) (hn : 70000 ≤ n) {α : hp_T} {rd w : Nat} {wl : List Int32} {σ : ms_T} {t : Nat → Int32} {N q : Nat} (hS : RSH α rd) (hT : TOK α rd σ t N q) (hqN : q < N) (hM : hp_I α 203 rd = ms_E σ 40 1) (hC : rC (ms_E σ 40)) (hr : 0 ≤ (hp_I α 301 (rd + 3)).toInt ∧ (hp_I α 301 (rd + 3)).toInt ≤ 64) (hw : w + 2 ≤ rd) (hw3 : hp_R α 300 w = w + 1) (hW : RWL α w wl) (hwl : wl.length < 64) (res : Int32 × ms_T) (e : f_X12_statementIn n σ = some res) :
    ws (f_X3_readInclusion n α rd w) (fun a => STO rd w wl α σ t N q a res) := by
  have hm := hC.2.1
  have eR : hp_R α 200 rd = rd + 1 := hS.1.1
  unfold f_X12_statementIn at e
  replace e := ms_bE e
  obtain ⟨σ1, e1, e⟩ := e
  obtain ⟨hP1, hg1⟩ := r_reads n hT hqN σ1 e1
  have c1 : ms_E σ1 40 = ms_E σ 40 := funext (hg1.2 40 (by decide))
  replace e := ms_cE e
  obtain ⟨i, σ2, e2, e⟩ := e
  have hq1 := (tkN_le t hqN).1
  unfold f_X3_readInclusion
  have hbad : ∀ (β : hp_T) (τ : ms_T), rfr rd α β → fr FWH FEH σ τ → BAD β rd τ → (res.1 = 0 ∧ BB τ res.2) → ws (some ((0 : Int32), β)) (fun a => STO rd w wl α σ t N q a res) := fun β τ hf hg hB hb => ws_s ⟨hfr_r hf, fr_tr hg (frg hb.2.2.2), Or.inr ⟨rfl, hb.1, BAD_B hB hb.2⟩⟩
  refine ws_hc (r_number n hn hP1 0 2147483647 0 99999 (fun v h0 h1 => by rw [lt0, tMx, t99k]; omega)) (fun a β hab => ?_)
  obtain ⟨hf2, hg2, hc2⟩ := hab _ e2
  rw [eR] at hf2
  have F2 : rfr rd α β := rfr_rdf hf2
  have g2 : rg σ σ2 := rg_tr hg1 hg2
  have c2 : ms_E σ2 40 = ms_E σ 40 := funext (g2.2 40 (by decide))
  rcases hc2 with ⟨ra, ⟨p2, hl2, hP2⟩, ev2, a0, a1, -, -, hk2⟩ | ⟨ra, hB⟩
  rotate_left
  · replace ra : a = 0 := ra
    subst ra
    rw [if_pos rfl]
    exact hbad β σ2 F2 (frg g2) hB (bI_2 n σ2 i hB.1 res e)
  replace ra : a = 1 := ra
  subst ra
  rw [if_neg (by decide)]
  refine ws_l ?_
  replace ev2 : hp_I β 209 rd = i := ev2
  replace a0 : 0 ≤ i.toInt := a0
  replace a1 : i.toInt ≤ 99999 := a1
  rw [ev2]
  replace e := ms_bE e
  obtain ⟨σ3, e3, e⟩ := e
  have eR2 : hp_R β 200 rd = rd + 1 := by rw [F2.1]; exact eR
  refine ws_hc (r_word n hn hP2 8 (by decide) 8 (by decide)) (fun a γ h3 => ?_)
  obtain ⟨hf3, hg3, hc3⟩ := h3 _ e3
  rw [eR2] at hf3
  have F3 : rfr rd α γ := rfr_tr F2 (rfr_rdf hf3)
  have g3 : rg σ σ3 := rg_tr g2 hg3
  rcases hc3 with ⟨ra, ⟨p3, hl3, hP3⟩, hk3⟩ | ⟨ra, hB⟩
  rotate_left
  · replace ra : a = 0 := ra
    subst ra
    rw [if_pos rfl]
    exact hbad γ σ3 F3 (frg g3) hB (bI_3 n σ3 i hB.1 res e)
  replace ra : a = 1 := ra
  subst ra
  rw [if_neg (by decide)]
  replace e := ms_cE e
  obtain ⟨NI, σ4, e4, e⟩ := e
  have eR3 : hp_R γ 200 rd = rd + 1 := by rw [F3.1]; exact eR
  refine ws_hc (r_number n hn hP3 (i + 1) 2147483647 (i + 1) 99999 (fun v h0 h1 => by rw [tMx, t99k]; omega)) (fun a δ h4 => ?_)
  obtain ⟨hf4, hg4, hc4⟩ := h4 _ e4
  rw [eR3] at hf4
  have F4 : rfr rd α δ := rfr_tr F3 (rfr_rdf hf4)
  have g4 : rg σ σ4 := rg_tr g3 hg4
  have c4 : ms_E σ4 40 = ms_E σ 40 := funext (g4.2 40 (by decide))
  rcases hc4 with ⟨ra, ⟨p4, hl4, hP4⟩, ev4, b0, b1, b2, -, hk4⟩ | ⟨ra, hB⟩
  rotate_left
  · replace ra : a = 0 := ra
    subst ra
    rw [if_pos rfl]
    exact hbad δ σ4 F4 (frg g4) hB (bI_4 n σ4 i NI hB.1 res e)
  replace ra : a = 1 := ra
  subst ra
  rw [if_neg (by decide)]
  refine ws_l ?_
  replace ev4 : hp_I δ 209 rd = NI := ev4
  replace b0 : 0 ≤ NI.toInt := b0
  replace b1 : NI.toInt ≤ 99999 := b1
  replace b2 : (i + 1).toInt ≤ NI.toInt := b2
  have hi1 : (i + 1).toInt = i.toInt + 1 := by rw [iw_add, lt1]; omega
  rw [ev4]
  replace e := ms_bE e
  obtain ⟨σ5, e5, e⟩ := e
  replace e := ms_cE e
  obtain ⟨mk, σ6, e6, e⟩ := e
  have k203 : hp_I δ 203 rd = ms_E σ4 40 1 := by
    rw [hk4 203 (by decide) (by decide), hk3 203 (by decide), hk2 203 (by decide) (by decide), c4]; exact hM
  refine ws_hc (r_mark n hn hP4 k203 (by rw [c4]; exact hC) 9 (by decide) 9 (by decide) e5 e6) (fun a ε h6 => ?_)
  obtain ⟨hf6, hg6, hc6⟩ := h6
  have eR4 : hp_R δ 200 rd = rd + 1 := by rw [F4.1]; exact eR
  rw [eR4] at hf6
  have F6 : rfr rd α ε := rfr_tr F4 (rfr_rdf hf6)
  have g6 : rg σ σ6 := rg_tr g4 hg6
  have c6 : ms_E σ6 40 = ms_E σ 40 := funext (g6.2 40 (by decide))
  rcases hc6 with ⟨ra, ⟨p6, hl6, hP6⟩, ev6, d0, d1, hk6⟩ | ⟨ra, hB⟩
  rotate_left
  · replace ra : a = 0 := ra
    subst ra
    rw [if_pos rfl]
    exact hbad ε σ6 F6 (frg g6) hB (bI_6 n σ6 i NI mk hB.1 res e)
  replace ra : a = 1 := ra
  subst ra
  rw [if_neg (by decide)]
  refine ws_l ?_
  replace ev6 : hp_I ε 209 rd = mk := ev6
  rw [ev6]
  replace e := ms_bE e
  obtain ⟨σ7, e7, e⟩ := e
  replace e := ms_cE e
  obtain ⟨hd, σ8, e8, e⟩ := e
  have k203b : hp_I ε 203 rd = ms_E σ6 40 1 := by
    rw [hk6 203 (by decide) (by decide), k203, c4, c6]
  refine ws_hc (r_mark n hn hP6 k203b (by rw [c6]; exact hC) 10 (by decide) 10 (by decide) e7 e8) (fun a ζ h8 => ?_)
  obtain ⟨hf8, hg8, hc8⟩ := h8
  have eR6 : hp_R ε 200 rd = rd + 1 := by rw [F6.1]; exact eR
  rw [eR6] at hf8
  have F8 : rfr rd α ζ := rfr_tr F6 (rfr_rdf hf8)
  have g8 : rg σ σ8 := rg_tr g6 hg8
  have c8 : ms_E σ8 40 = ms_E σ 40 := funext (g8.2 40 (by decide))
  rcases hc8 with ⟨ra, ⟨p8, hl8, hP8⟩, ev8, f0, f1, hk8⟩ | ⟨ra, hB⟩
  rotate_left
  · replace ra : a = 0 := ra
    subst ra
    rw [if_pos rfl]
    exact hbad ζ σ8 F8 (frg g8) hB (bI_8 n σ8 i NI mk hd hB.1 res e)
  replace ra : a = 1 := ra
  subst ra
  rw [if_neg (by decide)]
  replace ev8 : hp_I ζ 209 rd = hd := ev8
  replace e := ms_cE e
  obtain ⟨cI, σ9, e9, e⟩ := e
  have k203c : hp_I ζ 203 rd = ms_E σ8 40 1 := by
    rw [hk8 203 (by decide) (by decide), k203b, c6, c8]
  have k301 : hp_I ζ 301 (rd + 3) = hp_I α 301 (rd + 3) := by
    rw [hf8.2.2.2.2.2 301 (rd + 3) (fun z => by omega) (fun z => by omega), hf6.2.2.2.2.2 301 (rd + 3) (fun z => by omega) (fun z => by omega), hf4.2.2.2.2.2 301 (rd + 3) (fun z => by omega) (fun z => by omega), hf3.2.2.2.2.2 301 (rd + 3) (fun z => by omega) (fun z => by omega), hf2.2.2.2.2.2 301 (rd + 3) (fun z => by omega) (fun z => by omega)]
  have hSζ := RSH_R hS F8.1
  refine ws_hc (r_row n hn hSζ hP8 k203c (by rw [c8]; exact hC) (by rw [k301]; exact hr) (cI, σ9) e9) (fun a η h9 => ?_)
  obtain ⟨hf9, hg9, hc9⟩ := h9
  replace hf9 : rfr rd ζ η := hf9
  replace hg9 : rgm σ8 σ9 := hg9
  have F9 : rfr rd α η := rfr_tr F8 hf9
  have g9 : fr FWH FEH σ σ9 := fr_tr (frg g8) (frgm hg9)
  have c9 : ms_E σ9 40 = ms_E σ 40 := funext (g9.2 40 (by decide))
  rcases hc9 with ⟨ra, ⟨p9, hl9, hP9⟩, ⟨yl, hRy, hcy, h44⟩, hk9⟩ | ⟨ra, hB⟩
  rotate_left
  · replace ra : a = 0 := ra
    subst ra
    rw [if_pos rfl]
    replace hB : BAD η rd σ9 := hB
    have hp := hB.1
    rw [if_neg (fun z => by have := il_le z; rw [lt0] at this; omega)] at e
    cases e
    exact ws_s ⟨hfr_r F9, g9, Or.inr ⟨rfl, rfl, hB⟩⟩
  replace ra : a = 1 := ra
  subst ra
  rw [if_neg (by decide)]
  replace hP9 : PRE η rd σ9 t N p9 := hP9
  replace hcy : cI.toInt = (yl.length : Int) := hcy
  replace hRy : RWL η (rd + 3) yl := hRy
  replace hk9 : ∀ φ, φ < 350 → hp_I η φ rd = hp_I ζ φ rd := hk9
  rw [if_pos (by rw [hP9.2.2.2.2.2]; decide)] at e
  replace e := ms_cE e
  obtain ⟨rv, σx, ew, e⟩ := e
  cases e
  have hSη := RSH_R hSζ hf9.1
  refine ws_l ?_
  rw [hSη.2.2.2.1]
  refine ws_b (k_toThing n hn η (rd + 5) i NI a0 (by omega)) (fun θ hθ => ws_l (ws_l (ws_l (ws_l ?_))))
  obtain ⟨hWC, hwf⟩ := hθ
  have hSθ := RSH_R hSη hwf.1
  have i203 : hp_I θ 203 rd = ms_E σ 40 1 := by
    rw [hwf.2.2.2.2.1 203 rd (fun z => by omega), hk9 203 (by decide), k203c, c8]
  have i209 : hp_I θ 209 rd = hd := by
    rw [hwf.2.2.2.2.1 209 rd (fun z => by omega), hk9 209 (by decide)]; exact ev8
  rw [hSθ.2.2.2.1, hSθ.2.1, i203, i209]
  obtain ⟨hv, -⟩ := v_whyIn n σ9 yl.length cI hcy mk hd i.toInt.toNat NI.toInt.toNat i NI (by omega) (by omega) (by omega) _ ew
  have hvf := v_whyIn_fr n σ9 cI mk hd i.toInt.toNat NI.toInt.toNat i NI (by omega) (by omega) (by omega) _ ew
  have hvj := j_whyIn n (j := ms_J σ9) rfl cI mk i NI hd _ ew
  replace hv : rv = WIN (ms_E σ9 40 1) (ms_E σ9 44) yl.length mk i.toInt.toNat NI.toInt.toNat hd := hv
  replace hvf : fr [657, 658] [42, 43] σ9 σx := hvf
  replace hvj : ms_J σx = ms_J σ9 := hvj
  refine ws_b (k_whyIn n hn θ (rd + 5) (rd + 3) i.toInt.toNat NI.toInt.toNat hWC yl (RWL_wf hRy hwf) (ms_E σ 40 1) (by omega) mk hd) (fun r hr2 => ?_)
  have F10 : rfr rd α θ := rfr_tr F9 (rfr_wf hSη hwf)
  have hWθ : RWL θ w wl := RWL_rfr hW F10 hw3 hw
  refine ws_b (k_rput n hWθ hwl r) (fun κ hκ => ws_s ?_)
  obtain ⟨hRκ, hef⟩ := hκ
  have hrv : r = rv := by
    rw [hr2, hv, c9]
    exact WIN_h _ _ _ _ _ _ (fun j hj => (mkD h44 j hj).symm)
  have e300 : hp_R θ 300 w = w + 1 := by rw [F10.1]; exact hw3
  have hPx : PRE η rd σx t N p9 := PRE_fr hP9 hvf (by decide) (by decide) hvj
  have eRη : hp_R η 200 rd = rd + 1 := hSη.1.1
  have eRθ : hp_R θ 200 rd = rd + 1 := hSθ.1.1
  have hPθ : PRE θ rd σx t N p9 := PRE_e hPx hwf.1 hwf.2.1 (fun b j => hwf.2.2.2.2.2 24 b j (fun z => by omega)) (fun φ h1 h2 => by rw [eRη]; exact hwf.2.2.2.2.1 φ _ (fun z => by omega))
  have hPκ : PRE κ rd σx t N p9 := PRE_e hPθ hef.1 hef.2.1 (fun b j => hef.2.2.2.2.2 24 b j (fun z => absurd z.1 (by decide))) (fun φ h1 h2 => by rw [eRθ]; exact hef.2.2.2.2.1 φ _ (fun z => by omega))
  refine ⟨hfr_tr (hfr_r F10) (hfr_ef hef e300), fr_tr g9 (fr_sb hvf (by decide) (by decide)), Or.inl ⟨rfl, ⟨p9, by omega, hPκ⟩, by rw [← hrv]; exact hRκ, fun φ h1 h2 => ?_, ?_⟩⟩
  rotate_left
  · have := RWL_m hRy
    show 0 ≤ (hp_I κ 301 (rd + 3)).toInt ∧ (hp_I κ 301 (rd + 3)).toInt ≤ 64
    rw [hef.2.2.2.2.1 301 (rd + 3) (fun z => by omega), hwf.2.2.2.2.1 301 (rd + 3) (fun z => by omega)]; exact this
  show hp_I κ φ rd = _
  rw [hef.2.2.2.2.1 φ rd (fun z => by omega), hwf.2.2.2.2.1 φ rd (fun z => by omega), hk9 φ h1, hk8 φ h1 h2, hk6 φ h1 h2, hk4 φ h1 h2, hk3 φ h1, hk2 φ h1 h2]
theorem r_takesW (n : Nat) {α : hp_T} {rd : Nat} {σ : ms_T} {t : Nat → Int32} {N q : Nat} (hT : TOK α rd σ t N q) (w : Nat) (hw : w < 12) (wI : Int32) (hwI : wI.toInt = (w : Int)) (hs : spl t N q (wtx w)) : pr (f_X12_takes n σ wI) (fun τ => PRE α rd τ t N (tkN t N q) ∧ rg σ τ) := by
  obtain ⟨q1, q2, q3, q4, q5, q6⟩ := id hT
  have hN := q2.1
  unfold f_X12_takes
  refine pr_b (v_isWord n q5 (by omega) hN w hw wI hwI) (fun r2 hr2 => ?_)
  rcases hr2 with ⟨rfl, -⟩ | ⟨-, hno⟩
  · exact r_must n hT 1 (Or.inr rfl) (fun _ => q_lt hs.1 (by decide)) (R := ms_T) _ (fun _ τ t1 t2 => ⟨t1, t2⟩) (fun h => absurd h (by decide))
  · exact absurd ⟨q6, hs⟩ hno
theorem r_statGrow (n : Nat) (hn : 70000 ≤ n) {α : hp_T} {rd w : Nat} {wl : List Int32} {σ : ms_T} {t : Nat → Int32} {N q : Nat} (hS : RSH α rd) (hT : TOK α rd σ t N q) (hqN : q < N) (hsp : spl t N q (wtx 7)) (hM : hp_I α 203 rd = ms_E σ 40 1) (hC : rC (ms_E σ 40)) (hr : 0 ≤ (hp_I α 301 (rd + 3)).toInt ∧ (hp_I α 301 (rd + 3)).toInt ≤ 64) (hw : w + 2 ≤ rd) (hw3 : hp_R α 300 w = w + 1) (hW : RWL α w wl) (hwl : wl.length < 64) (res : Int32 × ms_T) (e : f_X12_statementGrow n σ = some res) :
    ws (f_X3_readGrowth n α rd w) (fun a => STO rd w wl α σ t N q a res) := by
  have hm := hC.2.1
  have eR : hp_R α 200 rd = rd + 1 := hS.1.1
  unfold f_X12_statementGrow at e
  replace e := ms_bE e
  obtain ⟨σ1, e1, e⟩ := e
  obtain ⟨hP1, hg1⟩ := r_takesW n hT 7 (by decide) 7 (by decide) hsp σ1 e1
  have c1 : ms_E σ1 40 = ms_E σ 40 := funext (hg1.2 40 (by decide))
  replace e := ms_cE e
  obtain ⟨i, σ2, e2, e⟩ := e
  have hq1 := (tkN_le t hqN).1
  unfold f_X3_readGrowth
  have hbad : ∀ (β : hp_T) (τ : ms_T), rfr rd α β → fr FWH FEH σ τ → BAD β rd τ → (res.1 = 0 ∧ BB τ res.2) → ws (some ((0 : Int32), β)) (fun a => STO rd w wl α σ t N q a res) := fun β τ hf hg hB hb => ws_s ⟨hfr_r hf, fr_tr hg (frg hb.2.2.2), Or.inr ⟨rfl, hb.1, BAD_B hB hb.2⟩⟩
  refine ws_hc (r_number n hn hP1 0 2147483647 0 99999 (fun v h0 h1 => by rw [lt0, tMx, t99k]; omega)) (fun a β hab => ?_)
  obtain ⟨hf2, hg2, hc2⟩ := hab _ e2
  rw [eR] at hf2
  have F2 : rfr rd α β := rfr_rdf hf2
  have g2 : rg σ σ2 := rg_tr hg1 hg2
  have c2 : ms_E σ2 40 = ms_E σ 40 := funext (g2.2 40 (by decide))
  rcases hc2 with ⟨ra, ⟨p2, hl2, hP2⟩, ev2, a0, a1, -, -, hk2⟩ | ⟨ra, hB⟩
  rotate_left
  · replace ra : a = 0 := ra
    subst ra
    rw [if_pos rfl]
    exact hbad β σ2 F2 (frg g2) hB (bG_2 n σ2 i hB.1 res e)
  replace ra : a = 1 := ra
  subst ra
  rw [if_neg (by decide)]
  refine ws_l ?_
  replace ev2 : hp_I β 209 rd = i := ev2
  replace a0 : 0 ≤ i.toInt := a0
  replace a1 : i.toInt ≤ 99999 := a1
  rw [ev2]
  replace e := ms_bE e
  obtain ⟨σ3, e3, e⟩ := e
  replace e := ms_cE e
  obtain ⟨od, σ4, e4, e⟩ := e
  have eR2 : hp_R β 200 rd = rd + 1 := by rw [F2.1]; exact eR
  have k203 : hp_I β 203 rd = ms_E σ2 40 1 := by rw [hk2 203 (by decide) (by decide), c2]; exact hM
  refine ws_hc (r_mark n hn hP2 k203 (by rw [c2]; exact hC) 9 (by decide) 9 (by decide) e3 e4) (fun a γ h4 => ?_)
  obtain ⟨hf4, hg4, hc4⟩ := h4
  rw [eR2] at hf4
  have F4 : rfr rd α γ := rfr_tr F2 (rfr_rdf hf4)
  have g4 : rg σ σ4 := rg_tr g2 hg4
  have c4 : ms_E σ4 40 = ms_E σ 40 := funext (g4.2 40 (by decide))
  rcases hc4 with ⟨ra, ⟨p4, hl4, hP4⟩, ev4, b0, b1, hk4⟩ | ⟨ra, hB⟩
  rotate_left
  · replace ra : a = 0 := ra
    subst ra
    rw [if_pos rfl]
    exact hbad γ σ4 F4 (frg g4) hB (bG_4 n σ4 i od hB.1 res e)
  replace ra : a = 1 := ra
  subst ra
  rw [if_neg (by decide)]
  refine ws_l ?_
  replace ev4 : hp_I γ 209 rd = od := ev4
  rw [ev4]
  replace e := ms_bE e
  obtain ⟨σ5, e5, e⟩ := e
  have eR4 : hp_R γ 200 rd = rd + 1 := by rw [F4.1]; exact eR
  refine ws_hc (r_word n hn hP4 2 (by decide) 2 (by decide)) (fun a δ h5 => ?_)
  obtain ⟨hf5, hg5, hc5⟩ := h5 _ e5
  rw [eR4] at hf5
  have F5 : rfr rd α δ := rfr_tr F4 (rfr_rdf hf5)
  have g5 : rg σ σ5 := rg_tr g4 hg5
  rcases hc5 with ⟨ra, ⟨p5, hl5, hP5⟩, hk5⟩ | ⟨ra, hB⟩
  rotate_left
  · replace ra : a = 0 := ra
    subst ra
    rw [if_pos rfl]
    exact hbad δ σ5 F5 (frg g5) hB (bG_5 n σ5 i od hB.1 res e)
  replace ra : a = 1 := ra
  subst ra
  rw [if_neg (by decide)]
  replace e := ms_cE e
  obtain ⟨NI, σ6, e6, e⟩ := e
  have eR5 : hp_R δ 200 rd = rd + 1 := by rw [F5.1]; exact eR
  refine ws_hc (r_number n hn hP5 i 2147483647 i 99999 (fun v h0 h1 => by rw [tMx, t99k]; omega)) (fun a ε h6 => ?_)
  obtain ⟨hf6, hg6, hc6⟩ := h6 _ e6
  rw [eR5] at hf6
  have F6 : rfr rd α ε := rfr_tr F5 (rfr_rdf hf6)
  have g6 : rg σ σ6 := rg_tr g5 hg6
  have c6 : ms_E σ6 40 = ms_E σ 40 := funext (g6.2 40 (by decide))
  rcases hc6 with ⟨ra, ⟨p6, hl6, hP6⟩, ev6, d0, d1, d2, -, hk6⟩ | ⟨ra, hB⟩
  rotate_left
  · replace ra : a = 0 := ra
    subst ra
    rw [if_pos rfl]
    exact hbad ε σ6 F6 (frg g6) hB (bG_6 n σ6 i od NI hB.1 res e)
  replace ra : a = 1 := ra
  subst ra
  rw [if_neg (by decide)]
  refine ws_l ?_
  replace ev6 : hp_I ε 209 rd = NI := ev6
  replace d0 : 0 ≤ NI.toInt := d0
  replace d1 : NI.toInt ≤ 99999 := d1
  replace d2 : i.toInt ≤ NI.toInt := d2
  rw [ev6]
  replace e := ms_bE e
  obtain ⟨σ7, e7, e⟩ := e
  replace e := ms_cE e
  obtain ⟨nw, σ8, e8, e⟩ := e
  have k203b : hp_I ε 203 rd = ms_E σ6 40 1 := by
    rw [hk6 203 (by decide) (by decide), hk5 203 (by decide), hk4 203 (by decide) (by decide), k203, c2, c6]
  refine ws_hc (r_mark n hn hP6 k203b (by rw [c6]; exact hC) 10 (by decide) 10 (by decide) e7 e8) (fun a ζ h8 => ?_)
  obtain ⟨hf8, hg8, hc8⟩ := h8
  have eR6 : hp_R ε 200 rd = rd + 1 := by rw [F6.1]; exact eR
  rw [eR6] at hf8
  have F8 : rfr rd α ζ := rfr_tr F6 (rfr_rdf hf8)
  have g8 : rg σ σ8 := rg_tr g6 hg8
  have c8 : ms_E σ8 40 = ms_E σ 40 := funext (g8.2 40 (by decide))
  rcases hc8 with ⟨ra, ⟨p8, hl8, hP8⟩, ev8, f0, f1, hk8⟩ | ⟨ra, hB⟩
  rotate_left
  · replace ra : a = 0 := ra
    subst ra
    rw [if_pos rfl]
    exact hbad ζ σ8 F8 (frg g8) hB (bG_8 n σ8 i od NI nw hB.1 res e)
  replace ra : a = 1 := ra
  subst ra
  rw [if_neg (by decide)]
  replace ev8 : hp_I ζ 209 rd = nw := ev8
  replace e := ms_cE e
  obtain ⟨cI, σ9, e9, e⟩ := e
  have k203c : hp_I ζ 203 rd = ms_E σ8 40 1 := by
    rw [hk8 203 (by decide) (by decide), k203b, c6, c8]
  have k301 : hp_I ζ 301 (rd + 3) = hp_I α 301 (rd + 3) := by
    rw [hf8.2.2.2.2.2 301 (rd + 3) (fun z => by omega) (fun z => by omega), hf6.2.2.2.2.2 301 (rd + 3) (fun z => by omega) (fun z => by omega), hf5.2.2.2.2.2 301 (rd + 3) (fun z => by omega) (fun z => by omega), hf4.2.2.2.2.2 301 (rd + 3) (fun z => by omega) (fun z => by omega), hf2.2.2.2.2.2 301 (rd + 3) (fun z => by omega) (fun z => by omega)]
  have hSζ := RSH_R hS F8.1
  refine ws_hc (r_row n hn hSζ hP8 k203c (by rw [c8]; exact hC) (by rw [k301]; exact hr) (cI, σ9) e9) (fun a η h9 => ?_)
  obtain ⟨hf9, hg9, hc9⟩ := h9
  replace hf9 : rfr rd ζ η := hf9
  replace hg9 : rgm σ8 σ9 := hg9
  have F9 : rfr rd α η := rfr_tr F8 hf9
  have g9 : fr FWH FEH σ σ9 := fr_tr (frg g8) (frgm hg9)
  have c9 : ms_E σ9 40 = ms_E σ 40 := funext (g9.2 40 (by decide))
  rcases hc9 with ⟨ra, ⟨p9, hl9, hP9⟩, ⟨yl, hRy, hcy, h44⟩, hk9⟩ | ⟨ra, hB⟩
  rotate_left
  · replace ra : a = 0 := ra
    subst ra
    rw [if_pos rfl]
    replace hB : BAD η rd σ9 := hB
    have hp := hB.1
    rw [if_neg (fun z => by have := il_le z; rw [lt0] at this; omega)] at e
    cases e
    exact ws_s ⟨hfr_r F9, g9, Or.inr ⟨rfl, rfl, hB⟩⟩
  replace ra : a = 1 := ra
  subst ra
  rw [if_neg (by decide)]
  replace hP9 : PRE η rd σ9 t N p9 := hP9
  replace hcy : cI.toInt = (yl.length : Int) := hcy
  replace hRy : RWL η (rd + 3) yl := hRy
  replace hk9 : ∀ φ, φ < 350 → hp_I η φ rd = hp_I ζ φ rd := hk9
  rw [if_pos (by rw [hP9.2.2.2.2.2]; decide)] at e
  replace e := ms_cE e
  obtain ⟨rv, σx, ew, e⟩ := e
  cases e
  have hSη := RSH_R hSζ hf9.1
  have i203 : hp_I η 203 rd = ms_E σ 40 1 := by
    rw [hk9 203 (by decide), k203c, c8]
  have i209 : hp_I η 209 rd = nw := by
    rw [hk9 209 (by decide)]; exact ev8
  refine ws_l (ws_l (ws_l (ws_l ?_)))
  rw [hSη.2.2.2.1, hSη.2.1, i203, i209]
  obtain ⟨hv, hvf⟩ := v_whyGrown n σ9 yl.length cI hcy i.toInt.toNat NI.toInt.toNat i NI od nw (by omega) (by omega) (by omega) _ ew
  have hvj := j_whyGrown n (j := ms_J σ9) rfl cI i od NI nw _ ew
  replace hv : rv = WHY (ms_E σ9 40 1) (ms_E σ9 44) yl.length i.toInt.toNat od NI.toInt.toNat nw := hv
  replace hvf : fr [657, 658, 659, 660] [42, 43] σ9 σx := hvf
  replace hvj : ms_J σx = ms_J σ9 := hvj
  refine ws_hc (k_whyGrowth n hn η (rd + 5) (rd + 3) yl hRy (ms_E σ 40 1) (by omega) i.toInt.toNat NI.toInt.toNat i NI od nw (by omega) (by omega) (by omega)) (fun r θ hr2 => ?_)
  obtain ⟨hr2, hwf⟩ := hr2
  replace hwf : wf (rd + 5) η θ := hwf
  have hSθ := RSH_R hSη hwf.1
  have F10 : rfr rd α θ := rfr_tr F9 (rfr_wf hSη hwf)
  have hWθ : RWL θ w wl := RWL_rfr hW F10 hw3 hw
  refine ws_b (k_rput n hWθ hwl r) (fun κ hκ => ws_s ?_)
  obtain ⟨hRκ, hef⟩ := hκ
  have hrv : r = rv := by
    rw [show r = _ from hr2, hv, c9]
    exact WHY_c _ _ _ _ _ _ (fun j hj => (mkD h44 j hj).symm)
  have e300 : hp_R θ 300 w = w + 1 := by rw [F10.1]; exact hw3
  have hPx : PRE η rd σx t N p9 := PRE_fr hP9 hvf (by decide) (by decide) hvj
  have eRη : hp_R η 200 rd = rd + 1 := hSη.1.1
  have eRθ : hp_R θ 200 rd = rd + 1 := hSθ.1.1
  have hPθ : PRE θ rd σx t N p9 := PRE_e hPx hwf.1 hwf.2.1 (fun b j => hwf.2.2.2.2.2 24 b j (fun z => by omega)) (fun φ h1 h2 => by rw [eRη]; exact hwf.2.2.2.2.1 φ _ (fun z => by omega))
  have hPκ : PRE κ rd σx t N p9 := PRE_e hPθ hef.1 hef.2.1 (fun b j => hef.2.2.2.2.2 24 b j (fun z => absurd z.1 (by decide))) (fun φ h1 h2 => by rw [eRθ]; exact hef.2.2.2.2.1 φ _ (fun z => by omega))
  refine ⟨hfr_tr (hfr_r F10) (hfr_ef hef e300), fr_tr g9 (fr_sb hvf (by decide) (by decide)), Or.inl ⟨rfl, ⟨p9, by omega, hPκ⟩, by rw [← hrv]; exact hRκ, fun φ h1 h2 => ?_, ?_⟩⟩
  rotate_left
  · have := RWL_m hRy
    show 0 ≤ (hp_I κ 301 (rd + 3)).toInt ∧ (hp_I κ 301 (rd + 3)).toInt ≤ 64
    rw [hef.2.2.2.2.1 301 (rd + 3) (fun z => by omega), hwf.2.2.2.2.1 301 (rd + 3) (fun z => by omega)]; exact this
  show hp_I κ φ rd = _
  rw [hef.2.2.2.2.1 φ rd (fun z => by omega), hwf.2.2.2.2.1 φ rd (fun z => by omega), hk9 φ h1, hk8 φ h1 h2, hk6 φ h1 h2, hk5 φ h1, hk4 φ h1 h2, hk2 φ h1 h2]
/-! ===== PROOFS, one STATEMENT after another ===== -/
def cn0 : List Int32 → Nat
  | [] => 0
  | a :: l => (if a = 0 then 1 else 0) + cn0 l
theorem cn0_app (l : List Int32) (a : Int32) : cn0 (l ++ [a]) = cn0 l + (if a = 0 then 1 else 0) := by
  induction l with
  | nil => simp [cn0]
  | cons b l ih => rw [List.cons_append, cn0, cn0, ih]; omega
theorem cn0_le (l : List Int32) : cn0 l ≤ l.length := by
  induction l with
  | nil => simp [cn0]
  | cons b l ih => rw [cn0, List.length_cons]; split <;> omega
def WH5 (σ : ms_T) (wl : List Int32) : Prop := ∀ j, j < wl.length → some (ms_E σ 50 j) = wl[j]?
def HPO (n rd w : Nat) (res : Int32 × ms_T) (α : hp_T) (σ : ms_T) (a : Int32 × hp_T) : Prop := hfr rd w α a.2 ∧ ∃ (τ : ms_T) (mI gI : Int32), fr FWH (50 :: FEH) σ τ ∧ f_X12_hear_J153 n τ mI gI = some res ∧ ((a.1 = 0 ∧ BAD a.2 rd τ) ∨ (a.1 = 1 ∧ ms_I τ 670 = 0 ∧ (∃ yl, RWL a.2 w yl ∧ yl.length ≤ 20 ∧ mI.toInt = (yl.length : Int) ∧ gI.toInt = (cn0 yl : Int) ∧ WH5 τ yl) ∧ KF rd α a.2))
theorem HPO_tr {n rd w : Nat} {res : Int32 × ms_T} {α β : hp_T} {σ τ : ms_T} {a : Int32 × hp_T} (hf : hfr rd w α β) (hg : fr FWH (50 :: FEH) σ τ) (hk : KF rd α β) (h : HPO n rd w res β τ a) : HPO n rd w res α σ a := by
  obtain ⟨h1, υ, m, g, h2, h3, h4⟩ := h
  refine ⟨hfr_tr hf h1, υ, m, g, fr_tr hg h2, h3, ?_⟩
  rcases h4 with h4 | ⟨r1, r2, r3, r4⟩
  · exact Or.inl h4
  · exact Or.inr ⟨r1, r2, r3, KF_tr hk r4⟩
theorem fr5 {σ τ : ms_T} (h : fr FWH FEH σ τ) : fr FWH (50 :: FEH) σ τ := fr_sb h (fun _ q => q) (fun _ q => List.mem_cons_of_mem _ q)
/-- behind a fault: the reference's way out -/
theorem v_hear_B (n d2 : Nat) (σ : ms_T) (vI gI : Int32) (res : Int32 × ms_T) (h : 0 < (ms_I σ 670).toInt) (e : f_X12_hear_L35 n d2 σ vI gI = some res) : f_X12_hear_J153 n σ vI gI = some res := by
  cases d2 with
  | zero => rw [f_X12_hear_L35.eq_1] at e; cases e
  | succ d2 =>
    rw [f_X12_hear_L35.eq_2, if_neg (fun z => by rw [z, lt0] at h; omega)] at e
    exact e
theorem v_hear_129 (n d2 : Nat) (σ : ms_T) (vI gI v : Int32) (res : Int32 × ms_T) (e : f_X12_hear_J129 n (f_X12_hear_L35 n d2) σ vI gI v vI = some res) : ∃ g2 : Int32, g2 = gI + (if v = 0 then 1 else 0) ∧ f_X12_hear_L35 n d2 (ms_sE σ 50 vI.toNatClampNeg v) (vI + 1) g2 = some res := by
  unfold f_X12_hear_J129 at e
  replace e := ms_gE e
  obtain ⟨-, e⟩ := e
  replace e := ms_lE rfl e
  replace e := ms_gE e
  obtain ⟨-, e⟩ := e
  have h50 : ms_E (ms_sE σ 50 vI.toNatClampNeg v) 50 vI.toNatClampNeg = v := by rw [mE_sE, if_pos ⟨rfl, rfl⟩]
  rw [h50] at e
  unfold f_X12_hear_J145 at e
  by_cases h : v = 0
  · rw [if_pos h] at e
    exact ⟨_, rfl, by rw [if_pos h]; exact ms_lE rfl (ms_lE rfl e)⟩
  · rw [if_neg h] at e
    exact ⟨_, rfl, by rw [if_neg h]; exact ms_lE rfl (ms_lE rfl e)⟩
theorem r_proofs_L (n : Nat) (hn : 70000 ≤ n) (rd w : Nat) (t : Nat → Int32) (N : Nat) (res : Int32 × ms_T) (hw : w + 2 ≤ rd) : ∀ (d : Nat) (α : hp_T) (σ : ms_T) (wl : List Int32) (q k : Nat) (kI vI gI : Int32) (d2 : Nat), RSH α rd → TOK α rd σ t N q → hp_I α 203 rd = ms_E σ 40 1 → rC (ms_E σ 40) → (0 ≤ (hp_I α 301 (rd + 3)).toInt ∧ (hp_I α 301 (rd + 3)).toInt ≤ 64) → hp_R α 300 w = w + 1 → RWL α w wl → wl.length ≤ 20 → vI.toInt = (wl.length : Int) → gI.toInt = (cn0 wl : Int) → WH5 σ wl → kI.toInt = (k : Int) → k ≤ q → N + 1 - q ≤ d → f_X12_hear_L35 n d2 σ vI gI = some res → ws (f_X3_readProofs_L12 n rd d α w kI) (HPO n rd w res α σ) := by
  intro d
  induction d with
  | zero => intro α σ wl q k kI vI gI d2 _ hT _ _ _ _ _ _ _ _ _ _ _ hd; have := hT.1; omega
  | succ d ih =>
    intro α σ wl q k kI vI gI d2 hS hT hM hC hr h3 hW hwl hv hg h5 hk hkq hd e
    have t900 := t_900
    have t20 := t_20
    have hN := hT.2.1.1
    have hqN := hT.1
    have eR : hp_R α 200 rd = rd + 1 := hS.1.1
    obtain ⟨q1, q2, q3, q4, q5, q6⟩ := id hT
    cases d2 with
    | zero => rw [f_X12_hear_L35.eq_1] at e; cases e
    | succ d2 =>
    rw [f_X12_hear_L35.eq_2, if_pos q6] at e
    rw [f_X3_readProofs_L12.eq_2]
    have hend : q = N → ms_I σ 674 = 0 := fun hq => by
      rw [q5.2.1]; exact tkS_e (by omega)
    have hmid : q < N → ¬ tkS t N q = 0 := fun hq => tkS_0 hq
    have hdone : q = N → HPO n rd w res α σ (1, α) := fun hq => by
      rw [if_pos (hend hq)] at e
      exact ⟨hfr_rf, σ, vI, gI, fr_rf, e, Or.inr ⟨rfl, q6, ⟨wl, hW, hwl, hv, hg, h5⟩, rfl, rfl⟩⟩
    refine ws_le (fun e9 => ws_s (hdone (by omega))) (fun e9 => ?_)
    unfold f_X3_isAtEnd
    have h353 : hp_I α 353 (hp_R α 200 rd) = tkS t N q := q3.2.1
    by_cases hq : q = N
    · refine ws_b (S := fun v => v = 1) (ws_l (ws_l (ws_i (fun _ => ws_s rfl) (fun hne => absurd (by rw [h353]; rw [← q5.2.1]; exact hend hq) hne)))) (fun v hv => ?_)
      subst hv
      exact ws_i (fun h => absurd h (by decide)) (fun _ => ws_s (hdone hq))
    have hqN2 : q < N := by omega
    refine ws_b (S := fun v => v = 0) (ws_l (ws_l (ws_i (fun h0 => absurd (by rw [h353] at h0; exact h0) (hmid hqN2)) (fun _ => ws_s rfl)))) (fun v hv0 => ?_)
    subst hv0
    refine ws_i (fun _ => ws_l ?_) (fun h => absurd rfl h)
    rw [if_neg (fun h => hmid hqN2 (q5.2.1.symm.trans h))] at e
    replace e := ms_bE e
    obtain ⟨x6, ex6, e⟩ := e
    obtain ⟨w61, w60⟩ := v_isW n hT 6 (by decide) 6 (by decide) ex6
    -- a STATEMENT of either kind
    have hJ : ∀ (b4 : Int32), ((b4 = 1 ∧ spl t N q (wtx 6)) ∨ (b4 = 0 ∧ ¬ spl t N q (wtx 6) ∧ spl t N q (wtx 7))) → f_X12_hear_J73 n (f_X12_hear_L35 n d2) σ vI gI 1 = some res → ws (f_X3_readProofs_J59 n rd (f_X3_readProofs_L12 n rd d) α w kI b4) (HPO n rd w res α σ) := by
      clear e
      intro b4 hb4 e
      unfold f_X12_hear_J73 at e
      replace e := ms_bE e
      obtain ⟨σ1, e1, e⟩ := e
      have := v_must1 n σ 1 2 (by decide) σ1 e1
      subst this
      unfold f_X3_readProofs_J59
      refine ws_l (ws_hc (r_room n hT eR (hp_I α 301 w) 20) (fun a β hab => ?_))
      obtain ⟨hab1, hab2⟩ := hab
      by_cases h20 : wl.length < 20
      · obtain ⟨ra, rb⟩ := hab1 (by rw [hW.2.1, t20]; omega)
        replace ra : a = 1 := ra
        replace rb : β = α := rb
        subst ra
        subst rb
        rw [if_neg (by decide)]
        rw [if_neg (fun z => by have := il_le z; rw [t20] at this; omega)] at e
        unfold f_X12_hear_J89 at e
        replace e := ms_bE e
        obtain ⟨σ2, e2, e⟩ := e
        have := v_must1 n σ1 1 6 (by decide) σ2 e2
        subst this
        rw [if_pos (by rw [q6]; decide)] at e
        replace e := ms_bE e
        obtain ⟨x7, ex7, e⟩ := e
        obtain ⟨w71, w70⟩ := v_isW n hT 6 (by decide) 6 (by decide) ex7
        -- behind the STATEMENT
        have hS9 : ∀ (z : Int32 × hp_T) (r : Int32 × ms_T), STO rd w wl β σ2 t N q z r → f_X12_hear_J129 n (f_X12_hear_L35 n d2) r.2 vI gI r.1 vI = some res → ws (if z.1 = 0 then some ((0 : Int32), z.2) else f_X3_readProofs_J98 n rd (f_X3_readProofs_L12 n rd d) z.2 w kI) (HPO n rd w res β σ2) := by
          intro z r hz er
          obtain ⟨hf, hg2, hc⟩ := hz
          obtain ⟨g2, hg2e, er2⟩ := v_hear_129 n d2 r.2 vI gI r.1 res er
          have ev : vI.toNatClampNeg = wl.length := cl_n hv
          rw [ev] at er2
          have g50 : fr FWH (50 :: FEH) r.2 (ms_sE r.2 50 wl.length r.1) := fr_sE List.mem_cons_self
          rcases hc with ⟨z1, ⟨p, hp, hP⟩, hRW, hkk, hr2⟩ | ⟨z0, hr0, hB⟩
          · rw [if_neg (by rw [z1]; decide)]
            unfold f_X3_readProofs_J98
            have hSz := RSH_R hS hf.1
            have eRz : hp_R z.2 200 rd = rd + 1 := hSz.1.1
            have hP2 : PRE z.2 rd (ms_sE r.2 50 wl.length r.1) t N p := PRE_fr (wI := []) (wE := [50]) hP (fr_sE (by decide)) (by decide) (by decide) rfl
            refine ws_l (ws_b (r_adv n hn hP2) (fun δ hδ => ws_l ?_))
            obtain ⟨hTδ, hfδ, hkδ⟩ := hδ
            rw [eRz] at hfδ
            have e1 : (kI + 1).toInt = ((k + 1 : Nat) : Int) := by rw [iw_add, lt1]; omega
            have ev1 : (vI + 1).toInt = ((wl ++ [r.1]).length : Int) := by rw [iw_add, lt1, List.length_append, List.length_singleton]; omega
            have eg1 : g2.toInt = (cn0 (wl ++ [r.1]) : Int) := by
              have := cn0_le wl
              rw [hg2e, cn0_app]
              split
              · rw [iw_add, lt1]; omega
              · rw [iw_add, lt0]; omega
            have c40 : ms_E (ms_sE r.2 50 wl.length r.1) 40 = ms_E σ2 40 := by
              funext j
              rw [mE_sE, if_neg (fun q => absurd q.1 (by decide)), hg2.2 40 (by decide) j]
            have hp2 : p ≤ tkP t N p := (ru_le isB t _ _).1
            have hRδ : RWL δ w (wl ++ [r.1]) := ⟨hRW.1, by rw [hkδ 301 (by decide)]; exact hRW.2.1, fun j hj => by rw [hfδ.1, hfδ.2.2.2.2.1]; exact hRW.2.2 j hj⟩
            refine ws_m (ih δ (ms_sE r.2 50 wl.length r.1) (wl ++ [r.1]) (tkP t N p) (k + 1) (kI + 1) (vI + 1) g2 d2 (RSH_R hSz hfδ.1) hTδ ?_ (by rw [c40]; exact hC) ?_ ?_ hRδ ?_ ev1 eg1 ?_ e1 (by omega) (by omega) er2) (fun a ha => HPO_tr (hfr_tr hf (hfr_r (rfr_rdf hfδ))) (fr_tr (fr5 hg2) g50) ?_ ha)
            · rw [hkδ 203 (by decide), hkk 203 (by decide) (by decide), c40]; exact hM
            · rw [hkδ 301 (by decide)]; exact hr2
            · rw [hfδ.1, hf.1]; exact h3
            · rw [List.length_append, List.length_singleton]; omega
            · intro j hj
              rw [List.length_append, List.length_singleton] at hj
              rw [mE_sE]
              by_cases ej : j = wl.length
              · rw [if_pos ⟨rfl, ej⟩, ej, List.getElem?_append_right (Nat.le_refl _), Nat.sub_self]; rfl
              · rw [if_neg (fun q => ej q.2), List.getElem?_append_left (by omega), hg2.2 50 (by decide) j]
                exact h5 j (by omega)
            · exact ⟨by rw [hkδ 204 (by decide), hkk 204 (by decide) (by decide)], by rw [hkδ 205 (by decide), hkk 205 (by decide) (by decide)]⟩
          · rw [if_pos z0]
            refine ws_s ⟨hf, ms_sE r.2 50 wl.length r.1, vI + 1, g2, fr_tr (fr5 hg2) g50, ?_, Or.inl ⟨rfl, BAD_m hB rfl rfl⟩⟩
            exact v_hear_B n d2 _ _ _ res hB.1 er2
        rcases hb4 with ⟨rfl, hin⟩ | ⟨rfl, hnin, hgr⟩
        · rw [if_neg (by decide)]
          rw [w71 hin, if_neg (by decide)] at e
          replace e := ms_cE e
          obtain ⟨v, υ, ev, e⟩ := e
          exact ws_hc (r_statIn n hn hS hT hqN2 hM hC hr hw h3 hW (by omega) (v, υ) ev) (fun a γ hz => hS9 (a, γ) (v, υ) hz e)
        · rw [if_pos rfl]
          rw [w70 hnin, if_pos rfl] at e
          replace e := ms_cE e
          obtain ⟨v, υ, ev, e⟩ := e
          exact ws_hc (r_statGrow n hn hS hT hqN2 hgr hM hC hr hw h3 hW (by omega) (v, υ) ev) (fun a γ hz => hS9 (a, γ) (v, υ) hz e)
      · obtain ⟨ra, rb, rc⟩ := hab2 (by rw [hW.2.1, t20]; omega)
        replace ra : a = 0 := ra
        subst ra
        rw [if_pos rfl]
        rw [if_pos (by rw [Int32.le_iff_toInt_le, t20]; omega)] at e
        unfold f_X12_hear_J89 at e
        replace e := ms_bE e
        obtain ⟨σ2, e2, e⟩ := e
        obtain ⟨u1, u2, u3⟩ := v_mustk n q6 6 (by decide) σ2 e2
        rw [if_neg (fun z => by rw [u1] at z; exact absurd z (by decide))] at e
        exact ws_s ⟨hfr_r (rfr_rdf rb), σ2, vI, gI, fr5 (frg u3), e, Or.inl ⟨rfl, rc σ2 u1 u2⟩⟩
    refine ws_b (k_spells n hn (by decide) q2 q3 q1) (fun b4 hb4 => ?_)
    rcases hb4 with ⟨rfl, hin⟩ | ⟨rfl, hnin⟩
    · rw [if_neg (by decide)]
      rw [w61 hin, if_neg (by decide)] at e
      unfold f_X12_hear_J68 at e
      exact hJ 1 (Or.inl ⟨rfl, hin⟩) e
    · rw [if_pos rfl]
      rw [w60 hnin, if_pos rfl] at e
      replace e := ms_bE e
      obtain ⟨x7, ex7, e⟩ := e
      obtain ⟨w71, w70⟩ := v_isW n hT 7 (by decide) 7 (by decide) ex7
      refine ws_l (ws_b (k_spells n hn (by decide) q2 q3 q1) (fun b5 hb5 => ?_))
      rcases hb5 with ⟨rfl, hgr⟩ | ⟨rfl, hngr⟩
      · rw [if_neg (by decide)]
        rw [w71 hgr, if_neg (by decide)] at e
        unfold f_X12_hear_J68 at e
        exact hJ 0 (Or.inr ⟨rfl, hnin, hgr⟩) e
      · rw [if_pos rfl]
        rw [w70 hngr, if_pos rfl] at e
        refine ws_hc (k_stray n q3) (fun r γ hr9 => ?_)
        obtain ⟨g1, g2, g3, g4⟩ := hr9
        rw [eR] at g4
        replace g1 : r = 0 := g1
        subst g1
        refine ws_z (Or.inl rfl) ?_
        unfold f_X12_hear_J73 at e
        replace e := ms_bE e
        obtain ⟨σ1, e1, e⟩ := e
        obtain ⟨u1, u2, u3⟩ := v_must0 n q6 2 σ1 e1
        have u1' : ms_I σ1 670 = (if tkS t N q = 4 then 1 else 2) := by
          rw [u1]
          by_cases h4 : tkS t N q = 4
          · rw [if_pos h4, if_pos ⟨rfl, q5.2.1.trans h4⟩]
          · rw [if_neg h4, if_neg (fun h => h4 (q5.2.1.symm.trans h.2))]
        have hpos : 0 < (ms_I σ1 670).toInt := by rw [u1']; split <;> decide
        have hx : ∀ b : Int32, f_X12_hear_J89 n (f_X12_hear_L35 n d2) σ1 vI gI b = some res → f_X12_hear_J153 n σ1 vI gI = some res := by
          intro b eb
          unfold f_X12_hear_J89 at eb
          replace eb := ms_bE eb
          obtain ⟨σ2, e2, eb⟩ := eb
          have := v_must2 n σ1 b 6 hpos σ2 e2
          subst this
          rw [if_neg (fun z => by have := il_le z; rw [lt0] at this; omega)] at eb
          exact eb
        have e9 : f_X12_hear_J153 n σ1 vI gI = some res := by
          by_cases h64 : (20 : Int32) ≤ vI
          · rw [if_pos h64] at e; exact hx 0 e
          · rw [if_neg h64] at e; exact hx 1 e
        refine ws_s ⟨hfr_r (rfr_rdf g4), σ1, vI, gI, fr5 (frg (rg_m u3)), e9, Or.inl ⟨rfl, hpos, by rw [u1']; exact g2, ?_⟩⟩
        show hp_I γ 205 rd = _
        rw [u2]
        exact Int32.toInt_inj.mp (by rw [q5.1]; exact g3)
/-! ===== hear, side by side ===== -/
theorem k_countOf_L (n : Nat) {α : hp_T} {a : Nat} {l : List Int32} (h : RWL α a l) : ∀ (d k : Nat) (cI kI : Int32), kI.toInt = (k : Int) → k ≤ l.length → cI.toInt = (cn0 (l.take k) : Int) → l.length + 1 - k ≤ d → ws (f_X5_countOf_L4 n α a d 0 cI kI) (fun r => r.toInt = (cn0 l : Int)) := by
  intro d
  induction d with
  | zero => intro k cI kI _ hk _ hd; omega
  | succ d ih =>
    intro k cI kI hkI hk hc hd
    have h64 := h.1
    rw [f_X5_countOf_L4.eq_2]
    refine ws_l (ws_le (fun c => ws_s ?_) (fun c => ?_))
    · rw [h.2.1] at c
      rw [hc, List.take_of_length_le (by omega)]
    · rw [h.2.1] at c
      have hkl : k < l.length := by omega
      have htk : l.take (k + 1) = l.take k ++ [l[k]] := by rw [List.take_succ_eq_append_getElem hkl]
      have hcl := cn0_le (l.take k)
      rw [List.length_take] at hcl
      have e1 : (kI + 1).toInt = ((k + 1 : Nat) : Int) := by rw [iw_add, lt1]; omega
      refine ws_b (k_rat n h k hkl kI hkI) (fun r hr => ?_)
      have hrk : r = l[k] := by rw [hr, List.getD_eq_getElem?_getD, List.getElem?_eq_getElem hkl]; rfl
      unfold f_X5_countOf_J24
      refine ws_i (fun z => ws_l (ws_l (ih (k + 1) _ _ e1 (by omega) ?_ (by omega)))) (fun z => ws_l (ih (k + 1) _ _ e1 (by omega) ?_ (by omega)))
      · rw [htk, cn0_app, if_pos (by rw [← hrk]; exact z), iw_add, lt1]; omega
      · rw [htk, cn0_app, if_neg (by rw [← hrk]; exact z)]; omega
theorem k_countOf (n : Nat) (hn : 70000 ≤ n) {α : hp_T} {a : Nat} {l : List Int32} (h : RWL α a l) : ws (f_X5_countOf n α a 0) (fun r => r.toInt = (cn0 l : Int)) := by
  unfold f_X5_countOf
  have h64 := h.1
  exact k_countOf_L n h n 0 0 0 (by decide) (Nat.zero_le _) (by rw [List.take_zero]; rfl) (by omega)
theorem v_hear_169 (n M : Nat) (mI gI : Int32) (hm : mI.toInt = (M : Int)) (σ0 : ms_T) : ∀ (d k : Nat) (σ : ms_T) (kI : Int32), kI.toInt = (k : Int) → k ≤ M → fr [682] [49] σ0 σ → (∀ j, j < k → ms_E σ 49 j = ms_E σ0 50 j) → pr (f_X12_hear_L169 n d σ mI gI kI) (fun res => res.1 = gI ∧ ms_I res.2 682 = mI ∧ (∀ j, j < M → ms_E res.2 49 j = ms_E σ0 50 j) ∧ fr [682] [49] σ0 res.2) := by
  intro d
  induction d with
  | zero => intro k σ kI _ _ _ _; rw [f_X12_hear_L169.eq_1]; exact pr_0
  | succ d ih =>
    intro k σ kI hk hkM hf h
    have hmb := ib_hi mI
    rw [f_X12_hear_L169.eq_2]
    refine pr_le (fun c => pr_ln (fun τ hτ => pr_s ⟨rfl, ?_, fun j hj => ?_, ?_⟩)) (fun c => pr_g (fun _ _ => pr_g (fun _ _ => pr_l (pr_l ?_))))
    · rw [hτ, mI_sI, if_pos rfl]
    · show ms_E τ 49 j = _
      rw [hτ, mE_sI]
      exact h j (by omega)
    · show fr [682] [49] σ0 τ
      rw [hτ]
      exact fr_tr hf (fr_sI (by decide))
    · have e1 : (kI + 1).toInt = ((k + 1 : Nat) : Int) := by rw [iw_add, lt1]; omega
      rw [cl_n hk]
      refine ih (k + 1) _ _ e1 (by omega) (fr_tr hf (fr_sE (by decide))) (fun j hj => ?_)
      rw [mE_sE]
      by_cases ej : j = k
      · rw [if_pos ⟨rfl, ej⟩, ej]; exact hf.2 50 (by decide) k
      · rw [if_neg (fun q => ej q.2)]; exact h j (by omega)
def XHR (α : hp_T) (x : Nat) : Prop := RSH α (x + 944) ∧ ((hp_R α 608 x = x + 926 ∧ hp_R α 609 x = x + 928) ∨ (hp_R α 608 x = x + 928 ∧ hp_R α 609 x = x + 926)) ∧ hp_R α 300 (x + 926) = x + 927 ∧ hp_R α 300 (x + 928) = x + 929
def hdl (σ : ms_T) : List Int32 := (List.range (ms_I σ 682).toInt.toNat).map (fun j => ms_E σ 49 j)
theorem hdl_e {σ τ : ms_T} (h1 : ms_I τ 682 = ms_I σ 682) (h2 : ∀ j, ms_E τ 49 j = ms_E σ 49 j) : hdl τ = hdl σ := by
  unfold hdl
  rw [h1]
  exact List.map_congr_left (fun j _ => h2 j)
/-- what was heard, on both sides -/
def HDX (α : hp_T) (x : Nat) (σ : ms_T) : Prop := RWL α (hp_R α 608 x) (hdl σ)
def hef (x : Nat) (α β : hp_T) : Prop := (∀ φ b, ¬ (b = x ∧ (φ = 608 ∨ φ = 609)) → ¬ (b = x + 945 ∧ φ = 350) → hp_R β φ b = hp_R α φ b) ∧ hp_K β = hp_K α ∧ hp_Q β = hp_Q α ∧ hp_N β = hp_N α ∧ (∀ φ b, ¬ (b = x ∧ (φ = 600 ∨ φ = 605)) → ¬ (φ = 301 ∧ (b = x + 926 ∨ b = x + 928)) → (b < x + 944 ∨ x + 955 ≤ b) → hp_I β φ b = hp_I α φ b) ∧ ∀ κ b j, ¬ (κ = 20 ∧ (b = x + 927 ∨ b = x + 929)) → (b < x + 944 ∨ x + 955 ≤ b) → hp_E β κ b j = hp_E α κ b j
def hew0 : List Nat := [652, 653, 657, 658, 659, 660, 667, 668, 669, 670, 671, 672, 673, 674, 675, 676]
def hew : List Nat := [652, 653, 657, 658, 659, 660, 667, 668, 669, 670, 671, 672, 673, 674, 675, 676, 682]
def HRO (x : Nat) (α : hp_T) (σ : ms_T) (res r : Int32 × ms_T) (a : Int32 × hp_T) : Prop := a.1 = res.1 ∧ TPX a.2 x res.2 ∧ XHR a.2 x ∧ (HDX α x σ → HDX a.2 x res.2) ∧ (FLX α x σ → FLX a.2 x res.2) ∧ hef x α a.2 ∧ fr hew [42, 43, 44, 49, 50] σ res.2
theorem r_hear (n : Nat) (hn : 70000 ≤ n) (α : hp_T) (x : Nat) (σ : ms_T) (hR : RI σ) (hG : GC α) (hX : XSH α x) (hH : XHR α x) (hRW : RWX α x (ms_E σ 40)) (tp : TPX α x σ) (a : Int32) (res : Int32 × ms_T) (e : f_X12_hear n σ a = some res) :
    ws (f_X11_hear n α x a) (HRO x α σ res res) := by
  obtain ⟨s1, s2, s3, s4, s5, s6⟩ := id hX
  obtain ⟨tp1, tp2⟩ := id tp
  obtain ⟨hS, h89, h926, h928⟩ := id hH
  have hC := hR.2
  have h667 := hR.1.2.1
  unfold f_X12_hear at e
  replace e := ms_bE e
  obtain ⟨x1, ex1, e⟩ := e
  have hin := v_isIn n a 0 (ms_I σ 667) x1 ex1
  rw [lt0] at hin
  have hrefuse : ¬ (0 ≤ a.toInt ∧ a.toInt ≤ (ms_I σ 667).toInt) → ws (f_X11_hear_J12 n x α) (HRO x α σ res res) := by
    intro hno
    have hx1 : x1 = 0 := by
      rcases hin with ⟨-, g⟩ | ⟨g, -⟩
      · exact absurd g hno
      · exact g
    rw [if_pos hx1] at e
    unfold f_X12_hear_J18 at e
    have he := v_is1 n σ 1 (by decide) (k := fun τ => some ((-1 : Int32), τ)) (l := fun τ => ms_b (f_X12_begins n τ a) fun σh5 => f_X12_hear_L35 n n σh5 0 0) (P := fun r => r = (-1, ms_sI (ms_sI σ 653 0) 652 1)) (pr_s rfl) res e
    subst he
    unfold f_X11_hear_J12
    refine ws_hc (k_refuse n α x 1) (fun v β hv => ws_s ?_)
    obtain ⟨rfl, hβ⟩ := hv
    dsimp only at hβ
    subst hβ
    have hfr : fr hew [42, 43, 44, 49, 50] σ (ms_sI (ms_sI σ 653 0) 652 1) := fr_tr (fr_sI (by decide)) (fr_sI (by decide))
    refine ⟨rfl, ⟨by rw [hI_sI, if_neg (fun z => absurd z.1 (by decide))]; exact tp1, tp2⟩, hH, fun h => ?_, fun h => ?_, ⟨fun _ _ _ _ => rfl, rfl, rfl, rfl, fun φ b h1 _ _ => by rw [hI_sI, if_neg (fun z => h1 ⟨z.2, Or.inl z.1⟩)], fun _ _ _ _ _ => rfl⟩, hfr⟩
    · unfold HDX at h ⊢
      show RWL (hp_sI α 600 x 1) (hp_R α 608 x) (hdl (ms_sI (ms_sI σ 653 0) 652 1))
      rw [hdl_e (σ := σ) (τ := ms_sI (ms_sI σ 653 0) 652 1) rfl (fun _ => rfl)]
      exact RWL_st h
    · exact ⟨by rw [hI_sI, if_neg (fun z => absurd z.1 (by decide))]; exact h.1, by rw [hI_sI, if_neg (fun z => absurd z.1 (by decide))]; exact h.2⟩
  unfold f_X11_hear
  refine ws_lt (fun hneg => hrefuse (by rw [lt0] at hneg; omega)) (fun hpos => ws_l ?_)
  rw [lt0] at hpos
  rw [tp1]
  refine ws_le (fun hle => ?_) (fun hgt => hrefuse (by omega))
  have hx1 : x1 = 1 := by
    rcases hin with ⟨g, -⟩ | ⟨-, g⟩
    · exact g
    · exact absurd ⟨by omega, hle⟩ g
  rw [if_neg (by rw [hx1]; decide)] at e
  unfold f_X12_hear_J18 at e
  replace e := v_is0 n σ (k := fun τ => some ((-1 : Int32), τ)) (l := fun τ => ms_b (f_X12_begins n τ a) fun σh5 => f_X12_hear_L35 n n σh5 0 0) (P := fun r => (ms_b (f_X12_begins n (ms_sI (ms_sI σ 653 0) 652 0) a) fun σh5 => f_X12_hear_L35 n n σh5 0 0) = some r) (fun r hr => hr) res e
  obtain ⟨σ0, hσ0⟩ : ∃ τ, τ = ms_sI (ms_sI σ 653 0) 652 0 := ⟨_, rfl⟩
  rw [← hσ0] at e
  have f0 : fr [653, 652] [] σ σ0 := by rw [hσ0]; exact fr_tr (fr_sI (by decide)) (fr_sI (by decide))
  replace e := ms_bE e
  obtain ⟨σ5, eb, e⟩ := e
  obtain ⟨N, hNN⟩ : ∃ N : Nat, a.toInt = (N : Int) := ⟨a.toInt.toNat, by omega⟩
  obtain ⟨t, ht⟩ : ∃ t : Nat → Int32, t = fun j => ms_E σ 47 j := ⟨_, rfl⟩
  have t1 : ∀ j, j < N → hp_E α 24 (x + 921) j = t j := fun j hj => by rw [ht]; exact tp2 j (by omega)
  have t2 : ∀ j, j < N → ms_E σ0 47 j = t j := fun j hj => by rw [f0.2 47 (by decide) j, ht]
  obtain ⟨w, u, h1, h2, h3, hWR, -⟩ := id hRW
  refine ws_l (ws_l ?_)
  rw [s5, s3]
  refine ws_b (r_begin9 n hn (t := t) (N := N) s6.1 s4 (by omega) a hNN t1) (fun γ hγ => ?_)
  obtain ⟨⟨g1, g2, g3, gR, gR2, gK, gQ, gN, gI, gE⟩, g301⟩ := hγ
  obtain ⟨hT, hfb⟩ := g1 σ0 σ5 t2 eb
  have gRx : ∀ φ b, φ ≠ 350 → hp_R γ φ b = hp_R α φ b := fun φ b hφ => gR φ b (fun z => hφ z.1)
  have c5 : ms_E σ5 40 = ms_E σ 40 := funext (fun j => (hfb.2 40 (by decide) j).trans (f0.2 40 (by decide) j))
  have hSγ : RSH γ (x + 944) := by
    obtain ⟨⟨r1, r2, r3⟩, r4, r5, r6, r7, r8, r9⟩ := hS
    exact ⟨⟨by rw [gRx 200 _ (by decide)]; exact r1, by rw [gRx 207 _ (by decide)]; exact r2, by rw [gRx 500 _ (by decide)]; exact r3⟩, by rw [gRx 201 _ (by decide)]; exact r4, by rw [gRx 300 _ (by decide)]; exact r5, by rw [gRx 202 _ (by decide)]; exact r6, by rw [gRx 450 _ (by decide)]; exact r7, by rw [gRx 451 _ (by decide)]; exact r8, by rw [gRx 452 _ (by decide)]; exact r9⟩
  obtain ⟨V, hV⟩ : ∃ V, V = hp_R α 609 x := ⟨_, rfl⟩
  obtain ⟨U, hU⟩ : ∃ U, U = hp_R α 608 x := ⟨_, rfl⟩
  have hUV : (U = x + 926 ∧ V = x + 928) ∨ (U = x + 928 ∧ V = x + 926) := by rw [hU, hV]; exact h89
  have hV3 : hp_R γ 300 V = V + 1 := by
    rw [gRx 300 _ (by decide)]
    rcases hUV with z | z
    · rw [z.2, h928]
    · rw [z.2, h926]
  have hU3 : hp_R γ 300 U = U + 1 := by
    rw [gRx 300 _ (by decide)]
    rcases hUV with z | z
    · rw [z.1, h926]
    · rw [z.1, h928]
  refine ws_l (ws_l (ws_l (ws_l ?_)))
  have wr : x + 1 ≤ w ∧ w + 459 ≤ x + 919 := by omega
  have e550 : hp_I γ 550 w = ms_E σ 40 1 := by rw [gI 550 w (by omega)]; exact hWR.2.1.1
  rw [gRx 616 _ (by decide), s5, gRx 601 _ (by decide), h1, e550, gRx 609 _ (by decide), ← hV]
  have hread : ws (f_X3_readProofs n γ (x + 944) (ms_E σ 40 1) V) (HPO n (x + 944) V res γ σ5) := by
    unfold f_X3_readProofs
    refine ws_l ?_
    obtain ⟨γ1, hγ1⟩ : ∃ z, z = hp_sI γ 203 (x + 944) (ms_E σ 40 1) := ⟨_, rfl⟩
    rw [← hγ1]
    have r1 : rfr (x + 944) γ γ1 := by rw [hγ1]; exact rfr_sI
    have i301 : ∀ b, hp_I γ1 301 b = hp_I γ 301 b := fun b => by rw [hγ1, hI_sI, if_neg (fun z => absurd z.1 (by decide))]
    have gV : 0 ≤ (hp_I γ1 301 V).toInt ∧ (hp_I γ1 301 V).toInt ≤ 64 := by
      rw [i301, gI 301 V (by omega)]; exact hG.1 301 V rfl
    obtain ⟨l, hl⟩ := RWL_any (α := γ1) (a := V) gV.1 gV.2
    refine ws_b (k_rshort n hl 0 (Nat.zero_le _) 0 (by decide)) (fun γ2 hγ2 => ?_)
    obtain ⟨hR2, hef2⟩ := hγ2
    rw [List.take_zero] at hR2
    have hS2 : RSH γ2 (x + 944) := RSH_R hSγ (hef2.1.trans r1.1)
    have eRγ : hp_R γ 200 (x + 944) = x + 944 + 1 := hSγ.1.1
    have eRγ1 : hp_R γ1 200 (x + 944) = x + 944 + 1 := by rw [r1.1]; exact eRγ
    have hT1 : TOK γ1 (x + 944) σ5 t N (tkP t N 0) := TOK_e hT r1.1 r1.2.1 (fun b j => by rw [hγ1]; rfl) (fun φ p q => by rw [hγ1, hI_sI, if_neg (fun z => by omega)])
    have hT2 : TOK γ2 (x + 944) σ5 t N (tkP t N 0) := TOK_e hT1 hef2.1 hef2.2.1 (fun b j => hef2.2.2.2.2.2 24 b j (fun z => absurd z.1 (by decide))) (fun φ p q => hef2.2.2.2.2.1 φ _ (fun z => by omega))
    have hV1 : hp_R γ1 300 V = V + 1 := by rw [r1.1]; exact hV3
    have i203 : hp_I γ2 203 (x + 944) = ms_E σ5 40 1 := by
      rw [hef2.2.2.2.2.1 203 _ (fun z => absurd z.2 (by decide)), hγ1, hI_sI, if_pos ⟨rfl, rfl⟩, c5]
    have hrr : 0 ≤ (hp_I γ2 301 (x + 944 + 3)).toInt ∧ (hp_I γ2 301 (x + 944 + 3)).toInt ≤ 64 := by
      rw [hef2.2.2.2.2.1 301 _ (fun z => by omega), i301, g301]
      exact hG.1 301 (x + 944 + 3) rfl
    have kf : KF (x + 944) γ γ2 := ⟨by rw [hef2.2.2.2.2.1 204 _ (fun z => absurd z.2 (by decide)), hγ1, hI_sI, if_neg (fun z => absurd z.1 (by decide))], by rw [hef2.2.2.2.2.1 205 _ (fun z => absurd z.2 (by decide)), hγ1, hI_sI, if_neg (fun z => absurd z.1 (by decide))]⟩
    refine ws_m (r_proofs_L n hn (x + 944) V t N res (by omega) n γ2 σ5 [] _ 0 0 0 0 n hS2 hT2 i203 (by rw [c5]; exact hC) hrr (by rw [hef2.1]; exact hV1) hR2 (by decide) (by decide) rfl (fun j hj => absurd hj (by simp)) (by decide) (Nat.zero_le _) (by omega) e) (fun b hb => HPO_tr (hfr_tr (hfr_r r1) (hfr_ef hef2 hV1)) fr_rf kf hb)
  refine ws_hc hread (fun v δ hδ => ws_l ?_)
  obtain ⟨⟨dR, dK, dQ, dN, dI, dE⟩, τ, mI, gI', fτ, e, hc⟩ := hδ
  replace dR : hp_R δ = hp_R γ := dR
  replace dI : ∀ φ b, ¬ (φ = 301 ∧ b = V) → (b < x + 944 ∨ x + 944 + 11 ≤ b) → hp_I δ φ b = hp_I γ φ b := dI
  replace dE : ∀ κ b j, ¬ (κ = 20 ∧ b = V + 1) → (b < x + 944 ∨ x + 944 + 11 ≤ b) → hp_E δ κ b j = hp_E γ κ b j := dE
  unfold f_X12_hear_J153 at e
  replace e := ms_bE e
  obtain ⟨υ, eυ, e⟩ := e
  obtain ⟨n7, n8, n9, n2, fυ⟩ := v_ends n τ υ eυ
  have ff0 : fr hew0 [42, 43, 44, 50] σ υ := fr_tr (fr_sb f0 (by decide) (by decide)) (fr_tr (fr_sb hfb (by decide) (by decide)) (fr_tr (fr_sb fτ (by decide) (by decide)) (fr_sb fυ (by decide) (by decide))))
  have ff : fr hew [42, 43, 44, 49, 50] σ υ := fr_sb ff0 (by decide) (by decide)
  have e670 : ms_I υ 670 = ms_I τ 670 := fυ.1 670 (by decide)
  obtain ⟨ε, hε⟩ : ∃ z, z = hp_sI δ 605 x 0 := ⟨_, rfl⟩
  rw [← hε]
  have eR : hp_R ε = hp_R γ := by rw [hε]; exact dR
  have eI : ∀ φ b, hp_I ε φ b = if φ = 605 ∧ b = x then 0 else hp_I δ φ b := fun φ b => by rw [hε, hI_sI]
  have eE : hp_E ε = hp_E δ := by rw [hε]; rfl
  have eK : hp_K ε = hp_K α := by rw [hε]; exact dK.trans gK
  have eQ : hp_Q ε = hp_Q α := by rw [hε]; exact dQ.trans gQ
  have eN : hp_N ε = hp_N α := by rw [hε]; exact dN.trans gN
  -- the row heard ahead
  have hUd : ∀ l, RWL α U l → ∀ β : hp_T, hp_R β 300 U = U + 1 → hp_I β 301 U = hp_I δ 301 U → (∀ j, hp_E β 20 (U + 1) j = hp_E δ 20 (U + 1) j) → RWL β U l := fun l hl β b1 b2 b3 => by
    refine ⟨hl.1, by rw [b2, dI 301 U (by omega) (by omega), gI 301 U (by omega)]; exact hl.2.1, fun k hk => ?_⟩
    have := hl.2.2 k hk
    rw [show hp_R α 300 U = U + 1 by rw [← gRx 300 _ (by decide)]; exact hU3] at this
    rw [b1, b3, dE 20 (U + 1) k (by omega) (by omega), gE]
    exact this
  rcases hc with ⟨v0, hB⟩ | ⟨v1, h670, ⟨yl, hRy, hy20, hmI, hgI, hWy⟩, hKF⟩
  · replace v0 : v = 0 := v0
    subst v0
    replace hB : BAD δ (x + 944) τ := hB
    have hp := hB.1
    rw [if_neg (fun z => by have := il_le z; rw [e670, lt0] at this; omega)] at e
    cases e
    refine ws_i (fun _ => ?_) (fun z => absurd rfl z)
    refine ws_hc (k_refuse n ε x 9) (fun r ζ hz => ws_s ?_)
    obtain ⟨z1, z2⟩ := hz
    replace z1 : r = -1 := z1
    replace z2 : ζ = hp_sI ε 600 x 9 := z2
    have zI : ∀ φ b, φ ≠ 600 → hp_I ζ φ b = hp_I ε φ b := fun φ b hφ => by rw [z2, hI_sI, if_neg (fun z => hφ z.1)]
    have zR : hp_R ζ = hp_R γ := by rw [z2]; exact eR
    have zE : hp_E ζ = hp_E δ := by rw [z2]; exact eE
    refine ⟨z1, ⟨?_, fun j hj => ?_⟩, ⟨RSH_R hSγ zR, ?_, ?_, ?_⟩, fun h => ?_, fun _ => ⟨?_, ?_⟩, ⟨fun φ b p q => ?_, by rw [z2]; exact eK, by rw [z2]; exact eQ, by rw [z2]; exact eN, fun φ b p q r => ?_, fun κ b j p q => ?_⟩, ff⟩
    · show hp_I ζ 605 x = ms_I υ 667
      rw [zI 605 x (by decide), eI, if_pos ⟨rfl, rfl⟩, n7]
    · replace hj : (j : Int) < (ms_I υ 667).toInt := hj
      rw [n7, lt0] at hj; omega
    · show (hp_R ζ 608 x = _ ∧ _) ∨ _
      rw [zR, gRx 608 _ (by decide), gRx 609 _ (by decide)]; exact h89
    · show hp_R ζ 300 _ = _
      rw [zR, gRx 300 _ (by decide)]; exact h926
    · show hp_R ζ 300 _ = _
      rw [zR, gRx 300 _ (by decide)]; exact h928
    · unfold HDX at h ⊢
      rw [hdl_e (σ := σ) (τ := υ) (ff0.1 682 (by decide)) (fun j => ff0.2 49 (by decide) j)]
      show RWL ζ (hp_R ζ 608 x) _
      rw [zR, gRx 608 _ (by decide), ← hU]
      rw [← hU] at h
      exact hUd _ h ζ (by rw [zR]; exact hU3) (by rw [zI 301 _ (by decide), eI, if_neg (fun z => absurd z.1 (by decide))]) (fun j => by rw [zE])
    · show hp_I ζ 204 _ = ms_I υ 668
      rw [zI 204 _ (by decide), eI, if_neg (fun z => absurd z.1 (by decide)), n8]; exact hB.2.1
    · show hp_I ζ 205 _ = ms_I υ 669
      rw [zI 205 _ (by decide), eI, if_neg (fun z => absurd z.1 (by decide)), n9, if_neg (by omega)]; exact hB.2.2
    · show hp_R ζ φ b = _
      rw [zR, gR φ b (fun z => q ⟨z.2, z.1⟩)]
    · show hp_I ζ φ b = _
      rw [z2, hI_sI, if_neg (fun z => p ⟨z.2, Or.inl z.1⟩), eI, if_neg (fun z => p ⟨z.2, Or.inr z.1⟩), dI φ b (fun z => q ⟨z.1, by omega⟩) (by omega), gI φ b (by omega)]
    · show hp_E ζ κ b j = _
      rw [zE, dE κ b j (fun z => p ⟨z.1, by omega⟩) (by omega), gE]
  · replace v1 : v = 1 := v1
    subst v1
    replace hRy : RWL δ V yl := hRy
    replace hKF : KF (x + 944) γ δ := hKF
    rw [if_pos (by rw [e670, h670]; decide)] at e
    obtain ⟨p1, p2, p3, p4⟩ := v_hear_169 n yl.length mI gI' hmI υ n 0 υ 0 (by decide) (Nat.zero_le _) fr_rf (fun j hj => absurd hj (Nat.not_lt_zero _)) res e
    refine ws_i (fun z => absurd z (by decide)) (fun _ => ws_l (ws_l ?_))
    rw [show hp_R ε 609 x = V by rw [eR, gRx 609 _ (by decide)]; exact hV.symm, show hp_R ε 608 x = U by rw [eR, gRx 608 _ (by decide)]; exact hU.symm]
    obtain ⟨ζ, hζ⟩ : ∃ z, z = hp_sR (hp_sR ε 608 x V) 609 x U := ⟨_, rfl⟩
    refine ws_ln (fun ε1 hε1 => ws_ln (fun ζ' hζ' => ?_))
    have hζζ : ζ' = ζ := by rw [hζ', hε1, hζ]
    rw [hζζ]
    clear hζζ hζ' ε1 hε1 ζ'
    have zR : ∀ φ b, hp_R ζ φ b = if φ = 609 ∧ b = x then U else if φ = 608 ∧ b = x then V else hp_R γ φ b := fun φ b => by rw [hζ, hR_sR, hR_sR, eR]
    have zRn : ∀ φ b, ¬ (b = x ∧ (φ = 608 ∨ φ = 609)) → hp_R ζ φ b = hp_R γ φ b := fun φ b hb => by rw [zR, if_neg (fun h => hb ⟨h.2, Or.inr h.1⟩), if_neg (fun h => hb ⟨h.2, Or.inl h.1⟩)]
    have zI : hp_I ζ = hp_I ε := by rw [hζ]; rfl
    have zE : hp_E ζ = hp_E δ := by rw [hζ]; exact eE
    have z608 : hp_R ζ 608 x = V := by rw [zR, if_neg (fun h => absurd h.1 (by decide)), if_pos ⟨rfl, rfl⟩]
    have z609 : hp_R ζ 609 x = U := by rw [zR, if_pos ⟨rfl, rfl⟩]
    refine ws_l ?_
    rw [z608]
    have zV3 : hp_R ζ 300 V = V + 1 := by rw [zRn 300 V (by omega)]; exact hV3
    have dV3 : hp_R δ 300 V = V + 1 := by rw [dR]; exact hV3
    have hRζ : RWL ζ V yl := ⟨hRy.1, by rw [zI, eI, if_neg (fun z => absurd z.1 (by decide))]; exact hRy.2.1, fun k hk => by rw [zV3, zE, ← dV3]; exact hRy.2.2 k hk⟩
    refine ws_b (k_countOf n hn hRζ) (fun r hr => ws_hc (k_answer n ζ x r) (fun v2 η hη => ws_s ?_))
    obtain ⟨y1, y2⟩ := hη
    replace y1 : v2 = r := y1
    replace y2 : η = hp_sI ζ 600 x 0 := y2
    have yR : ∀ φ b, hp_R η φ b = hp_R ζ φ b := fun φ b => by rw [y2]; rfl
    have yI : ∀ φ b, φ ≠ 600 → hp_I η φ b = hp_I ε φ b := fun φ b hφ => by rw [y2, hI_sI, if_neg (fun z => hφ z.1), zI]
    have yE : hp_E η = hp_E δ := by rw [y2]; exact zE
    have h682 : ms_I res.2 682 = mI := p2
    have hhd : hdl res.2 = yl := by
      unfold hdl
      rw [h682, show mI.toInt.toNat = yl.length by omega]
      refine List.ext_getElem (by rw [List.length_map, List.length_range]) (fun i g1 g2 => ?_)
      rw [List.getElem_map, List.getElem_range]
      have q1 := p3 i g2
      have q2 := hWy i g2
      rw [List.getElem?_eq_getElem g2] at q2
      rw [q1, fυ.2 50 (by decide) i]
      exact Option.some.inj q2
    have e7 : ms_I res.2 667 = 0 := by rw [p4.1 667 (by decide)]; exact n7
    have f2 : fr hew [42, 43, 44, 49, 50] σ res.2 := fr_tr ff (fr_sb p4 (by decide) (by decide))
    refine ⟨?_, ⟨?_, fun j hj => ?_⟩, ⟨?_, ?_, ?_, ?_⟩, fun _ => ?_, fun _ => ⟨?_, ?_⟩, ⟨fun φ b p q => ?_, ?_, ?_, ?_, fun φ b p q r => ?_, fun κ b j p q => ?_⟩, f2⟩
    · show v2 = res.1
      rw [y1, p1]
      exact Int32.toInt_inj.mp (by rw [hr, hgI])
    · show hp_I η 605 x = _
      rw [yI 605 x (by decide), eI, if_pos ⟨rfl, rfl⟩, e7]
    · rw [e7, lt0] at hj; omega
    · obtain ⟨⟨r1, r2, r3⟩, r4, r5, r6, r7, r8, r9⟩ := hSγ
      have q : ∀ φ b, ¬ b = x → hp_R η φ b = hp_R γ φ b := fun φ b hb => by rw [yR, zRn φ b (fun z => hb z.1)]
      exact ⟨⟨by rw [q 200 _ (by omega)]; exact r1, by rw [q 207 _ (by omega)]; exact r2, by rw [q 500 _ (by omega)]; exact r3⟩, by rw [q 201 _ (by omega)]; exact r4, by rw [q 300 _ (by omega)]; exact r5, by rw [q 202 _ (by omega)]; exact r6, by rw [q 450 _ (by omega)]; exact r7, by rw [q 451 _ (by omega)]; exact r8, by rw [q 452 _ (by omega)]; exact r9⟩
    · show (hp_R η 608 x = _ ∧ _) ∨ _
      rw [yR, yR, z608, z609]; omega
    · show hp_R η 300 _ = _
      rw [yR, zRn 300 _ (by omega), gRx 300 _ (by decide)]; exact h926
    · show hp_R η 300 _ = _
      rw [yR, zRn 300 _ (by omega), gRx 300 _ (by decide)]; exact h928
    · unfold HDX
      show RWL η (hp_R η 608 x) _
      rw [hhd, yR, z608, y2]
      exact RWL_st hRζ
    · show hp_I η 204 _ = ms_I res.2 668
      rw [yI 204 _ (by decide), eI, if_neg (fun z => absurd z.1 (by decide)), hKF.1, g2, p4.1 668 (by decide), n8, h670]
    · show hp_I η 205 _ = ms_I res.2 669
      rw [yI 205 _ (by decide), eI, if_neg (fun z => absurd z.1 (by decide)), hKF.2, g3, p4.1 669 (by decide), n9, if_pos (by rw [h670]; decide)]
    · show hp_R η φ b = _
      rw [yR, zRn φ b p, gR φ b (fun z => q ⟨z.2, z.1⟩)]
    · show hp_K η = _
      rw [y2]
      show hp_K ζ = _
      rw [hζ]; exact eK
    · show hp_Q η = _
      rw [y2]
      show hp_Q ζ = _
      rw [hζ]; exact eQ
    · show hp_N η = _
      rw [y2]
      show hp_N ζ = _
      rw [hζ]; exact eN
    · show hp_I η φ b = _
      rw [y2, hI_sI, if_neg (fun z => p ⟨z.2, Or.inl z.1⟩), zI, eI, if_neg (fun z => p ⟨z.2, Or.inr z.1⟩), dI φ b (fun z => q ⟨z.1, by omega⟩) (by omega), gI φ b (by omega)]
    · show hp_E η κ b j = _
      rw [yE, dE κ b j (fun z => p ⟨z.1, by omega⟩) (by omega), gE]
/-! ===== marks of the class ===== -/
theorem k_isMark (n : Nat) {α : hp_T} {x w : Nat} {m : Int32} (h1 : hp_R α 601 x = w) (hm : hp_I α 550 w = m) (a : Int32) : ws (f_X11_isMark n α x a) (fun r => bo r (0 ≤ a.toInt ∧ a.toInt < m.toInt)) := by
  unfold f_X11_isMark
  refine ws_lt (fun e => ws_s (Or.inr ⟨rfl, fun q => by rw [lt0] at e; omega⟩)) (fun e => ws_l (ws_l ?_))
  rw [h1, hm]
  rw [lt0] at e
  exact ws_le (fun e2 => ws_s (Or.inr ⟨rfl, fun q => by omega⟩)) (fun e2 => ws_s (Or.inl ⟨rfl, e, e2⟩))
/-! ===== head ===== -/
theorem v_noSize (n : Nat) (σ : ms_T) (hC : rC (ms_E σ 40)) (a b : Int32) : pr (f_X12_noSize n σ a b) (fun v => (v = 0 ∧ 0 ≤ b.toInt ∧ (0 ≤ a.toInt ∧ a.toInt < (ms_E σ 40 0).toInt) ∧ b.toInt ≤ (ms_E σ 40 (72 + a.toInt.toNat)).toInt) ∨ (¬ v = 0 ∧ ¬ (0 ≤ b.toInt ∧ (0 ≤ a.toInt ∧ a.toInt < (ms_E σ 40 0).toInt) ∧ b.toInt ≤ (ms_E σ 40 (72 + a.toInt.toNat)).toInt))) := by
  have h4 := hC.1
  unfold f_X12_noSize
  refine pr_le (fun e => pr_bo (pr_w (s_isRecord hC a)) (fun h0 => pr_s (Or.inr ⟨by decide, fun q => h0 q.2.1⟩)) (fun h1 => ?_)) (fun e => pr_s (Or.inr ⟨by decide, fun q => by rw [lt0] at e; omega⟩))
  rw [lt0] at e
  unfold f_X12_sizeOf
  refine pr_b (T := fun v => v = ms_E σ 40 (72 + a.toInt.toNat)) (pr_g (fun g0 g1 => pr_s ?_)) (fun v hv => ?_)
  · rw [cl_n (i := (72 : Int32) + a) (k := 72 + a.toInt.toNat) (by rw [iw_add, t_72]; omega)]
  · rw [hv]
    exact pr_le (fun e2 => pr_s (Or.inl ⟨rfl, e, h1, e2⟩)) (fun e2 => pr_s (Or.inr ⟨by decide, fun q => by omega⟩))
abbrev hdOK (f : Nat → Int32) (a b : Int32) : Prop := 0 ≤ b.toInt ∧ (0 ≤ a.toInt ∧ a.toInt < (f 0).toInt) ∧ b.toInt ≤ (f (72 + a.toInt.toNat)).toInt
/-! ===== include, grow, peaks: what is asked for comes onto the pad ===== -/
theorem wyT_in : ∀ (e i f m : Nat), i < m → ∀ q ∈ wyT e i f m, q.1 + q.2.1 ≤ f + m := by
  intro e
  induction e with
  | zero => intro i f m _ q hq; rw [wyT] at hq; exact absurd hq List.not_mem_nil
  | succ e ih =>
    intro i f m him q hq
    rw [wyT] at hq
    by_cases h1 : m ≤ 1
    · rw [if_pos h1] at hq; exact absurd hq List.not_mem_nil
    · rw [if_neg h1] at hq
      have hp1 := p0_lt (m := m) (by omega)
      by_cases h2 : i < p0 m
      · rw [if_pos h2] at hq
        rcases List.mem_cons.mp hq with h | h
        · rw [h]; show f + p0 m + (m - p0 m) ≤ _; omega
        · have := ih _ _ _ h2 q h; omega
      · rw [if_neg h2] at hq
        rcases List.mem_cons.mp hq with h | h
        · rw [h]; show f + p0 m ≤ _; omega
        · have := ih (i - p0 m) (f + p0 m) (m - p0 m) (by omega) q h; omega
theorem wyT_rin {N I : Nat} (h : I < N) : ∀ q ∈ (wyT 31 I 0 N).reverse, q.1 + q.2.1 ≤ N := fun q hq => by
  have := wyT_in 31 I 0 N h q (List.mem_reverse.mp hq)
  omega
theorem pdl_eq {f : Nat → Int32} {l : List Int32} (h2 : (f 2).toInt = (l.length : Int)) (h : ∀ k, k < l.length → some (f (8 + k)) = l[k]?) : pdl f = l := by
  refine List.ext_getElem? (fun k => ?_)
  unfold pdl
  by_cases hk : k < l.length
  · rw [List.getElem?_map, List.getElem?_range (by omega)]
    exact h k hk
  · rw [List.getElem?_eq_none (by rw [List.length_map, List.length_range]; omega), List.getElem?_eq_none (by omega)]
theorem v_pads_L (n L : Nat) (hL : L ≤ 64) (f44 : Nat → Int32) : ∀ (k : Nat) (σ : ms_T) (v : Nat) (vI : Int32), vI.toInt = (v : Int) → v ≤ L → (ms_I σ 657).toInt = (L : Int) → (∀ j, j < L → ms_E σ 44 j = f44 j) → (∀ j, j < v → ms_E σ 40 (8 + j) = f44 j) → pr (f_X12_pads_L7 n k σ vI) (fun res => res.1.toInt = (L : Int) ∧ (ms_E res.2 40 2).toInt = (L : Int) ∧ ∀ j, j < L → ms_E res.2 40 (8 + j) = f44 j) := by
  intro k
  induction k with
  | zero => intro σ v vI _ _ _ _ _; rw [f_X12_pads_L7.eq_1]; exact pr_0
  | succ k ih =>
    intro σ v vI hv hvl h7 h44 hc
    have c2 : ((2 : Int32)).toNatClampNeg = 2 := by decide
    rw [f_X12_pads_L7.eq_2, c2]
    refine pr_le (fun e => pr_g (fun _ _ => pr_l (pr_s ⟨h7, ?_, fun j hj => ?_⟩))) (fun e => pr_g (fun g0 g1 => pr_g (fun _ _ => pr_l (pr_l ?_))))
    · show (ms_E (ms_sE σ 40 2 (ms_I σ 657)) 40 2).toInt = _
      rw [mE_sE, if_pos ⟨rfl, rfl⟩]; exact h7
    · show ms_E (ms_sE σ 40 2 (ms_I σ 657)) 40 (8 + j) = _
      rw [mE_sE, if_neg (fun q => by omega)]
      exact hc j (by omega)
    · have ec : ((8 : Int32) + vI).toNatClampNeg = 8 + v := cl_n (by rw [iw_add, t_8]; omega)
      have e1 : (vI + 1).toInt = ((v + 1 : Nat) : Int) := by rw [iw_add, lt1]; omega
      rw [ec, cl_n hv]
      refine ih _ (v + 1) _ e1 (by omega) h7 (fun j hj => ?_) (fun j hj => ?_)
      · rw [mE_sE, if_neg (fun q => absurd q.1 (by decide))]; exact h44 j hj
      · rw [mE_sE]
        by_cases ej : j = v
        · rw [if_pos ⟨rfl, by omega⟩, ej]; exact h44 v (by omega)
        · rw [if_neg (fun q => by omega)]; exact hc j (by omega)
theorem v_pads (n : Nat) (σ : ms_T) (hC : rC (ms_E σ 40)) (r : Nat) (hr : r < 4) (rI : Int32) (hrI : rI.toInt = (r : Int)) (l : List (Nat × Nat × Bool)) (hW : WS σ l) (hl : l.length ≤ 64) (hin : ∀ q ∈ l, q.1 + q.2.1 ≤ (EL (ms_E σ 40) r).length) : pr (f_X12_pads n σ rI) (fun res => res.1.toInt = (l.length : Int) ∧ pdl (ms_E res.2 40) = mkl (ms_E σ 40 1) (EL (ms_E σ 40) r) l) := by
  unfold f_X12_pads
  refine pr_b (v_fetches n σ hC r hr rI hrI l hW hin) (fun τ hτ => ?_)
  obtain ⟨h1, h2, h3⟩ := hτ
  refine pr_m (v_pads_L n l.length hl (fun j => ms_E τ 44 j) n τ 0 0 rfl (Nat.zero_le _) h2.1 (fun j _ => rfl) (fun j hj => by omega)) (fun res hr => ⟨hr.1, pdl_eq (by rw [mkl_len]; exact hr.2.1) (fun k hk => ?_)⟩)
  rw [mkl_len] at hk
  rw [hr.2.2 k hk]
  exact h1 k (by rw [mkl_len]; exact hk)
abbrev inOK (f : Nat → Int32) (a i m : Int32) : Prop := (0 ≤ i.toInt ∧ 0 ≤ m.toInt) ∧ (0 ≤ a.toInt ∧ a.toInt < (f 0).toInt) ∧ m.toInt ≤ (f (72 + a.toInt.toNat)).toInt ∧ i.toInt < m.toInt
theorem v_noEntry (n : Nat) (σ : ms_T) (hC : rC (ms_E σ 40)) (a i m : Int32) : pr (f_X12_noEntry n σ a i m) (fun v => (v = 0 ∧ inOK (ms_E σ 40) a i m) ∨ (¬ v = 0 ∧ ¬ inOK (ms_E σ 40) a i m)) := by
  have h4 := hC.1
  unfold f_X12_noEntry f_X12_noEntry_J8 f_X12_noEntry_J38
  refine pr_lt (fun e => pr_s (Or.inr ⟨by decide, fun q => by rw [lt0] at e; have := q.1.1; omega⟩)) (fun e => pr_le (fun e2 => ?_) (fun e2 => pr_s (Or.inr ⟨by decide, fun q => by rw [lt0] at e2; have := q.1.2; omega⟩)))
  rw [lt0] at e e2
  refine pr_bo (pr_w (s_isRecord hC a)) (fun h0 => pr_s (Or.inr ⟨by decide, fun q => h0 q.2.1⟩)) (fun h1 => ?_)
  unfold f_X12_sizeOf
  refine pr_b (T := fun v => v = ms_E σ 40 (72 + a.toInt.toNat)) (pr_g (fun g0 g1 => pr_s ?_)) (fun v hv => ?_)
  · rw [cl_n (i := (72 : Int32) + a) (k := 72 + a.toInt.toNat) (by rw [iw_add, t_72]; omega)]
  · rw [hv]
    exact pr_lt (fun e3 => pr_s (Or.inr ⟨by decide, fun q => by have := q.2.2.1; omega⟩)) (fun e3 => pr_lt (fun e4 => pr_s (Or.inl ⟨rfl, ⟨e, e2⟩, h1, e3, e4⟩)) (fun e4 => pr_s (Or.inr ⟨by decide, fun q => by have := q.2.2.2; omega⟩)))
def inL (f : Nat → Int32) (a i m : Int32) : List Int32 := mkl (f 1) (EL f a.toInt.toNat) (wyT 31 i.toInt.toNat 0 m.toInt.toNat).reverse
def inA (f : Nat → Int32) (a i m : Int32) : Int := if inOK f a i m then ((wyT 31 i.toInt.toNat 0 m.toInt.toNat).length : Int) else -1
theorem v_include (n : Nat) (σ : ms_T) (hC : rC (ms_E σ 40)) (a i m : Int32) : pr (f_X12_include n σ a i m) (fun res => res.1.toInt = inA (ms_E σ 40) a i m ∧ pdl (ms_E res.2 40) = if inOK (ms_E σ 40) a i m then inL (ms_E σ 40) a i m else pdl (ms_E σ 40)) := by
  have h4 := hC.1
  unfold f_X12_include inA
  refine pr_b (v_noEntry n σ hC a i m) (fun v hv => ?_)
  rcases hv with ⟨rfl, ok⟩ | ⟨hv, no⟩
  · rw [if_pos ok, if_pos ok]
    have hsz := hC.2.2.2.2.1 a.toInt.toNat (by omega)
    refine v_is0 n σ ?_
    obtain ⟨τ0, hτ0⟩ : ∃ τ, τ = ms_sI (ms_sI σ 653 0) 652 0 := ⟨_, rfl⟩
    have e0 : ms_E τ0 40 = ms_E σ 40 := by rw [hτ0]; rfl
    rw [← hτ0]
    refine pr_b (fun τ hτ => (⟨v_inclusion n τ0 i m ok.1.1 ok.2.2.2 τ hτ, z_X12_inclusion kq_rf τ hτ⟩ : WS τ _ ∧ kq τ0 τ)) (fun τ hτ => ?_)
    obtain ⟨hW, hk⟩ := hτ
    have e1 : ms_E τ 40 = ms_E σ 40 := by rw [show ms_E τ 40 = ms_E τ0 40 from funext (fun j => hk.2 40 rfl j), e0]
    refine pr_c (v_pads n τ (by rw [e1]; exact hC) a.toInt.toNat (by omega) a (by omega) _ hW (by rw [List.length_reverse]; exact Nat.le_trans (wyT_len _ _ _ _) (by decide)) (fun q hq => ?_)) (fun r υ hr => pr_s ⟨?_, ?_⟩)
    · have := wyT_rin (N := m.toInt.toNat) (I := i.toInt.toNat) (by omega) q hq
      rw [e1, EL_len]; omega
    · have h1 := hr.1
      rw [List.length_reverse] at h1
      exact h1
    · have h2 := hr.2
      rw [e1] at h2
      exact h2
  · rw [if_neg no, if_neg no]
    exact v_is1 n σ v hv (pr_s ⟨rfl, rfl⟩)
/-- what a call that writes the pad may change -/
def pfr (x : Nat) (α β : hp_T) : Prop := hp_R β = hp_R α ∧ hp_K β = hp_K α ∧ hp_Q β = hp_Q α ∧ hp_N β = hp_N α ∧ (∀ φ b, ¬ (φ = 301 ∧ b = x + 919) → φ ≠ 453 → φ ≠ 454 → φ ≠ 600 → hp_I β φ b = hp_I α φ b) ∧ ∀ κ b j, ¬ (κ = 20 ∧ b = x + 920) → κ ≠ 21 → κ ≠ 22 → κ ≠ 23 → κ ≠ 33 → hp_E β κ b j = hp_E α κ b j
theorem pfr_tr {x : Nat} {α β γ : hp_T} (h : pfr x α β) (g : pfr x β γ) : pfr x α γ := by
  obtain ⟨h1, h2, h3, h4, h5, h6⟩ := h
  obtain ⟨g1, g2, g3, g4, g5, g6⟩ := g
  exact ⟨g1.trans h1, g2.trans h2, g3.trans h3, g4.trans h4, fun φ b q1 q2 q3 q4 => (g5 φ b q1 q2 q3 q4).trans (h5 φ b q1 q2 q3 q4), fun κ b j q1 q2 q3 q4 q5 => (g6 κ b j q1 q2 q3 q4 q5).trans (h6 κ b j q1 q2 q3 q4 q5)⟩
theorem pfr_wf {x a : Nat} {α β : hp_T} (h : wf a α β) : pfr x α β := by
  obtain ⟨h1, h2, h3, h4, h5, h6⟩ := h
  exact ⟨h1, h2, h3, h4, fun φ b _ q2 q3 _ => h5 φ b (fun z => by omega), fun κ b j _ q2 q3 q4 _ => h6 κ b j (fun z => by omega)⟩
theorem pfr_qf {x w : Nat} {α β : hp_T} (h : qf w (x + 919) α β) (h3 : hp_R α 300 (x + 919) = x + 920) : pfr x α β := by
  obtain ⟨h1, h2, h3', h4, h5, h6⟩ := h
  exact ⟨h1, h2, h3', h4, fun φ b q1 _ _ _ => h5 φ b (fun z => q1 ⟨z.2, z.1⟩), fun κ b j q1 _ _ _ q5 => h6 κ b j (fun z => q5 z.1) (fun z => q1 ⟨z.1, by rw [z.2, h3]⟩)⟩
theorem pfr_st {x a : Nat} {α : hp_T} {v : Int32} : pfr x α (hp_sI α 600 a v) := ⟨rfl, rfl, rfl, rfl, fun φ b _ _ _ q4 => by rw [hI_sI, if_neg (fun z => q4 z.1)], fun _ _ _ _ _ _ _ _ => rfl⟩
theorem WR_wf {α β : hp_T} {w a : Nat} {f : Nat → Int32} (h : WR α w f) (hC : rC f) (g : wf a α β) : WR β w f :=
  WR_f h hC g.1 g.2.2.1 (fun φ b _ _ hφ => g.2.2.2.2.1 φ b (fun z => by omega)) (fun κ b j _ _ hκ => g.2.2.2.2.2 κ b j (fun z => by omega))
theorem k_include (n : Nat) (hn : 70000 ≤ n) (α : hp_T) (x : Nat) (f : Nat → Int32) (hC : rC f) (h : RWX α x f) (h6 : hp_R α 603 x = x + 919) (h3 : hp_R α 300 (x + 919) = x + 920) (pl : List Int32) (hP : RWL α (x + 919) pl) (a i m : Int32) : ws (f_X11_include n α x a i m) (fun res => res.1.toInt = inA f a i m ∧ RWL res.2 (x + 919) (if inOK f a i m then inL f a i m else pl) ∧ pfr x α res.2) := by
  obtain ⟨w, u, h1, h2, -, h4, -⟩ := h
  have hm0 := hC.2.1
  have h44 := hC.1
  have bad : ∀ v : Int32, ¬ inOK f a i m → ws (hq_c (f_X11_refuse n α x v) fun r β => some (r, β)) (fun res => res.1.toInt = inA f a i m ∧ RWL res.2 (x + 919) (if inOK f a i m then inL f a i m else pl) ∧ pfr x α res.2) := fun v hno => by
    unfold inA
    rw [if_neg hno, if_neg hno]
    refine ws_hc (k_refuse n α x v) (fun z γ hz => ws_s ⟨by rw [show z = -1 from hz.1]; rfl, ?_, ?_⟩)
    · rw [show γ = hp_sI α 600 x v from hz.2]; exact RWL_st hP
    · rw [show γ = hp_sI α 600 x v from hz.2]; exact pfr_st
  unfold f_X11_include f_X11_wrongInclusion f_X11_wrongInclusions_J29
  refine ws_l ?_
  rw [h1]
  refine ws_b (k_logAt n h4 hC a) (fun o ho => ?_)
  by_cases hr : 0 ≤ a.toInt ∧ a.toInt < (f 0).toInt
  · rw [if_pos hr] at ho
    subst ho
    have q152 := (h4.2.2.1 a.toInt.toNat (by omega)).1
    have hsz := hC.2.2.2.2.1 a.toInt.toNat (by omega)
    refine ws_hS ?_
    refine ws_b (S := fun v => (v = 0 ∧ inOK f a i m) ∨ (¬ v = 0 ∧ ¬ inOK f a i m)) (ws_hS (ws_lt (fun e => ws_s (Or.inr ⟨by decide, fun q => by rw [lt0] at e; have := q.1.1; omega⟩)) (fun e => ws_le (fun e2 => ws_l ?_) (fun e2 => ws_s (Or.inr ⟨by decide, fun q => by rw [lt0] at e2; have := q.1.2; omega⟩))))) (fun v hv => ?_)
    · rw [lt0] at e e2
      rw [q152]
      exact ws_lt (fun e3 => ws_s (Or.inr ⟨by decide, fun q => by have := q.2.2.1; omega⟩)) (fun e3 => ws_lt (fun e4 => ws_s (Or.inl ⟨rfl, ⟨e, e2⟩, hr, e3, e4⟩)) (fun e4 => ws_s (Or.inr ⟨by decide, fun q => by have := q.2.2.2; omega⟩)))
    · rcases hv with ⟨rfl, ok⟩ | ⟨hv, no⟩
      · refine ws_i (fun _ => ws_l ?_) (fun q => absurd rfl q)
        have ok1 := ok.1
        have ok3 := ok.2.2
        refine ws_b (k_toThing n hn α _ i m ok1.1 ok3.2) (fun β hβ => ws_l (ws_l (ws_l ?_)))
        obtain ⟨hWC, hwf⟩ := hβ
        have hWβ := WR_wf h4 hC hwf
        rw [hwf.1, h1, h6]
        have hPβ : RWL β (x + 919) pl := RWL_wf hP hwf
        refine ws_b (k_marksAlong n hn w (x + 919) _ β (f 1) (by omega) hWβ.2.1.1 (lpA w a.toInt.toNat) (EL f a.toInt.toNat) (WR_LM hWβ hC (by omega)) _ hWC (by rw [List.length_reverse]; exact Nat.le_trans (wyT_len _ _ _ _) (by decide)) (fun q hq => ?_) pl hPβ) (fun γ hγ => ws_l (ws_l ?_))
        · have := wyT_rin (N := m.toInt.toNat) (I := i.toInt.toNat) (by omega) q hq
          rw [EL_len]; omega
        · obtain ⟨hR, hq⟩ := hγ
          have e6 : hp_R γ 603 x = x + 919 := by rw [hq.1, hwf.1]; exact h6
          rw [e6]
          refine ws_hc (k_answer n γ x _) (fun z δ hz => ws_s ⟨?_, ?_, ?_⟩)
          · unfold inA
            rw [if_pos ok, show z = hp_I γ 301 (x + 919) from hz.1, hR.2.1, mkl_len, List.length_reverse]
          · rw [if_pos ok, show δ = hp_sI γ 600 x 0 from hz.2]; exact RWL_st hR
          · rw [show δ = hp_sI γ 600 x 0 from hz.2]
            exact pfr_tr (pfr_wf hwf) (pfr_tr (pfr_qf hq (by rw [hwf.1]; exact h3)) pfr_st)
      · exact ws_i (fun q => absurd q hv) (fun _ => bad v no)
  · rw [if_neg hr] at ho
    subst ho
    refine ws_hN ?_
    refine ws_b (S := fun v => ¬ v = 0) (ws_hN (ws_lt (fun e => ws_s (by decide)) (fun _ => ws_le (fun e => ws_s (by decide)) (fun e => ws_s (by decide))))) (fun v hv => ?_)
    exact ws_i (fun q => absurd q hv) (fun _ => bad v (fun q => hr q.2.1))
/-! grow -/
abbrev grOK (f : Nat → Int32) (a i m : Int32) : Prop := (0 ≤ i.toInt ∧ i.toInt ≤ m.toInt) ∧ (0 ≤ a.toInt ∧ a.toInt < (f 0).toInt) ∧ m.toInt ≤ (f (72 + a.toInt.toNat)).toInt
def grL (f : Nat → Int32) (a i m : Int32) : List Int32 := mkl (f 1) (EL f a.toInt.toNat) (wyH i.toInt.toNat m.toInt.toNat).reverse
def grA (f : Nat → Int32) (a i m : Int32) : Int := if grOK f a i m then ((wyH i.toInt.toNat m.toInt.toNat).length : Int) else -1
theorem v_grow (n : Nat) (σ : ms_T) (hC : rC (ms_E σ 40)) (a i m : Int32) : pr (f_X12_grow n σ a i m) (fun res => res.1.toInt = grA (ms_E σ 40) a i m ∧ pdl (ms_E res.2 40) = if grOK (ms_E σ 40) a i m then grL (ms_E σ 40) a i m else pdl (ms_E σ 40)) := by
  have h4 := hC.1
  have bad : ∀ v : Int32, ¬ v = 0 → ¬ grOK (ms_E σ 40) a i m → pr (f_X12_grow_J20 n σ a i m v) (fun res => res.1.toInt = grA (ms_E σ 40) a i m ∧ pdl (ms_E res.2 40) = if grOK (ms_E σ 40) a i m then grL (ms_E σ 40) a i m else pdl (ms_E σ 40)) := fun v hv hno => by
    unfold f_X12_grow_J20 grA
    rw [if_neg hno, if_neg hno]
    exact v_is1 n σ v hv (pr_s ⟨rfl, rfl⟩)
  unfold f_X12_grow f_X12_grow_J10
  refine pr_lt (fun e => bad 1 (by decide) (fun q => by rw [lt0] at e; have := q.1.1; omega)) (fun e => pr_le (fun e2 => ?_) (fun e2 => bad 1 (by decide) (fun q => by have := q.1.2; omega)))
  rw [lt0] at e
  refine pr_b (v_noSize n σ hC a m) (fun v hv => ?_)
  rcases hv with ⟨rfl, ok0⟩ | ⟨hv, no⟩
  · have ok : grOK (ms_E σ 40) a i m := ⟨⟨e, e2⟩, ok0.2.1, ok0.2.2⟩
    unfold f_X12_grow_J20 grA
    rw [if_pos ok, if_pos ok]
    have hsz := hC.2.2.2.2.1 a.toInt.toNat (by omega)
    refine v_is0 n σ ?_
    obtain ⟨τ0, hτ0⟩ : ∃ τ, τ = ms_sI (ms_sI σ 653 0) 652 0 := ⟨_, rfl⟩
    have e0 : ms_E τ0 40 = ms_E σ 40 := by rw [hτ0]; rfl
    rw [← hτ0]
    refine pr_b (fun τ hτ => (⟨v_growth n τ0 i m e e2 τ hτ, z_X12_growth kq_rf τ hτ⟩ : WS τ _ ∧ kq τ0 τ)) (fun τ hτ => ?_)
    obtain ⟨hW, hk⟩ := hτ
    have e1 : ms_E τ 40 = ms_E σ 40 := by rw [show ms_E τ 40 = ms_E τ0 40 from funext (fun j => hk.2 40 rfl j), e0]
    refine pr_c (v_pads n τ (by rw [e1]; exact hC) a.toInt.toNat (by omega) a (by omega) _ hW (by rw [List.length_reverse]; exact Nat.le_trans (wyH_len _ _) (by decide)) (fun q hq => ?_)) (fun r υ hr => pr_s ⟨?_, ?_⟩)
    · have := wyH_in i.toInt.toNat m.toInt.toNat (by omega) q hq
      rw [e1, EL_len]; omega
    · have h1 := hr.1
      rw [List.length_reverse] at h1
      exact h1
    · have h2 := hr.2
      rw [e1] at h2
      exact h2
  · exact bad v hv (fun q => no ⟨by omega, q.2.1, q.2.2⟩)
theorem k_grow (n : Nat) (hn : 70000 ≤ n) (α : hp_T) (x : Nat) (f : Nat → Int32) (hC : rC f) (h : RWX α x f) (h6 : hp_R α 603 x = x + 919) (h3 : hp_R α 300 (x + 919) = x + 920) (pl : List Int32) (hP : RWL α (x + 919) pl) (a i m : Int32) : ws (f_X11_grow n α x a i m) (fun res => res.1.toInt = grA f a i m ∧ RWL res.2 (x + 919) (if grOK f a i m then grL f a i m else pl) ∧ pfr x α res.2) := by
  obtain ⟨w, u, h1, h2, -, h4, -⟩ := h
  have hm0 := hC.2.1
  have h44 := hC.1
  have bad : ∀ v : Int32, ¬ grOK f a i m → ws (hq_c (f_X11_refuse n α x v) fun r β => some (r, β)) (fun res => res.1.toInt = grA f a i m ∧ RWL res.2 (x + 919) (if grOK f a i m then grL f a i m else pl) ∧ pfr x α res.2) := fun v hno => by
    unfold grA
    rw [if_neg hno, if_neg hno]
    refine ws_hc (k_refuse n α x v) (fun z γ hz => ws_s ⟨by rw [show z = -1 from hz.1]; rfl, ?_, ?_⟩)
    · rw [show γ = hp_sI α 600 x v from hz.2]; exact RWL_st hP
    · rw [show γ = hp_sI α 600 x v from hz.2]; exact pfr_st
  unfold f_X11_grow f_X11_wrongGrowth
  refine ws_l ?_
  rw [h1]
  refine ws_b (k_logAt n h4 hC a) (fun o ho => ?_)
  by_cases hr : 0 ≤ a.toInt ∧ a.toInt < (f 0).toInt
  · rw [if_pos hr] at ho
    subst ho
    have q152 := (h4.2.2.1 a.toInt.toNat (by omega)).1
    have hsz := hC.2.2.2.2.1 a.toInt.toNat (by omega)
    refine ws_hS ?_
    refine ws_b (S := fun v => (v = 0 ∧ grOK f a i m) ∨ (¬ v = 0 ∧ ¬ grOK f a i m)) (ws_hS (ws_lt (fun e => ws_s (Or.inr ⟨by decide, fun q => by rw [lt0] at e; have := q.1.1; omega⟩)) (fun e => ws_le (fun e2 => ws_l ?_) (fun e2 => ws_s (Or.inr ⟨by decide, fun q => by have := q.1.2; omega⟩))))) (fun v hv => ?_)
    · rw [lt0] at e
      rw [q152]
      exact ws_le (fun e3 => ws_s (Or.inl ⟨rfl, ⟨e, e2⟩, hr, e3⟩)) (fun e3 => ws_s (Or.inr ⟨by decide, fun q => by have := q.2.2; omega⟩))
    · rcases hv with ⟨rfl, ok⟩ | ⟨hv, no⟩
      · refine ws_i (fun _ => ws_l ?_) (fun q => absurd rfl q)
        have ok1 := ok.1
        have ok3 := ok.2.2
        refine ws_b (k_toGrowth n hn α _ i m ok1.1 ok1.2) (fun β hβ => ws_l (ws_l (ws_l ?_)))
        obtain ⟨hWC, hwf⟩ := hβ
        have hWβ := WR_wf h4 hC hwf
        rw [hwf.1, h1, h6]
        have hPβ : RWL β (x + 919) pl := RWL_wf hP hwf
        refine ws_b (k_marksAlong n hn w (x + 919) _ β (f 1) (by omega) hWβ.2.1.1 (lpA w a.toInt.toNat) (EL f a.toInt.toNat) (WR_LM hWβ hC (by omega)) _ hWC (by rw [List.length_reverse]; exact Nat.le_trans (wyH_len _ _) (by decide)) (fun q hq => ?_) pl hPβ) (fun γ hγ => ws_l (ws_l ?_))
        · have := wyH_in i.toInt.toNat m.toInt.toNat (by omega) q hq
          rw [EL_len]; omega
        · obtain ⟨hR, hq⟩ := hγ
          have e6 : hp_R γ 603 x = x + 919 := by rw [hq.1, hwf.1]; exact h6
          rw [e6]
          refine ws_hc (k_answer n γ x _) (fun z δ hz => ws_s ⟨?_, ?_, ?_⟩)
          · unfold grA
            rw [if_pos ok, show z = hp_I γ 301 (x + 919) from hz.1, hR.2.1, mkl_len, List.length_reverse]
          · rw [if_pos ok, show δ = hp_sI γ 600 x 0 from hz.2]; exact RWL_st hR
          · rw [show δ = hp_sI γ 600 x 0 from hz.2]
            exact pfr_tr (pfr_wf hwf) (pfr_tr (pfr_qf hq (by rw [hwf.1]; exact h3)) pfr_st)
      · exact ws_i (fun q => absurd q hv) (fun _ => bad v no)
  · rw [if_neg hr] at ho
    subst ho
    refine ws_hN ?_
    refine ws_b (S := fun v => ¬ v = 0) (ws_hN (ws_lt (fun e => ws_s (by decide)) (fun _ => ws_le (fun e => ws_s (by decide)) (fun e => ws_s (by decide))))) (fun v hv => ?_)
    exact ws_i (fun q => absurd q hv) (fun _ => bad v (fun q => hr q.2.1))
/-! peaks -/
def pkL (f : Nat → Int32) (a m : Int32) : List Int32 := mkl (f 1) (EL f a.toInt.toNat) (pks 6 m.toInt.toNat 0)
def pkA (f : Nat → Int32) (a m : Int32) : Int := if hdOK f a m then ((pks 6 m.toInt.toNat 0).length : Int) else -1
theorem v_peaks (n : Nat) (σ : ms_T) (hC : rC (ms_E σ 40)) (a m : Int32) : pr (f_X12_peaks n σ a m) (fun res => res.1.toInt = pkA (ms_E σ 40) a m ∧ pdl (ms_E res.2 40) = if hdOK (ms_E σ 40) a m then pkL (ms_E σ 40) a m else pdl (ms_E σ 40)) := by
  have h4 := hC.1
  unfold f_X12_peaks pkA
  refine pr_b (v_noSize n σ hC a m) (fun v hv => ?_)
  rcases hv with ⟨rfl, ok⟩ | ⟨hv, no⟩
  · have ok : hdOK (ms_E σ 40) a m := ok
    rw [if_pos ok, if_pos ok]
    have hsz := hC.2.2.2.2.1 a.toInt.toNat (by omega)
    refine v_is0 n σ ?_
    obtain ⟨τ0, hτ0⟩ : ∃ τ, τ = ms_sI (ms_sI σ 653 0) 652 0 := ⟨_, rfl⟩
    have e0 : ms_E τ0 40 = ms_E σ 40 := by rw [hτ0]; rfl
    rw [← hτ0]
    refine pr_b (v_peaksOf n τ0 m.toInt.toNat (by omega) m (by omega)) (fun τ hτ => ?_)
    obtain ⟨hW, hk⟩ := hτ
    have e1 : ms_E τ 40 = ms_E σ 40 := by rw [show ms_E τ 40 = ms_E τ0 40 from funext (fun j => hk.2 40 (by decide) j), e0]
    refine pr_c (v_pads n τ (by rw [e1]; exact hC) a.toInt.toNat (by omega) a (by omega) _ hW (Nat.le_trans (pks_len _ _ _) (by decide)) (fun q hq => ?_)) (fun r υ hr => pr_s ⟨hr.1, ?_⟩)
    · have := pks_in m.toInt.toNat (by omega) q hq
      rw [e1, EL_len]; omega
    · have h2 := hr.2
      rw [e1] at h2
      exact h2
  · have no : ¬ hdOK (ms_E σ 40) a m := no
    rw [if_neg no, if_neg no]
    exact v_is1 n σ v hv (pr_s ⟨rfl, rfl⟩)
theorem k_peaks (n : Nat) (hn : 70000 ≤ n) (α : hp_T) (x : Nat) (f : Nat → Int32) (hC : rC f) (h : RWX α x f) (h6 : hp_R α 603 x = x + 919) (h3 : hp_R α 300 (x + 919) = x + 920) (pl : List Int32) (hP : RWL α (x + 919) pl) (a m : Int32) : ws (f_X11_peaks n α x a m) (fun res => res.1.toInt = pkA f a m ∧ RWL res.2 (x + 919) (if hdOK f a m then pkL f a m else pl) ∧ pfr x α res.2) := by
  obtain ⟨w, u, h1, h2, -, h4, -⟩ := h
  have hm0 := hC.2.1
  have h44 := hC.1
  have bad : ∀ v : Int32, ¬ hdOK f a m → ws (hq_c (f_X11_refuse n α x v) fun r β => some (r, β)) (fun res => res.1.toInt = pkA f a m ∧ RWL res.2 (x + 919) (if hdOK f a m then pkL f a m else pl) ∧ pfr x α res.2) := fun v hno => by
    unfold pkA
    rw [if_neg hno, if_neg hno]
    refine ws_hc (k_refuse n α x v) (fun z γ hz => ws_s ⟨by rw [show z = -1 from hz.1]; rfl, ?_, ?_⟩)
    · rw [show γ = hp_sI α 600 x v from hz.2]; exact RWL_st hP
    · rw [show γ = hp_sI α 600 x v from hz.2]; exact pfr_st
  unfold f_X11_peaks f_X11_wrongGrowth
  refine ws_l ?_
  rw [h1]
  refine ws_b (k_logAt n h4 hC a) (fun o ho => ?_)
  by_cases hr : 0 ≤ a.toInt ∧ a.toInt < (f 0).toInt
  · rw [if_pos hr] at ho
    subst ho
    have q152 := (h4.2.2.1 a.toInt.toNat (by omega)).1
    have hsz := hC.2.2.2.2.1 a.toInt.toNat (by omega)
    refine ws_hS ?_
    refine ws_b (S := fun v => (v = 0 ∧ hdOK f a m) ∨ (¬ v = 0 ∧ ¬ hdOK f a m)) (ws_hS (ws_lt (fun e => absurd e (by decide)) (fun _ => ws_le (fun e => ws_l ?_) (fun e => ws_s (Or.inr ⟨by decide, fun q => by rw [lt0] at e; have := q.1; omega⟩))))) (fun v hv => ?_)
    · rw [lt0] at e
      rw [q152]
      exact ws_le (fun e2 => ws_s (Or.inl ⟨rfl, e, hr, e2⟩)) (fun e2 => ws_s (Or.inr ⟨by decide, fun q => by have := q.2.2; omega⟩))
    · rcases hv with ⟨rfl, ok⟩ | ⟨hv, no⟩
      · refine ws_i (fun _ => ws_l (ws_l ?_)) (fun q => absurd rfl q)
        have ok1 := ok.1
        have ok3 := ok.2.2
        rw [h6]
        refine ws_b (k_peaksOf n hn w (x + 919) α (f 1) (by omega) h4.2.1.1 (lpA w a.toInt.toNat) (EL f a.toInt.toNat) (WR_LM h4 hC (by omega)) m.toInt.toNat (by rw [EL_len]; omega) m (by omega) pl hP) (fun γ hγ => ws_l (ws_l ?_))
        obtain ⟨hR, hq⟩ := hγ
        have e6 : hp_R γ 603 x = x + 919 := by rw [hq.1]; exact h6
        rw [e6]
        refine ws_hc (k_answer n γ x _) (fun z δ hz => ws_s ⟨?_, ?_, ?_⟩)
        · unfold pkA
          rw [if_pos ok, show z = hp_I γ 301 (x + 919) from hz.1, hR.2.1, mkl_len]
        · rw [if_pos ok, show δ = hp_sI γ 600 x 0 from hz.2]; exact RWL_st hR
        · rw [show δ = hp_sI γ 600 x 0 from hz.2]
          exact pfr_tr (pfr_qf hq h3) pfr_st
      · exact ws_i (fun q => absurd q hv) (fun _ => bad v no)
  · rw [if_neg hr] at ho
    subst ho
    refine ws_hN ?_
    refine ws_b (S := fun v => ¬ v = 0) (ws_hN (ws_lt (fun e => absurd e (by decide)) (fun _ => ws_le (fun e => ws_s (by decide)) (fun e => ws_s (by decide))))) (fun v hv => ?_)
    exact ws_i (fun q => absurd q hv) (fun _ => bad v (fun q => hr q.2.1))
/-! ===== the pad: push, poke, pad, cut, fold ===== -/
theorem pdl_len (f : Nat → Int32) : (pdl f).length = (f 2).toInt.toNat := by unfold pdl; rw [List.length_map, List.length_range]
theorem pdl_get (f : Nat → Int32) {k : Nat} (h : k < (f 2).toInt.toNat) : (pdl f)[k]? = some (f (8 + k)) := by
  unfold pdl
  rw [List.getElem?_map, List.getElem?_range h]
  rfl
theorem pdl_gD (f : Nat → Int32) {k : Nat} (h : k < (f 2).toInt.toNat) : (pdl f).getD k 0 = f (8 + k) := by
  rw [List.getD_eq_getElem?_getD, pdl_get f h]; rfl
theorem pfr_ef {x : Nat} {α β : hp_T} (h : ef (x + 919) α β) (h3 : hp_R α 300 (x + 919) = x + 920) : pfr x α β := by
  obtain ⟨h1, h2, h3', h4, h5, h6⟩ := h
  exact ⟨h1, h2, h3', h4, fun φ b q1 _ _ _ => h5 φ b (fun z => q1 ⟨z.2, z.1⟩), fun κ b j q1 _ _ _ _ => h6 κ b j (fun z => q1 ⟨z.1, by rw [z.2, h3]⟩)⟩
abbrev psOK (f : Nat → Int32) (a : Int32) : Prop := (0 ≤ a.toInt ∧ a.toInt < (f 1).toInt) ∧ (f 2).toInt < 64
def psA (f : Nat → Int32) (a : Int32) : Int := if psOK f a then (f 2).toInt + 1 else -1
def psL (f : Nat → Int32) (a : Int32) : List Int32 := if psOK f a then pdl f ++ [a] else pdl f
theorem v_push (n : Nat) (σ : ms_T) (hC : rC (ms_E σ 40)) (a : Int32) : pr (f_X12_push n σ a) (fun res => res.1.toInt = psA (ms_E σ 40) a ∧ pdl (ms_E res.2 40) = psL (ms_E σ 40) a) := by
  have c2 : ((2 : Int32)).toNatClampNeg = 2 := by decide
  have h64 := hC.2.2.1
  have t64 := t_64
  have bad : ∀ v : Int32, ¬ v = 0 → ¬ psOK (ms_E σ 40) a → pr (f_X12_push_J29 n σ a v) (fun res => res.1.toInt = psA (ms_E σ 40) a ∧ pdl (ms_E res.2 40) = psL (ms_E σ 40) a) := fun v hv hno => by
    unfold f_X12_push_J29 psA psL
    rw [if_neg hno, if_neg hno]
    exact v_is1 n σ v hv (pr_s ⟨rfl, rfl⟩)
  unfold f_X12_push
  rw [c2]
  refine pr_bo (pr_w (s_isMark hC a)) (fun z => bad 1 (by decide) (fun q => z q.1)) (fun z => pr_g (fun _ _ => pr_e (fun e => bad 3 (by decide) (fun q => by have h2 := q.2; rw [e, t64] at h2; omega)) (fun e => ?_)))
  have ok : psOK (ms_E σ 40) a := ⟨z, by omega⟩
  unfold f_X12_push_J29 psA psL
  rw [if_pos ok, if_pos ok, c2]
  refine v_is0 n σ ?_
  have ec : ((8 : Int32) + ms_E σ 40 2).toNatClampNeg = 8 + (ms_E σ 40 2).toInt.toNat := cl_n (by rw [iw_add, t_8]; omega)
  have e1 : (ms_E σ 40 2 + 1).toInt = (ms_E σ 40 2).toInt + 1 := by rw [iw_add, lt1]; omega
  refine pr_g (fun _ _ => pr_g (fun _ _ => pr_ln (fun τ1 h1 => pr_g (fun _ _ => pr_g (fun _ _ => pr_ln (fun τ2 h2 => pr_g (fun _ _ => pr_s ?_)))))))
  replace h1 : τ1 = ms_sE (ms_sI (ms_sI σ 653 0) 652 0) 40 ((8 : Int32) + ms_E σ 40 2).toNatClampNeg a := h1
  rw [ec] at h1
  have g12 : ms_E τ1 40 2 = ms_E σ 40 2 := by rw [h1, mE_sE, if_neg (fun q => by omega)]; rfl
  rw [g12] at h2
  have g2 : ms_E τ2 40 2 = ms_E σ 40 2 + 1 := by rw [h2, mE_sE, if_pos ⟨rfl, rfl⟩]
  refine ⟨by rw [g2]; exact e1, pdl_eq (by rw [g2, e1, List.length_append, List.length_singleton, pdl_len]; omega) (fun k hk => ?_)⟩
  rw [List.length_append, List.length_singleton, pdl_len] at hk
  rw [h2, mE_sE, if_neg (fun q => by omega), h1, mE_sE]
  by_cases ek : k < (ms_E σ 40 2).toInt.toNat
  · rw [if_neg (fun q => by omega), List.getElem?_append_left (by rw [pdl_len]; exact ek), pdl_get _ ek]; rfl
  · rw [if_pos ⟨rfl, by omega⟩, List.getElem?_append_right (by rw [pdl_len]; omega), pdl_len, show k - (ms_E σ 40 2).toInt.toNat = 0 by omega]; rfl
theorem k_push (n : Nat) (α : hp_T) (x : Nat) (f : Nat → Int32) (hC : rC f) (h : RWX α x f) (h6 : hp_R α 603 x = x + 919) (h3 : hp_R α 300 (x + 919) = x + 920) (hP : RWL α (x + 919) (pdl f)) (a : Int32) : ws (f_X11_push n α x a) (fun res => res.1.toInt = psA f a ∧ RWL res.2 (x + 919) (psL f a) ∧ pfr x α res.2) := by
  obtain ⟨w, u, h1, h2, -, h4, -⟩ := h
  have h64 := hC.2.2.1
  have t64 := t_64
  have hl := hP.2.1
  rw [pdl_len] at hl
  have bad : ∀ v : Int32, ¬ psOK f a → ws (hq_c (f_X11_refuse n α x v) fun r β => some (r, β)) (fun res => res.1.toInt = psA f a ∧ RWL res.2 (x + 919) (psL f a) ∧ pfr x α res.2) := fun v hno => by
    unfold psA psL
    rw [if_neg hno, if_neg hno]
    refine ws_hc (k_refuse n α x v) (fun z γ hz => ws_s ⟨by rw [show z = -1 from hz.1]; rfl, ?_, ?_⟩)
    · rw [show γ = hp_sI α 600 x v from hz.2]; exact RWL_st hP
    · rw [show γ = hp_sI α 600 x v from hz.2]; exact pfr_st
  unfold f_X11_push
  refine ws_bo (k_isMark n h1 h4.2.1.1 a) (fun z => bad 1 (fun q => z q.1)) (fun z => ws_l (ws_l ?_))
  rw [h6]
  refine ws_lt (fun e => ws_l ?_) (fun e => bad 3 (fun q => by rw [t64] at e; have := q.2; omega))
  rw [t64] at e
  have ok : psOK f a := ⟨z, by omega⟩
  refine ws_b (k_rput n hP (by rw [pdl_len]; omega) a) (fun β hβ => ws_l (ws_l ?_))
  have e6 : hp_R β 603 x = x + 919 := by rw [hβ.2.1]; exact h6
  rw [e6]
  unfold psA psL
  rw [if_pos ok, if_pos ok]
  refine ws_hc (k_answer n β x _) (fun z γ hz => ws_s ⟨?_, ?_, ?_⟩)
  · rw [show z = hp_I β 301 (x + 919) from hz.1, hβ.1.2.1, List.length_append, List.length_singleton, pdl_len]; omega
  · rw [show γ = hp_sI β 600 x 0 from hz.2]; exact RWL_st hβ.1
  · rw [show γ = hp_sI β 600 x 0 from hz.2]; exact pfr_tr (pfr_ef hβ.2 h3) pfr_st
/-! poke -/
abbrev pqOK (f : Nat → Int32) (k a : Int32) : Prop := (0 ≤ k.toInt ∧ (0 ≤ a.toInt ∧ a.toInt < (f 1).toInt)) ∧ k.toInt < (f 2).toInt
def pqA (f : Nat → Int32) (k a : Int32) : Int32 := if pqOK f k a then f (8 + k.toInt.toNat) else -1
def pqL (f : Nat → Int32) (k a : Int32) : List Int32 := if pqOK f k a then (pdl f).set k.toInt.toNat a else pdl f
theorem v_poke (n : Nat) (σ : ms_T) (hC : rC (ms_E σ 40)) (k a : Int32) : pr (f_X12_poke n σ k a) (fun res => res.1 = pqA (ms_E σ 40) k a ∧ pdl (ms_E res.2 40) = pqL (ms_E σ 40) k a) := by
  have c2 : ((2 : Int32)).toNatClampNeg = 2 := by decide
  have h64 := hC.2.2.1
  have bad : ∀ v : Int32, ¬ v = 0 → ¬ pqOK (ms_E σ 40) k a → pr (f_X12_poke_J32 n σ k a v) (fun res => res.1 = pqA (ms_E σ 40) k a ∧ pdl (ms_E res.2 40) = pqL (ms_E σ 40) k a) := fun v hv hno => by
    unfold f_X12_poke_J32 pqA pqL
    rw [if_neg hno, if_neg hno]
    exact v_is1 n σ v hv (pr_s ⟨rfl, rfl⟩)
  unfold f_X12_poke f_X12_poke_J13
  rw [c2]
  refine pr_lt (fun e => bad 1 (by decide) (fun q => by rw [lt0] at e; have := q.1.1; omega)) (fun e => pr_bo (pr_w (s_isMark hC a)) (fun z => bad 1 (by decide) (fun q => z q.1.2)) (fun z => pr_g (fun _ _ => pr_lt (fun e2 => ?_) (fun e2 => bad 5 (by decide) (fun q => by have := q.2; omega)))))
  rw [lt0] at e
  have ok : pqOK (ms_E σ 40) k a := ⟨⟨e, z⟩, e2⟩
  unfold f_X12_poke_J32 pqA pqL
  rw [if_pos ok, if_pos ok]
  have ec : ((8 : Int32) + k).toNatClampNeg = 8 + k.toInt.toNat := cl_n (by rw [iw_add, t_8]; omega)
  rw [ec]
  refine v_is0 n σ (pr_g (fun _ _ => pr_l (pr_g (fun _ _ => pr_ln (fun τ1 h1 => pr_s ⟨rfl, ?_⟩)))))
  replace h1 : τ1 = ms_sE (ms_sI (ms_sI σ 653 0) 652 0) 40 (8 + k.toInt.toNat) a := h1
  have g12 : ms_E τ1 40 2 = ms_E σ 40 2 := by rw [h1, mE_sE, if_neg (fun q => by omega)]; rfl
  refine pdl_eq (by rw [g12, List.length_set, pdl_len]; omega) (fun j hj => ?_)
  rw [List.length_set, pdl_len] at hj
  rw [h1, mE_sE]
  by_cases ej : j = k.toInt.toNat
  · rw [if_pos ⟨rfl, by omega⟩, ← ej, List.getElem?_set_self (by rw [pdl_len]; exact hj)]
  · rw [if_neg (fun q => by omega), List.getElem?_set_ne (fun q => ej q.symm), pdl_get _ hj]; rfl
theorem k_rset (n : Nat) {α : hp_T} {a : Nat} {l : List Int32} (h : RWL α a l) (k : Nat) (hk : k < l.length) (kI v : Int32) (hkI : kI.toInt = (k : Int)) : ws (f_X5_change n α a kI v) (fun β => RWL β a (l.set k v) ∧ ef a α β) := by
  have t64 := t_64
  have h1 := h.1
  have h2 := h.2.1
  unfold f_X5_change
  refine ws_lt (fun e => by rw [lt0] at e; omega) (fun _ => ws_l (ws_le (fun e => by omega) (fun _ => ws_l (ws_le (fun e => by rw [t64] at e; omega) (fun _ => ws_l (ws_g (by omega) (by omega) (ws_l (ws_s ⟨?_, ef_sE⟩))))))))
  rw [cl_n hkI]
  refine ⟨by rw [List.length_set]; exact h1, by rw [List.length_set]; exact h2, fun j hj => ?_⟩
  rw [List.length_set] at hj
  show some (hp_E (hp_sE α 20 (hp_R α 300 a) k v) 20 (hp_R α 300 a) j) = _
  rw [hE_sE]
  by_cases ej : j = k
  · rw [if_pos ⟨rfl, rfl, ej⟩, ej, List.getElem?_set_self hk]
  · rw [if_neg (fun q => ej q.2.2), List.getElem?_set_ne (fun q => ej q.symm)]
    exact h.2.2 j hj
theorem k_poke (n : Nat) (α : hp_T) (x : Nat) (f : Nat → Int32) (hC : rC f) (h : RWX α x f) (h6 : hp_R α 603 x = x + 919) (h3 : hp_R α 300 (x + 919) = x + 920) (hP : RWL α (x + 919) (pdl f)) (k a : Int32) : ws (f_X11_poke n α x k a) (fun res => res.1 = pqA f k a ∧ RWL res.2 (x + 919) (pqL f k a) ∧ pfr x α res.2) := by
  obtain ⟨w, u, h1, h2, -, h4, -⟩ := h
  have h64 := hC.2.2.1
  have hl := hP.2.1
  rw [pdl_len] at hl
  have bad : ∀ v : Int32, ¬ pqOK f k a → ws (hq_c (f_X11_refuse n α x v) fun r β => some (r, β)) (fun res => res.1 = pqA f k a ∧ RWL res.2 (x + 919) (pqL f k a) ∧ pfr x α res.2) := fun v hno => by
    unfold pqA pqL
    rw [if_neg hno, if_neg hno]
    refine ws_hc (k_refuse n α x v) (fun z γ hz => ws_s ⟨hz.1, ?_, ?_⟩)
    · rw [show γ = hp_sI α 600 x v from hz.2]; exact RWL_st hP
    · rw [show γ = hp_sI α 600 x v from hz.2]; exact pfr_st
  unfold f_X11_poke f_X11_poke_J12
  refine ws_lt (fun e => bad 1 (fun q => by rw [lt0] at e; have := q.1.1; omega)) (fun e => ws_bo (k_isMark n h1 h4.2.1.1 a) (fun z => bad 1 (fun q => z q.1.2)) (fun z => ws_l (ws_l ?_)))
  rw [lt0] at e
  rw [h6]
  refine ws_lt (fun e2 => ws_l ?_) (fun e2 => bad 5 (fun q => by have := q.2; omega))
  have ok : pqOK f k a := ⟨⟨e, z⟩, by omega⟩
  refine ws_b (k_rat n hP k.toInt.toNat (by rw [pdl_len]; omega) k (by omega)) (fun r hr => ws_l (ws_b (k_rset n hP k.toInt.toNat (by rw [pdl_len]; omega) k a (by omega)) (fun β hβ => ?_)))
  unfold pqA pqL
  rw [if_pos ok, if_pos ok]
  refine ws_hc (k_answer n β x _) (fun z γ hz => ws_s ⟨?_, ?_, ?_⟩)
  · rw [show z = r from hz.1, hr, pdl_gD f (by omega)]
  · rw [show γ = hp_sI β 600 x 0 from hz.2]; exact RWL_st hβ.1
  · rw [show γ = hp_sI β 600 x 0 from hz.2]; exact pfr_tr (pfr_ef hβ.2 h3) pfr_st
/-! cut -/
def cuA (f : Nat → Int32) (k : Int32) : Int32 := if 0 ≤ k.toInt ∧ k.toInt ≤ (f 2).toInt then k else -1
def cuL (f : Nat → Int32) (k : Int32) : List Int32 := if 0 ≤ k.toInt ∧ k.toInt ≤ (f 2).toInt then (pdl f).take k.toInt.toNat else pdl f
theorem v_cut (n : Nat) (σ : ms_T) (hC : rC (ms_E σ 40)) (k : Int32) : pr (f_X12_cut n σ k) (fun res => res.1 = cuA (ms_E σ 40) k ∧ pdl (ms_E res.2 40) = cuL (ms_E σ 40) k) := by
  have c2 : ((2 : Int32)).toNatClampNeg = 2 := by decide
  have h64 := hC.2.2.1
  have bad : ∀ v : Int32, ¬ v = 0 → ¬ (0 ≤ k.toInt ∧ k.toInt ≤ (ms_E σ 40 2).toInt) → pr (f_X12_cut_J24 n σ k v) (fun res => res.1 = cuA (ms_E σ 40) k ∧ pdl (ms_E res.2 40) = cuL (ms_E σ 40) k) := fun v hv hno => by
    unfold f_X12_cut_J24 cuA cuL
    rw [if_neg hno, if_neg hno]
    exact v_is1 n σ v hv (pr_s ⟨rfl, rfl⟩)
  unfold f_X12_cut
  rw [c2]
  refine pr_le (fun e => pr_g (fun _ _ => pr_le (fun e2 => ?_) (fun e2 => bad 5 (by decide) (fun q => by have := q.2; omega)))) (fun e => bad 1 (by decide) (fun q => by rw [lt0] at e; have := q.1; omega))
  rw [lt0] at e
  unfold f_X12_cut_J24 cuA cuL
  rw [if_pos ⟨e, e2⟩, if_pos ⟨e, e2⟩, c2]
  refine v_is0 n σ (pr_g (fun _ _ => pr_ln (fun τ1 h1 => pr_s ⟨rfl, ?_⟩)))
  have g2 : ms_E τ1 40 2 = k := by rw [h1, mE_sE, if_pos ⟨rfl, rfl⟩]
  refine pdl_eq (by rw [g2, List.length_take, pdl_len]; omega) (fun j hj => ?_)
  rw [List.length_take, pdl_len] at hj
  rw [h1, mE_sE, if_neg (fun q => by omega), List.getElem?_take_of_lt (by omega), pdl_get _ (by omega)]
  rfl
theorem k_cut (n : Nat) (α : hp_T) (x : Nat) (f : Nat → Int32) (h2 : 0 ≤ (f 2).toInt) (h6 : hp_R α 603 x = x + 919) (h3 : hp_R α 300 (x + 919) = x + 920) (hP : RWL α (x + 919) (pdl f)) (k : Int32) : ws (f_X11_cut n α x k) (fun res => res.1 = cuA f k ∧ RWL res.2 (x + 919) (cuL f k) ∧ pfr x α res.2) := by
  have hl := hP.2.1
  rw [pdl_len] at hl
  have bad : ∀ v : Int32, ¬ (0 ≤ k.toInt ∧ k.toInt ≤ (f 2).toInt) → ws (hq_c (f_X11_refuse n α x v) fun r β => some (r, β)) (fun res => res.1 = cuA f k ∧ RWL res.2 (x + 919) (cuL f k) ∧ pfr x α res.2) := fun v hno => by
    unfold cuA cuL
    rw [if_neg hno, if_neg hno]
    refine ws_hc (k_refuse n α x v) (fun z γ hz => ws_s ⟨hz.1, ?_, ?_⟩)
    · rw [show γ = hp_sI α 600 x v from hz.2]; exact RWL_st hP
    · rw [show γ = hp_sI α 600 x v from hz.2]; exact pfr_st
  unfold f_X11_cut
  refine ws_le (fun e => ws_l (ws_l ?_)) (fun e => bad 1 (fun q => by rw [lt0] at e; have := q.1; omega))
  rw [lt0] at e
  rw [h6]
  refine ws_le (fun e2 => ws_l ?_) (fun e2 => bad 5 (fun q => by have := q.2; omega))
  refine ws_b (k_rshort n hP k.toInt.toNat (by rw [pdl_len]; omega) k (by omega)) (fun β hβ => ?_)
  have ok : 0 ≤ k.toInt ∧ k.toInt ≤ (f 2).toInt := ⟨e, by omega⟩
  unfold cuA cuL
  rw [if_pos ok, if_pos ok]
  refine ws_hc (k_answer n β x _) (fun z γ hz => ws_s ⟨hz.1, ?_, ?_⟩)
  · rw [show γ = hp_sI β 600 x 0 from hz.2]; exact RWL_st hβ.1
  · rw [show γ = hp_sI β 600 x 0 from hz.2]; exact pfr_tr (pfr_ef hβ.2 h3) pfr_st
/-! ===== extend ===== -/
def exL (m : Int32) : Nat → List Int32 → Nat → Int32 → List Int32
  | 0, l, _, v => l ++ [v]
  | e + 1, l, r, v => if r % 2 = 1 then exL m e (l.take (l.length - 1)) (r / 2) (bt m (l.getD (l.length - 1) 0) v) else l ++ [v]
theorem exL_0 (m : Int32) (e : Nat) (l : List Int32) (r : Nat) (v : Int32) (h : ¬ r % 2 = 1) : exL m e l r v = l ++ [v] := by
  cases e with
  | zero => rfl
  | succ e => rw [exL, if_neg h]
theorem tw_s (A t : Nat) : A / 2 ^ (t + 1) = A / 2 ^ t / 2 := by rw [Nat.pow_succ, Nat.div_div_eq_div_mul]
theorem tw_m {A t : Nat} (h : A % 2 ^ t = 2 ^ t - 1) (ho : A / 2 ^ t % 2 = 1) : A % 2 ^ (t + 1) = 2 ^ (t + 1) - 1 := by
  have hp := Nat.one_le_two_pow (n := t)
  rw [Nat.pow_succ, Nat.mod_mul, h, ho]
  omega
theorem tw_20 {A t : Nat} (hA : A < 1048576) (ho : A / 2 ^ t % 2 = 1) (ht : t ≤ 20) : t + 1 ≤ 20 := by
  rcases Nat.lt_or_ge t 20 with q | q
  · omega
  · have e20 : t = 20 := by omega
    rw [e20, Nat.div_eq_of_lt (by omega)] at ho
    omega
theorem v_extend_L (n A P : Nat) (hA : A < 1048576) (hP : P = bc A) (hP63 : P ≤ 63) : ∀ (k e t : Nat) (τ : ms_T) (x v : Int32), t + e = 20 → (ms_E τ 40 2).toInt = (P : Int) - t → A % 2 ^ t = 2 ^ t - 1 → t ≤ P → v.toInt = ((A / 2 ^ t : Nat) : Int) → pr (f_X12_extend_L55 n k τ x v) (fun res => res.1.toInt = ((exL (ms_E τ 40 1) e (pdl (ms_E τ 40)) (A / 2 ^ t) x).length : Int) ∧ pdl (ms_E res.2 40) = exL (ms_E τ 40 1) e (pdl (ms_E τ 40)) (A / 2 ^ t) x) := by
  have c2 : ((2 : Int32)).toNatClampNeg = 2 := by decide
  intro k
  induction k with
  | zero => intro e t τ x v _ _ _ _ _; rw [f_X12_extend_L55.eq_1]; exact pr_0
  | succ k ih =>
    intro e t τ x v hte hc hm htP hv
    rw [f_X12_extend_L55.eq_2, c2]
    have hv0 : 0 ≤ v.toInt := by
      generalize A / 2 ^ t = Q at hv
      omega
    have hrem : (v - v / 2 * 2).toInt = v.toInt % 2 := by rw [ii_rem (x := v) (y := 2) hv0 (by decide), t_2]
    refine pr_e (fun q => ?_) (fun q => ?_)
    · have q2 := congrArg Int32.toInt q
      rw [hrem, lt1] at q2
      have ho : A / 2 ^ t % 2 = 1 := by
        generalize A / 2 ^ t = Q at hv
        omega
      have ht2 := tw_20 hA ho (by omega)
      obtain ⟨e, rfl⟩ : ∃ y, e = y + 1 := ⟨e - 1, by omega⟩
      have hm2 := tw_m hm ho
      have hle := bc_t A (t + 1) hA ht2 hm2
      rw [← hP] at hle
      have e1 : (ms_E τ 40 2 - 1).toInt = (P : Int) - t - 1 := by rw [iw_sub, lt1]; omega
      have ed : (v / 2).toInt = ((A / 2 ^ (t + 1) : Nat) : Int) := by
        rw [ii_div hv0 (by decide), t_2, hv, tw_s]
        generalize A / 2 ^ t = Q
        omega
      refine pr_g (fun _ _ => pr_g (fun _ _ => pr_ln (fun σ1 hs => pr_g (fun _ _ => pr_g (fun _ _ => pr_b (v_both n σ1 _ _) (fun y hy => pr_l ?_))))))
      have ez : ms_E σ1 40 2 = ms_E τ 40 2 - 1 := by rw [hs, mE_sE, if_pos ⟨rfl, rfl⟩]
      have eo : ∀ j, j ≠ 2 → ms_E σ1 40 j = ms_E τ 40 j := fun j hj => by rw [hs, mE_sE, if_neg (fun q => hj q.2)]
      have e8 : ((8 : Int32) + ms_E σ1 40 2).toNatClampNeg = 8 + ((ms_E τ 40 2).toInt.toNat - 1) := cl_n (by rw [iw_add, ez, e1, t_8]; omega)
      rw [e8, eo 1 (by omega), eo _ (by omega)] at hy
      have hpl : pdl (ms_E σ1 40) = (pdl (ms_E τ 40)).take ((pdl (ms_E τ 40)).length - 1) := by
        refine pdl_eq (by rw [ez, e1, List.length_take, pdl_len]; omega) (fun j hj => ?_)
        rw [List.length_take, pdl_len] at hj
        rw [eo _ (by omega), pdl_len, List.getElem?_take_of_lt (by omega), pdl_get _ (by omega)]
      have hgd : (pdl (ms_E τ 40)).getD ((pdl (ms_E τ 40)).length - 1) 0 = ms_E τ 40 (8 + ((ms_E τ 40 2).toInt.toNat - 1)) := by
        rw [pdl_len]
        exact pdl_gD _ (by omega)
      rw [exL, if_pos ho, hgd, ← hy, ← hpl, ← tw_s, ← eo 1 (by omega)]
      exact ih e (t + 1) σ1 y (v / 2) (by omega) (by rw [ez, e1]; omega) hm2 hle ed
    · have ho : ¬ A / 2 ^ t % 2 = 1 := fun ho => q (by
        rw [hrem, lt1]
        generalize A / 2 ^ t = Q at hv ho
        omega)
      rw [exL_0 _ _ _ _ _ ho]
      have ec : ((8 : Int32) + ms_E τ 40 2).toNatClampNeg = 8 + (ms_E τ 40 2).toInt.toNat := cl_n (by rw [iw_add, t_8]; omega)
      have e1 : (ms_E τ 40 2 + 1).toInt = (ms_E τ 40 2).toInt + 1 := by rw [iw_add, lt1]; omega
      refine pr_g (fun _ _ => pr_g (fun _ _ => pr_ln (fun τ1 h1 => pr_g (fun _ _ => pr_g (fun _ _ => pr_ln (fun τ2 h2 => pr_g (fun _ _ => pr_s ?_)))))))
      rw [ec] at h1
      have g12 : ms_E τ1 40 2 = ms_E τ 40 2 := by rw [h1, mE_sE, if_neg (fun q => by omega)]
      rw [g12] at h2
      have g2 : ms_E τ2 40 2 = ms_E τ 40 2 + 1 := by rw [h2, mE_sE, if_pos ⟨rfl, rfl⟩]
      refine ⟨by rw [g2, e1, List.length_append, List.length_singleton, pdl_len]; omega, pdl_eq (by rw [g2, e1, List.length_append, List.length_singleton, pdl_len]; omega) (fun j hj => ?_)⟩
      rw [List.length_append, List.length_singleton, pdl_len] at hj
      rw [h2, mE_sE, if_neg (fun q => by omega), h1, mE_sE]
      by_cases ek : j < (ms_E τ 40 2).toInt.toNat
      · rw [if_neg (fun q => by omega), List.getElem?_append_left (by rw [pdl_len]; exact ek), pdl_get _ ek]
      · rw [if_pos ⟨rfl, by omega⟩, List.getElem?_append_right (by rw [pdl_len]; omega), pdl_len, show j - (ms_E τ 40 2).toInt.toNat = 0 by omega]; rfl
abbrev exOK (f : Nat → Int32) (m a : Int32) : Prop := (0 ≤ m.toInt ∧ m.toInt ≤ 1000000) ∧ (0 ≤ a.toInt ∧ a.toInt < (f 1).toInt) ∧ (f 2).toInt = (bc m.toInt.toNat : Int)
def exF (f : Nat → Int32) (m a : Int32) : List Int32 := exL (f 1) 20 (pdl f) m.toInt.toNat a
def exA (f : Nat → Int32) (m a : Int32) : Int := if exOK f m a then ((exF f m a).length : Int) else -1
def exX (f : Nat → Int32) (m a : Int32) : List Int32 := if exOK f m a then exF f m a else pdl f
theorem v_extend (n : Nat) (σ : ms_T) (hC : rC (ms_E σ 40)) (m a : Int32) : pr (f_X12_extend n σ m a) (fun res => res.1.toInt = exA (ms_E σ 40) m a ∧ pdl (ms_E res.2 40) = exX (ms_E σ 40) m a) := by
  have c2 : ((2 : Int32)).toNatClampNeg = 2 := by decide
  have h64 := hC.2.2.1
  have tM : (1000000 : Int32).toInt = 1000000 := by decide
  have bad : ∀ v : Int32, ¬ v = 0 → ¬ exOK (ms_E σ 40) m a → pr (f_X12_extend_J42 n σ m a v) (fun res => res.1.toInt = exA (ms_E σ 40) m a ∧ pdl (ms_E res.2 40) = exX (ms_E σ 40) m a) := fun v hv hno => by
    unfold f_X12_extend_J42 exA exX
    rw [if_neg hno, if_neg hno]
    exact v_is1 n σ v hv (pr_s ⟨rfl, rfl⟩)
  unfold f_X12_extend f_X12_extend_J20
  rw [c2]
  refine pr_bo (v_isIn n m 0 1000000) (fun z => bad 1 (by decide) (fun q => z (by rw [lt0, tM]; exact q.1))) (fun z => pr_bo (pr_w (s_isMark hC a)) (fun z2 => bad 1 (by decide) (fun q => z2 q.2.1)) (fun z2 => ?_))
  rw [lt0, tM] at z
  obtain ⟨r, er, hr⟩ := s_bitCount2 n m z.1 z.2
  obtain ⟨r', er', hr'⟩ := s_bitCount n m
  rw [er] at er'
  cases er'
  refine pr_b (T := fun x => x = r) (fun x hx => Option.some.inj (hx.symm.trans er)) (fun x hx => ?_)
  subst hx
  refine pr_g (fun _ _ => pr_e (fun e => ?_) (fun e => bad 5 (by decide) (fun q => e (by rw [q.2.2]; exact hr))))
  have e2 : (ms_E σ 40 2).toInt = (bc m.toInt.toNat : Int) := by rw [← e]; exact hr
  have ok : exOK (ms_E σ 40) m a := ⟨z, z2, e2⟩
  unfold f_X12_extend_J42 exA exX exF
  rw [if_pos ok, if_pos ok]
  refine v_is0 n σ ?_
  have := v_extend_L n m.toInt.toNat (bc m.toInt.toNat) (by omega) rfl (by omega) n 20 0 (ms_sI (ms_sI σ 653 0) 652 0) a m (by omega) (by rw [show ms_E (ms_sI (ms_sI σ 653 0) 652 0) = ms_E σ from rfl]; omega) (by rw [Nat.pow_zero, Nat.mod_one]) (Nat.zero_le _) (by rw [Nat.pow_zero, Nat.div_one]; omega)
  rw [Nat.pow_zero, Nat.div_one] at this
  exact this
theorem k_putPeak_L (n A P : Nat) (hA : A < 1048576) (hP : P = bc A) (hP63 : P ≤ 63) (a : Nat) (m : Int32) (hm : 0 < m.toInt) : ∀ (k e t : Nat) (α : hp_T) (l : List Int32) (x v j : Int32), t + e = 20 → RWL α a l → (l.length : Int) = (P : Int) - t → A % 2 ^ t = 2 ^ t - 1 → t ≤ P → v.toInt = ((A / 2 ^ t : Nat) : Int) → j.toInt = (t : Int) → 21 - (t : Int) ≤ (k : Int) → ws (f_X5_putPeak_L9 n a k α m x v j) (fun β => RWL β a (exL m e l (A / 2 ^ t) x) ∧ ef a α β) := by
  have t31 : (31 : Int32).toInt = 31 := by decide
  have n1 : (1 : Int32).toBitVec.toNat = 1 := by decide
  intro k
  induction k with
  | zero => intro e t α l x v j h1 _ _ _ _ _ _ h2; omega
  | succ k ih =>
    intro e t α l x v j hte hR hl hm2 htP hv hj hk
    rw [f_X5_putPeak_L9.eq_2]
    have hv0 : 0 ≤ v.toInt := by
      generalize A / 2 ^ t = Q at hv
      omega
    obtain ⟨hb, hb2⟩ := bN v hv0
    have hand : (v &&& 1).toBitVec.toNat = A / 2 ^ t % 2 := by
      rw [n_and, n1, Nat.and_one_is_mod]
      generalize A / 2 ^ t = Q at hv
      omega
    refine ws_le (fun z => by rw [t31] at z; omega) (fun _ => ws_i (fun q => ?_) (fun q => ?_))
    · have ho : A / 2 ^ t % 2 = 1 := by rw [← hand, q]; exact n1
      have ht2 := tw_20 hA ho (by omega)
      obtain ⟨e, rfl⟩ : ∃ y, e = y + 1 := ⟨e - 1, by omega⟩
      have hm3 := tw_m hm2 ho
      have hle := bc_t A (t + 1) hA ht2 hm3
      rw [← hP] at hle
      have hi := hR.2.1
      have e1 : (hp_I α 301 a - 1).toInt = ((l.length - 1 : Nat) : Int) := by rw [iw_sub, lt1, hi]; omega
      refine ws_l (ws_b (k_rat n hR (l.length - 1) (by omega) _ e1) (fun r7 h7 => ws_b (k_two n m r7 x hm) (fun r8 h8 => ws_l (ws_b (k_rshort n hR (l.length - 1) (by omega) _ e1) (fun β hβ => ws_l (ws_l ?_))))))
      obtain ⟨s, hs⟩ : ∃ s : Int32, s = (v.toUInt32 >>> ((1 : Int32).toUInt32 &&& Int32.toUInt32 31)).toInt32 := ⟨_, rfl⟩
      rw [← hs]
      have s1 : s.toBitVec.toNat = v.toBitVec.toNat / 2 := by rw [hs]; exact n_sh1 v
      have s2 : s.toInt = (s.toBitVec.toNat : Int) := by
        show s.toBitVec.toInt = _
        exact BitVec.toInt_eq_toNat_of_lt (by omega)
      have s3 : s.toInt = ((A / 2 ^ (t + 1) : Nat) : Int) := by
        rw [tw_s, s2, s1]
        generalize A / 2 ^ t = Q at hv
        omega
      rw [exL, if_pos ho, ← h7, ← h8, ← tw_s]
      refine ws_m (ih e (t + 1) β _ r8 s _ (by omega) hβ.1 (by rw [List.length_take]; omega) hm3 hle s3 (by rw [iw_add, lt1]; omega) (by omega)) (fun γ hγ => ⟨hγ.1, ef_tr hβ.2 hγ.2⟩)
    · have ho : ¬ A / 2 ^ t % 2 = 1 := fun ho => q (Int32.toBitVec_inj.mp (BitVec.eq_of_toNat_eq (by rw [hand, ho]; exact n1.symm)))
      rw [exL_0 _ _ _ _ _ ho]
      unfold f_X5_putPeak_J64
      exact ws_b (k_rput n hR (by omega) x) (fun β hβ => ws_s hβ)
theorem k_extend (n : Nat) (hn : 70000 ≤ n) (α : hp_T) (x : Nat) (f : Nat → Int32) (hC : rC f) (h : RWX α x f) (h6 : hp_R α 603 x = x + 919) (h3 : hp_R α 300 (x + 919) = x + 920) (hP : RWL α (x + 919) (pdl f)) (m a : Int32) : ws (f_X11_extend n α x m a) (fun res => res.1.toInt = exA f m a ∧ RWL res.2 (x + 919) (exX f m a) ∧ pfr x α res.2) := by
  obtain ⟨w, u, h1, h2, -, h4, -⟩ := h
  have h64 := hC.2.2.1
  have hm0 := hC.2.1
  have tM : (1000000 : Int32).toInt = 1000000 := by decide
  have hl := hP.2.1
  rw [pdl_len] at hl
  have bad : ∀ v : Int32, ¬ exOK f m a → ws (hq_c (f_X11_refuse n α x v) fun r β => some (r, β)) (fun res => res.1.toInt = exA f m a ∧ RWL res.2 (x + 919) (exX f m a) ∧ pfr x α res.2) := fun v hno => by
    unfold exA exX
    rw [if_neg hno, if_neg hno]
    refine ws_hc (k_refuse n α x v) (fun z γ hz => ws_s ⟨by rw [show z = -1 from hz.1]; rfl, ?_, ?_⟩)
    · rw [show γ = hp_sI α 600 x v from hz.2]; exact RWL_st hP
    · rw [show γ = hp_sI α 600 x v from hz.2]; exact pfr_st
  unfold f_X11_extend f_X11_extend_J19
  refine ws_lt (fun e => bad 1 (fun q => by rw [lt0] at e; have := q.1.1; omega)) (fun e => ws_lt (fun e2 => bad 1 (fun q => by rw [tM] at e2; have := q.1.2; omega)) (fun e2 => ws_bo (k_isMark n h1 h4.2.1.1 a) (fun z => bad 1 (fun q => z q.2.1)) (fun z => ws_l (ws_l ?_))))
  rw [lt0] at e
  rw [tM] at e2
  rw [h6]
  obtain ⟨r, er, hr⟩ := s_bitCount2 n m (by omega) (by omega)
  obtain ⟨r', er', hr'⟩ := s_bitCount n m
  rw [er] at er'
  cases er'
  refine ws_b (S := fun x => x = r) ⟨r, er, rfl⟩ (fun y hy => ?_)
  subst hy
  refine ws_e (fun e3 => ws_l (ws_l (ws_l ?_))) (fun e3 => bad 5 (fun q => e3 (by rw [hr, hl]; have := q.2.2; omega)))
  have e4 : (f 2).toInt = (bc m.toInt.toNat : Int) := by rw [← hr, ← e3, hl]; omega
  have ok : exOK f m a := ⟨⟨by omega, by omega⟩, z, e4⟩
  rw [h1, h4.2.1.1]
  unfold exA exX exF
  rw [if_pos ok, if_pos ok]
  have hpp : ws (f_X5_putPeak n α (x + 919) (f 1) m a) (fun β => RWL β (x + 919) (exL (f 1) 20 (pdl f) m.toInt.toNat a) ∧ ef (x + 919) α β) := by
    unfold f_X5_putPeak
    have := k_putPeak_L n m.toInt.toNat (bc m.toInt.toNat) (by omega) rfl (by omega) (x + 919) (f 1) (by omega) n 20 0 α (pdl f) a m 0 (by omega) hP (by rw [pdl_len]; omega) (by rw [Nat.pow_zero, Nat.mod_one]) (Nat.zero_le _) (by rw [Nat.pow_zero, Nat.div_one]; omega) rfl (by omega)
    rw [Nat.pow_zero, Nat.div_one] at this
    exact this
  refine ws_b hpp (fun β hβ => ws_l (ws_l ?_))
  have e6 : hp_R β 603 x = x + 919 := by rw [hβ.2.1]; exact h6
  rw [e6]
  refine ws_hc (k_answer n β x _) (fun z γ hz => ws_s ⟨?_, ?_, ?_⟩)
  · rw [show z = hp_I β 301 (x + 919) from hz.1]; exact hβ.1.2.1
  · rw [show γ = hp_sI β 600 x 0 from hz.2]; exact RWL_st hβ.1
  · rw [show γ = hp_sI β 600 x 0 from hz.2]; exact pfr_tr (pfr_ef hβ.2 h3) pfr_st
/-! ===== BUNDLES: a set is a number ===== -/
theorem shk : ∀ k, k < 31 → (((Int32.ofNat k) &&& 31).toBitVec.smod 32).toNat = k := by decide +kernel
theorem uhk : ∀ k, k < 31 → (UInt32.mod (Int32.toUInt32 (Int32.ofNat k) &&& Int32.toUInt32 31) 32).toBitVec.toNat = k := by decide +kernel
theorem msk : ∀ m, m < 31 → (((1 : Int32) <<< ((Int32.ofNat m) &&& 31)) - 1).toBitVec.toNat = 2 ^ m - 1 := by decide +kernel
theorem onk : ∀ m, m < 31 → ((1 : Int32) <<< ((Int32.ofNat m) &&& 31)).toInt = ((2 ^ m : Nat) : Int) := by decide +kernel
theorem S_nat {s : Int32} (hs : 0 ≤ s.toInt) : s.toBitVec.msb = false ∧ s.toBitVec.toNat = s.toInt.toNat := by
  have h3 : s.toBitVec.toInt = s.toInt := rfl
  have h1 : s.toBitVec.msb = false := by
    rw [BitVec.msb_eq_toInt, h3, decide_eq_false_iff_not]
    omega
  have h2 := BitVec.toInt_eq_toNat_of_msb h1
  exact ⟨h1, by omega⟩
theorem bt_ref {s v : Int32} {k : Nat} (hs : 0 ≤ s.toInt) (hv : v.toInt = (k : Int)) (hk : k < 31) : (((s >>> (v &&& 31)) &&& (1 : Int32)) = 1) ↔ s.toInt.toNat.testBit k = true := by
  obtain ⟨h1, h2⟩ := S_nat hs
  have ev := i_ofN hv
  subst ev
  have hX : (s >>> ((Int32.ofNat k) &&& 31)).toBitVec.toNat = s.toInt.toNat / 2 ^ k := by
    show (s.toBitVec.sshiftRight (((Int32.ofNat k) &&& 31).toBitVec.smod 32).toNat).toNat = _
    rw [shk k hk, BitVec.sshiftRight_eq_of_msb_false h1, BitVec.toNat_ushiftRight, h2, Nat.shiftRight_eq_div_pow]
  rw [← Int32.toBitVec_inj, ← BitVec.toNat_inj]
  show ((s >>> ((Int32.ofNat k) &&& 31)).toBitVec &&& (1 : Int32).toBitVec).toNat = 1 ↔ _
  rw [BitVec.toNat_and, hX, show ((1 : Int32).toBitVec).toNat = 1 from rfl, Nat.and_one_is_mod, Nat.testBit_eq_decide_div_mod_eq, decide_eq_true_iff]
/-- whether a set has one of m things from f on -/
def hasB (S f m : Nat) : Bool := decide (S / 2 ^ f % 2 ^ m ≠ 0)
theorem hasB_iff (S f m : Nat) : hasB S f m = true ↔ ∃ j, f ≤ j ∧ j < f + m ∧ S.testBit j = true := by
  unfold hasB
  rw [decide_eq_true_iff]
  constructor
  · intro h
    obtain ⟨i, hi⟩ := Nat.exists_testBit_of_ne_zero h
    rw [Nat.testBit_mod_two_pow, Bool.and_eq_true, decide_eq_true_iff, ← Nat.shiftRight_eq_div_pow, Nat.testBit_shiftRight] at hi
    exact ⟨f + i, by omega, by omega, hi.2⟩
  · intro ⟨j, h1, h2, h3⟩ h
    have : (S / 2 ^ f % 2 ^ m).testBit (j - f) = true := by
      rw [Nat.testBit_mod_two_pow, Bool.and_eq_true, decide_eq_true_iff, ← Nat.shiftRight_eq_div_pow, Nat.testBit_shiftRight]
      exact ⟨by omega, by rw [show f + (j - f) = j by omega]; exact h3⟩
    rw [h, Nat.zero_testBit] at this
    cases this
theorem bit30 {S j : Nat} (hS : S < 2 ^ 30) (h : S.testBit j = true) : j < 30 := by
  refine Nat.lt_of_not_le (fun h30 => ?_)
  have := Nat.testBit_lt_two_pow (Nat.lt_of_lt_of_le hS (Nat.pow_le_pow_right (by decide) h30))
  rw [h] at this
  cases this
theorem v_hasAny_L (n : Nat) {s : Int32} (hs : 0 ≤ s.toInt) {f m : Nat} {fI mI : Int32} (hf : fI.toInt = (f : Int)) (hm : mI.toInt = (m : Int)) : ∀ (d v : Nat) (vI : Int32), vI.toInt = (v : Int) → v ≤ 30 → (∀ j, j < v → ¬ (s.toInt.toNat.testBit j = true ∧ f ≤ j ∧ j < f + m)) → pr (f_X12_hasAny_L2 n d s fI mI vI) (fun r => (r = 1 ∧ ∃ j, f ≤ j ∧ j < f + m ∧ s.toInt.toNat.testBit j = true) ∨ (r = 0 ∧ ∀ j, j < 30 → ¬ (s.toInt.toNat.testBit j = true ∧ f ≤ j ∧ j < f + m))) := by
  intro d
  induction d with
  | zero => intro v vI _ _ _; rw [f_X12_hasAny_L2.eq_1]; exact pr_0
  | succ d ih =>
    intro v vI hv hv30 h
    have t30 : (30 : Int32).toInt = 30 := by decide
    rw [f_X12_hasAny_L2.eq_2]
    have e1 : (vI + 1).toInt = ((v + 1 : Nat) : Int) := by rw [iw_add, lt1]; omega
    refine pr_le (fun c => pr_s (Or.inr ⟨rfl, fun j hj => h j (by omega)⟩)) (fun c => ?_)
    rw [t30] at c
    have hJ : ¬ (s.toInt.toNat.testBit v = true ∧ f ≤ v ∧ v < f + m) → pr (f_X12_hasAny_J31 n (f_X12_hasAny_L2 n d) s fI mI vI) (fun r => (r = 1 ∧ ∃ j, f ≤ j ∧ j < f + m ∧ s.toInt.toNat.testBit j = true) ∨ (r = 0 ∧ ∀ j, j < 30 → ¬ (s.toInt.toNat.testBit j = true ∧ f ≤ j ∧ j < f + m))) := by
      intro hno
      unfold f_X12_hasAny_J31
      refine pr_l (ih (v + 1) (vI + 1) e1 (by omega) (fun j hj => ?_))
      by_cases ej : j = v
      · rw [ej]; exact hno
      · exact h j (by omega)
    refine pr_i (fun z => ?_) (fun z => hJ (fun q => z ((bt_ref hs hv (by omega)).mpr q.1)))
    have hb := (bt_ref hs hv (by omega)).mp z
    refine pr_lt (fun c1 => hJ (fun q => by omega)) (fun c1 => ?_)
    have hvf : (vI - fI).toInt = (v : Int) - f := by have := ib_hi fI; rw [ii_sub (by omega) (by omega)]; omega
    refine pr_le (fun c2 => hJ (fun q => by omega)) (fun c2 => pr_s (Or.inl ⟨rfl, v, by omega, by omega, hb⟩))
theorem v_hasAny (n : Nat) {s : Int32} (hs : 0 ≤ s.toInt) (hS : s.toInt.toNat < 2 ^ 30) {f m : Nat} {fI mI : Int32} (hf : fI.toInt = (f : Int)) (hm : mI.toInt = (m : Int)) : pr (f_X12_hasAny n s fI mI) (fun r => r = if hasB s.toInt.toNat f m = true then 1 else 0) := by
  unfold f_X12_hasAny
  refine pr_m (v_hasAny_L n hs hf hm n 0 0 (by decide) (by omega) (fun j hj => absurd hj (Nat.not_lt_zero _))) (fun r hr => ?_)
  rcases hr with ⟨h1, h2⟩ | ⟨h1, h2⟩
  · rw [if_pos ((hasB_iff _ _ _).mpr h2)]; exact h1
  · rw [if_neg (fun z => by obtain ⟨j, q1, q2, q3⟩ := (hasB_iff _ _ _).mp z; exact h2 j (bit30 hS q3) ⟨q3, q1, q2⟩)]; exact h1
theorem k_has (n : Nat) {s : Int32} (hs : 0 ≤ s.toInt) (hS : s.toInt.toNat < 2 ^ 30) {f m : Nat} {fI mI : Int32} (hf : fI.toInt = (f : Int)) (hm : mI.toInt = (m : Int)) : ws (f_X11_hasOneOf n s fI mI) (fun r => r = if hasB s.toInt.toNat f m = true then 1 else 0) := by
  have t30 : (30 : Int32).toInt = 30 := by decide
  obtain ⟨h1, h2⟩ := S_nat hs
  unfold f_X11_hasOneOf f_X11_hasOneOf_J37
  refine ws_lt (fun c => by rw [lt0] at c; omega) (fun _ => ws_le (fun c => ws_s ?_) (fun c => ?_))
  · rw [t30] at c
    have : s.toInt.toNat / 2 ^ f = 0 := Nat.div_eq_of_lt (Nat.lt_of_lt_of_le hS (Nat.pow_le_pow_right (by decide) (by omega)))
    unfold hasB
    rw [this, Nat.zero_mod]; rfl
  · rw [t30] at c
    refine ws_lt (fun c0 => ws_ln (fun x4 hx4 => ?_)) (fun c0 => ws_s ?_)
    · rw [lt0] at c0
      have ef := i_ofN hf
      have hX : x4.toBitVec.toNat = s.toInt.toNat / 2 ^ f := by
        rw [hx4, ef]
        show (s.toBitVec >>> (UInt32.mod (Int32.toUInt32 (Int32.ofNat f) &&& Int32.toUInt32 31) 32).toBitVec.toNat).toNat = _
        rw [uhk f (by omega), BitVec.toNat_ushiftRight, h2, Nat.shiftRight_eq_div_pow]
      have hz : ∀ y : Int32, y = 0 ↔ y.toBitVec.toNat = 0 := fun y => by
        rw [← Int32.toBitVec_inj, ← BitVec.toNat_inj]; rfl
      have fin : ∀ y : Int32, y.toBitVec.toNat = s.toInt.toNat / 2 ^ f % 2 ^ m → ws (if y = 0 then some (0 : Int32) else some (1 : Int32)) (fun r => r = if hasB s.toInt.toNat f m = true then 1 else 0) := fun y hy => by
        refine ws_i (fun z => ws_s ?_) (fun z => ws_s ?_)
        · rw [if_neg]
          unfold hasB
          rw [← hy, (hz y).mp z]; decide
        · rw [if_pos]
          unfold hasB
          rw [← hy, decide_eq_true_iff]
          exact fun q => z ((hz y).mpr q)
      refine ws_lt (fun c1 => fin _ ?_) (fun c1 => fin _ ?_)
      · rw [t30] at c1
        have em := i_ofN hm
        show (x4.toBitVec &&& (((1 : Int32) <<< (mI &&& 31)) - 1).toBitVec).toNat = _
        rw [BitVec.toNat_and, hX, em, msk m (by omega), Nat.and_two_pow_sub_one_eq_mod]
      · rw [t30] at c1
        rw [hX]
        refine (Nat.mod_eq_of_lt ?_).symm
        exact Nat.lt_of_le_of_lt (Nat.div_le_self _ _) (Nat.lt_of_lt_of_le hS (Nat.pow_le_pow_right (by decide) (by omega)))
    · rw [lt0] at c0
      have : m = 0 := by omega
      subst this
      unfold hasB
      rw [Nat.pow_zero, Nat.mod_one]; rfl
/-! its greatest trees without one of it -/
def buT (S : Nat) : Nat → Nat → Nat → List (Nat × Nat × Bool)
  | 0, f, m => if hasB S f m = true then [] else [(f, m, false)]
  | e + 1, f, m => if hasB S f m = true then (if m = 1 then [] else buT S e f (p0 m) ++ buT S e (f + p0 m) (m - p0 m)) else [(f, m, false)]
/-- how many of the set lie alone -/
def buM (S : Nat) : Nat → Nat → Nat → Nat
  | 0, f, m => if hasB S f m = true then 1 else 0
  | e + 1, f, m => if hasB S f m = true then (if m = 1 then 1 else buM S e f (p0 m) + buM S e (f + p0 m) (m - p0 m)) else 0
theorem buT_1 {S f : Nat} (h : hasB S f 1 = true) (e : Nat) : buT S e f 1 = [] := by
  cases e with
  | zero => rw [buT, if_pos h]
  | succ e => rw [buT, if_pos h, if_pos rfl]
theorem buT_F {S f m : Nat} (h : ¬ hasB S f m = true) (e : Nat) : buT S e f m = [(f, m, false)] := by
  cases e with
  | zero => rw [buT, if_neg h]
  | succ e => rw [buT, if_neg h]
theorem buM_1 {S f : Nat} (h : hasB S f 1 = true) (e : Nat) : buM S e f 1 = 1 := by
  cases e with
  | zero => rw [buM, if_pos h]
  | succ e => rw [buM, if_pos h, if_pos rfl]
theorem buM_F {S f m : Nat} (h : ¬ hasB S f m = true) (e : Nat) : buM S e f m = 0 := by
  cases e with
  | zero => rw [buM, if_neg h]
  | succ e => rw [buM, if_neg h]
theorem buM_le {S : Nat} (hS : S < 2 ^ 30) : ∀ (e f m : Nat), 1 ≤ m → m ≤ 2 ^ e → buM S e f m ≤ min (f + m) 30 - f := by
  intro e
  induction e with
  | zero =>
    intro f m h1 h2
    have : m = 1 := by simp at h2; omega
    subst this
    unfold buM
    by_cases h : hasB S f 1 = true
    · rw [if_pos h]
      obtain ⟨j, q1, q2, q3⟩ := (hasB_iff _ _ _).mp h
      have := bit30 hS q3
      omega
    · rw [if_neg h]; omega
  | succ e ih =>
    intro f m h1 h2
    unfold buM
    by_cases h : hasB S f m = true
    · rw [if_pos h]
      by_cases hm : m = 1
      · rw [if_pos hm]
        subst hm
        obtain ⟨j, q1, q2, q3⟩ := (hasB_iff _ _ _).mp h
        have := bit30 hS q3
        omega
      · rw [if_neg hm]
        have hm2 : 2 ≤ m := by omega
        have hp1 := p0_lt hm2
        have hp2 := p0_le (m := m)
        have hp3 := p0_pos m
        have hp4 := p0_dn hm2 h2
        have a1 := ih f (p0 m) hp3 hp4
        have a2 := ih (f + p0 m) (m - p0 m) (by omega) (by omega)
        omega
    · rw [if_neg h]; omega
theorem v_bundlesIn (n : Nat) {s : Int32} (hs : 0 ≤ s.toInt) (hS : s.toInt.toNat < 2 ^ 30) : ∀ (d e : Nat) (σ : ms_T) (l : List (Nat × Nat × Bool)) (f m : Nat) (fI mI : Int32), WS σ l → fI.toInt = (f : Int) → mI.toInt = (m : Int) → 1 ≤ m → m ≤ 2 ^ e → f + m ≤ 2147483647 → pr (f_X12_bundlesIn n d σ s fI mI) (fun τ => WS τ (l ++ buT s.toInt.toNat e f m)) := by
  intro d
  induction d with
  | zero => intro e σ l f m fI mI _ _ _ _ _ _; rw [f_X12_bundlesIn.eq_1]; exact pr_0
  | succ d ih =>
    intro e σ l f m fI mI hW hf hm hm1 hme hfm
    rw [f_X12_bundlesIn.eq_2]
    refine pr_b (v_hasAny n hs hS hf hm) (fun r hr => ?_)
    by_cases hh : hasB s.toInt.toNat f m = true
    · rw [if_pos hh] at hr
      subst hr
      refine pr_i (fun z => absurd z (by decide)) (fun _ => ?_)
      refine pr_e (fun h1 => pr_s ?_) (fun h1 => ?_)
      · have : m = 1 := by rw [h1, lt1] at hm; omega
        subst this
        have e1 : buT s.toInt.toNat e f 1 = [] := buT_1 hh e
        rw [e1, List.append_nil]
        exact hW
      · rw [lt1, hm] at h1
        have hm2 : 2 ≤ m := by omega
        cases e with
        | zero => simp at hme; omega
        | succ e =>
        have hp1 := p0_lt hm2
        have hp2 := p0_le (m := m)
        have hp3 := p0_pos m
        have hp4 := p0_dn hm2 hme
        have e1 : buT s.toInt.toNat (e + 1) f m = buT s.toInt.toNat e f (p0 m) ++ buT s.toInt.toNat e (f + p0 m) (m - p0 m) := by rw [buT, if_pos hh, if_neg (by omega)]
        rw [e1]
        refine pr_b (v_part0 n mI (by omega)) (fun r hr => ?_)
        rw [hm, Int.toNat_natCast] at hr
        refine pr_b (ih e σ l f (p0 m) _ _ hW hf hr hp3 hp4 (by omega)) (fun τ hτ => ?_)
        refine pr_b (ih e τ _ (f + p0 m) (m - p0 m) _ _ hτ (by rw [ii_add (by omega) (by omega)]; omega) (by rw [ii_sub (by omega) (by omega)]; omega) (by omega) (by omega) (by omega)) (fun υ hυ => pr_s ?_)
        rw [← List.append_assoc]
        exact hυ
    · rw [if_neg hh] at hr
      subst hr
      refine pr_i (fun _ => ?_) (fun z => absurd rfl z)
      have e1 : buT s.toInt.toNat e f m = [(f, m, false)] := buT_F hh e
      rw [e1]
      exact pr_b (v_asks n hW fI mI (f, m, false) hf hm) (fun τ hτ => pr_s hτ)
theorem v_bundleOf (n : Nat) (σ : ms_T) {s : Int32} (hs : 0 ≤ s.toInt) (hS : s.toInt.toNat < 2 ^ 30) (m : Int32) (hm : 1 ≤ m.toInt) : pr (f_X12_bundleOf n σ s m) (fun τ => WS τ (buT s.toInt.toNat 31 0 m.toInt.toNat)) := by
  have hb := ib_hi m
  have h31 : (2 : Nat) ^ 31 = 2147483648 := by decide
  unfold f_X12_bundleOf
  refine pr_l (pr_b (v_bundlesIn n hs hS 40 31 _ [] 0 m.toInt.toNat 0 m ⟨by rw [mI_sI, if_pos rfl]; rfl, fun k q h => by simp at h⟩ rfl (by omega) (by omega) (by omega) (by omega)) (fun τ hτ => pr_s ?_))
  simpa using hτ
/-- no more than 58 of them -/
theorem buT_len (n : Nat) (hn : 70000 ≤ n) (σ : ms_T) {s : Int32} (hs : 0 ≤ s.toInt) (hS : s.toInt.toNat < 2 ^ 30) (m : Int32) (hm : 1 ≤ m.toInt) : (buT s.toInt.toNat 31 0 m.toInt.toNat).length ≤ 58 := by
  obtain ⟨τ, e, w, hw, hw58⟩ := s_bundleOf n hn σ s m hm
  have h1 := (v_bundleOf n σ hs hS m hm τ e).1
  have h2 := hw.2.1
  omega
theorem buT_in {S : Nat} : ∀ (e f m : Nat) {t b : Nat} {c : Bool}, (t, b, c) ∈ buT S e f m → 1 ≤ m → m ≤ 2 ^ e → f ≤ t ∧ t + b ≤ f + m ∧ 1 ≤ b ∧ c = false := by
  intro e
  induction e with
  | zero =>
    intro f m t b c h h1 h2
    unfold buT at h
    by_cases hh : hasB S f m = true
    · rw [if_pos hh] at h; cases h
    · rw [if_neg hh, List.mem_singleton] at h
      cases h
      exact ⟨Nat.le_refl _, Nat.le_refl _, h1, rfl⟩
  | succ e ih =>
    intro f m t b c h h1 h2
    unfold buT at h
    by_cases hh : hasB S f m = true
    · rw [if_pos hh] at h
      by_cases hm : m = 1
      · rw [if_pos hm] at h; cases h
      · rw [if_neg hm] at h
        have hm2 : 2 ≤ m := by omega
        have hp1 := p0_lt hm2
        have hp2 := p0_le (m := m)
        have hp3 := p0_pos m
        have hp4 := p0_dn hm2 h2
        rcases List.mem_append.mp h with q | q
        · have := ih f (p0 m) q hp3 hp4
          exact ⟨by omega, by omega, by omega, this.2.2.2⟩
        · have := ih (f + p0 m) (m - p0 m) q (by omega) (by omega)
          exact ⟨by omega, by omega, by omega, this.2.2.2⟩
    · rw [if_neg hh, List.mem_singleton] at h
      cases h
      exact ⟨Nat.le_refl _, Nat.le_refl _, h1, rfl⟩
/-! the class's way to them -/
theorem k_pgw (n : Nat) (w : Nat) {s : Int32} (hs : 0 ≤ s.toInt) (hS : s.toInt.toNat < 2 ^ 30) (l : List (Nat × Nat × Bool)) (hl : l.length < 64) (α : hp_T) (hW : WC α w l) (t m : Nat) (tI : Int32) (ht : tI.toInt = (t : Int)) : ∀ (e d a b : Nat) (aI bI dI : Int32), (t, m, false) ∈ buT s.toInt.toNat e a b → aI.toInt = (a : Int) → bI.toInt = (b : Int) → 1 ≤ b → b ≤ 2 ^ e → a + b ≤ 2147483647 → 0 ≤ dI.toInt → dI.toInt + e ≤ 39 → e + 1 ≤ d → ws (f_X8_putGreatestWithout_L9 n w d α s tI aI bI dI) (fun r => r.1.toInt = (m : Int) ∧ WC r.2 w (l ++ [(t, m, false)]) ∧ wf w α r.2) := by
  intro e
  have t40 : (40 : Int32).toInt = 40 := by decide
  induction e with
  | zero =>
    intro d a b aI bI dI hmem ha hb hb1 hbe hab hd0 hd hdd
    cases d with
    | zero => omega
    | succ d =>
    rw [f_X8_putGreatestWithout_L9.eq_2]
    by_cases hh : hasB s.toInt.toNat a b = true
    · rw [buT, if_pos hh] at hmem; cases hmem
    · rw [buT, if_neg hh, List.mem_singleton] at hmem
      obtain ⟨rfl, rfl⟩ : t = a ∧ m = b := by cases hmem; exact ⟨rfl, rfl⟩
      refine ws_le (fun c => by rw [t40] at c; omega) (fun _ => ws_e (fun _ => ?_) (fun z => by omega))
      refine ws_b (k_has n hs hS ha hb) (fun r hr => ?_)
      rw [if_neg hh] at hr
      subst hr
      refine ws_i (fun _ => ?_) (fun z => absurd rfl z)
      unfold f_X8_putGreatestWithout_J76
      exact ws_b (k_put8 n α w l hW hl (t, m, false) aI bI 0 ha hb rfl) (fun β hβ => ws_s ⟨hb, hβ.1, hβ.2⟩)
  | succ e ih =>
    intro d a b aI bI dI hmem ha hb hb1 hbe hab hd0 hd hdd
    cases d with
    | zero => omega
    | succ d =>
    rw [f_X8_putGreatestWithout_L9.eq_2]
    refine ws_le (fun c => by rw [t40] at c; omega) (fun _ => ?_)
    by_cases hh : hasB s.toInt.toNat a b = true
    · rw [buT, if_pos hh] at hmem
      by_cases hb2 : b = 1
      · rw [if_pos hb2] at hmem; cases hmem
      rw [if_neg hb2] at hmem
      have hm2 : 2 ≤ b := by omega
      have hp1 := p0_lt hm2
      have hp2 := p0_le (m := b)
      have hp3 := p0_pos b
      have hp4 := p0_dn hm2 hbe
      have hdI : (dI + 1).toInt = dI.toInt + 1 := by rw [ii_add (by rw [lt1]; omega) (by rw [lt1]; omega), lt1]
      have hJ : ws (f_X8_putGreatestWithout_J33 n w (f_X8_putGreatestWithout_L9 n w d) α s tI aI bI dI) (fun r => r.1.toInt = (m : Int) ∧ WC r.2 w (l ++ [(t, m, false)]) ∧ wf w α r.2) := by
        unfold f_X8_putGreatestWithout_J33 f_X8_putGreatestWithout_J70
        refine ws_b (k_first n bI (by omega)) (fun r hr => ?_)
        rw [hb, Int.toNat_natCast] at hr
        rcases List.mem_append.mp hmem with hm | hm
        · have hin := buT_in _ _ _ hm hp3 hp4
          have hta : (tI - aI).toInt = (t : Int) - a := by have := ib_hi aI; have := ib_hi tI; rw [ii_sub (by omega) (by omega)]; omega
          refine ws_le (fun c => by omega) (fun c => ws_l ?_)
          exact ih d a (p0 b) aI r (dI + 1) hm ha hr hp3 hp4 (by omega) (by omega) (by omega) (by omega)
        · have hin := buT_in _ _ _ hm (by omega) (by omega)
          have hta : (tI - aI).toInt = (t : Int) - a := by have := ib_hi aI; have := ib_hi tI; rw [ii_sub (by omega) (by omega)]; omega
          refine ws_le (fun c => ws_l (ws_l (ws_l ?_))) (fun c => by omega)
          exact ih d (a + p0 b) (b - p0 b) (aI + r) (bI - r) (dI + 1) hm (by rw [ii_add (by omega) (by omega)]; omega) (by rw [ii_sub (by omega) (by omega)]; omega) (by omega) (by omega) (by omega) (by omega) (by omega) (by omega)
      refine ws_e (fun _ => ?_) (fun _ => hJ)
      refine ws_b (k_has n hs hS ha hb) (fun r hr => ?_)
      rw [if_pos hh] at hr
      subst hr
      exact ws_i (fun z => absurd z (by decide)) (fun _ => hJ)
    · rw [buT, if_neg hh, List.mem_singleton] at hmem
      obtain ⟨rfl, rfl⟩ : t = a ∧ m = b := by cases hmem; exact ⟨rfl, rfl⟩
      refine ws_e (fun _ => ?_) (fun z => by omega)
      refine ws_b (k_has n hs hS ha hb) (fun r hr => ?_)
      rw [if_neg hh] at hr
      subst hr
      refine ws_i (fun _ => ?_) (fun z => absurd rfl z)
      unfold f_X8_putGreatestWithout_J76
      exact ws_b (k_put8 n α w l hW hl (t, m, false) aI bI 0 ha hb rfl) (fun β hβ => ws_s ⟨hb, hβ.1, hβ.2⟩)
theorem k_bun (n : Nat) (hn : 70000 ≤ n) (w : Nat) {s : Int32} (hs : 0 ≤ s.toInt) (hS : s.toInt.toNat < 2 ^ 30) (N : Nat) (NI : Int32) (hN : NI.toInt = (N : Int)) (hN1 : 1 ≤ N) (hNe : N ≤ 2 ^ 31) (α0 : hp_T) (Q : hp_T → Prop) : ∀ (e a b : Nat), 1 ≤ b → b ≤ 2 ^ e → a + b ≤ N → (∀ q, q ∈ buT s.toInt.toNat e a b → q ∈ buT s.toInt.toNat 31 0 N) → ∀ (l : List (Nat × Nat × Bool)) (α : hp_T) (r d : Nat) (aI rI : Int32), WC α w l → wf w α0 α → l.length + (buT s.toInt.toNat e a b).length ≤ 64 → aI.toInt = (a : Int) → rI.toInt = (r : Int) → r + ((buT s.toInt.toNat e a b).length + buM s.toInt.toNat e a b) ≤ 128 → (buT s.toInt.toNat e a b).length + buM s.toInt.toNat e a b ≤ d → (∀ (β : hp_T) (aI' rI' : Int32), WC β w (l ++ buT s.toInt.toNat e a b) → wf w α0 β → aI'.toInt = ((a + b : Nat) : Int) → rI'.toInt = ((r + ((buT s.toInt.toNat e a b).length + buM s.toInt.toNat e a b) : Nat) : Int) → ws (f_X8_toBundle_L9 n w (d - ((buT s.toInt.toNat e a b).length + buM s.toInt.toNat e a b)) β s NI aI' rI') Q) → ws (f_X8_toBundle_L9 n w d α s NI aI rI) Q := by
  intro e
  have t128 : (128 : Int32).toInt = 128 := by decide
  have hNb := ib_hi NI
  -- one tree, or one of the set
  have leafT : ∀ (e a b : Nat), hasB s.toInt.toNat a b = false → 1 ≤ b → a + b ≤ N → (∀ q, q ∈ buT s.toInt.toNat e a b → q ∈ buT s.toInt.toNat 31 0 N) → ∀ (l : List (Nat × Nat × Bool)) (α : hp_T) (r d : Nat) (aI rI : Int32), WC α w l → wf w α0 α → l.length + (buT s.toInt.toNat e a b).length ≤ 64 → aI.toInt = (a : Int) → rI.toInt = (r : Int) → r + ((buT s.toInt.toNat e a b).length + buM s.toInt.toNat e a b) ≤ 128 → (buT s.toInt.toNat e a b).length + buM s.toInt.toNat e a b ≤ d → (∀ (β : hp_T) (aI' rI' : Int32), WC β w (l ++ buT s.toInt.toNat e a b) → wf w α0 β → aI'.toInt = ((a + b : Nat) : Int) → rI'.toInt = ((r + ((buT s.toInt.toNat e a b).length + buM s.toInt.toNat e a b) : Nat) : Int) → ws (f_X8_toBundle_L9 n w (d - ((buT s.toInt.toNat e a b).length + buM s.toInt.toNat e a b)) β s NI aI' rI') Q) → ws (f_X8_toBundle_L9 n w d α s NI aI rI) Q := by
    intro e a b hh hb1 hab hsub l α r d aI rI hW hw hl ha hr hr128 hd K
    have hh' : ¬ hasB s.toInt.toNat a b = true := by rw [hh]; decide
    have e1 : buT s.toInt.toNat e a b = [(a, b, false)] := buT_F hh' e
    have e2 : buM s.toInt.toNat e a b = 0 := buM_F hh' e
    rw [e1, e2] at hr128 hd K
    rw [e1] at hsub hl
    simp only [List.length_singleton, Nat.add_zero] at hl hr128 hd K
    obtain ⟨d, rfl⟩ : ∃ k, d = k + 1 := ⟨d - 1, by omega⟩
    rw [f_X8_toBundle_L9.eq_2]
    refine ws_le (fun c => by rw [t128] at c; omega) (fun _ => ws_le (fun c => by omega) (fun _ => ?_))
    refine ws_b (k_has n hs hS ha (m := 1) (mI := 1) (by decide)) (fun v hv => ?_)
    have h1 : ¬ hasB s.toInt.toNat a 1 = true := fun q => by
      obtain ⟨j, q1, q2, q3⟩ := (hasB_iff _ _ _).mp q
      have : hasB s.toInt.toNat a b = true := (hasB_iff _ _ _).mpr ⟨j, q1, by omega, q3⟩
      rw [hh] at this; cases this
    rw [if_neg h1] at hv
    subst hv
    refine ws_i (fun _ => ?_) (fun z => absurd rfl z)
    unfold f_X8_putGreatestWithout
    refine ws_hc (k_pgw n w hs hS l (by omega) α hW a b aI ha 31 n 0 N 0 NI 0 (hsub _ List.mem_cons_self) rfl hN hN1 hNe (by omega) (by decide) (by decide) (by omega)) (fun v β hβ => ws_l ?_)
    obtain ⟨b1, b2, b3⟩ := hβ
    replace b1 : v.toInt = (b : Int) := b1
    unfold f_X8_toBundle_J47
    refine ws_l ?_
    exact K β _ _ b2 (wf_tr hw b3) (by rw [ii_add (by omega) (by omega)]; omega) (by rw [iw_add, lt1]; omega)
  have leafM : ∀ (e a : Nat), hasB s.toInt.toNat a 1 = true → a + 1 ≤ N → ∀ (l : List (Nat × Nat × Bool)) (α : hp_T) (r d : Nat) (aI rI : Int32), WC α w l → wf w α0 α → aI.toInt = (a : Int) → rI.toInt = (r : Int) → r + ((buT s.toInt.toNat e a 1).length + buM s.toInt.toNat e a 1) ≤ 128 → (buT s.toInt.toNat e a 1).length + buM s.toInt.toNat e a 1 ≤ d → (∀ (β : hp_T) (aI' rI' : Int32), WC β w (l ++ buT s.toInt.toNat e a 1) → wf w α0 β → aI'.toInt = ((a + 1 : Nat) : Int) → rI'.toInt = ((r + ((buT s.toInt.toNat e a 1).length + buM s.toInt.toNat e a 1) : Nat) : Int) → ws (f_X8_toBundle_L9 n w (d - ((buT s.toInt.toNat e a 1).length + buM s.toInt.toNat e a 1)) β s NI aI' rI') Q) → ws (f_X8_toBundle_L9 n w d α s NI aI rI) Q := by
    intro e a hh hab l α r d aI rI hW hw ha hr hr128 hd K
    have e1 : buT s.toInt.toNat e a 1 = [] := buT_1 hh e
    have e2 : buM s.toInt.toNat e a 1 = 1 := buM_1 hh e
    rw [e1, e2] at hr128 hd K
    simp only [List.length_nil, Nat.zero_add, List.append_nil] at hr128 hd K
    obtain ⟨d, rfl⟩ : ∃ k, d = k + 1 := ⟨d - 1, by omega⟩
    rw [f_X8_toBundle_L9.eq_2]
    refine ws_le (fun c => by rw [t128] at c; omega) (fun _ => ws_le (fun c => by omega) (fun _ => ?_))
    refine ws_b (k_has n hs hS ha (m := 1) (mI := 1) (by decide)) (fun v hv => ?_)
    rw [if_pos hh] at hv
    subst hv
    refine ws_i (fun z => absurd z (by decide)) (fun _ => ws_l ?_)
    unfold f_X8_toBundle_J47
    refine ws_l ?_
    exact K α _ _ hW hw (by rw [iw_add, lt1]; omega) (by rw [iw_add, lt1]; omega)
  induction e with
  | zero =>
    intro a b hb1 hbe hab hsub l α r d aI rI hW hw hl ha hr hr128 hd K
    have : b = 1 := by simp at hbe; omega
    subst this
    cases hh : hasB s.toInt.toNat a 1 with
    | true => exact leafM 0 a hh hab l α r d aI rI hW hw ha hr hr128 hd K
    | false => exact leafT 0 a 1 hh hb1 hab hsub l α r d aI rI hW hw hl ha hr hr128 hd K
  | succ e ih =>
    intro a b hb1 hbe hab hsub l α r d aI rI hW hw hl ha hr hr128 hd K
    cases hh : hasB s.toInt.toNat a b with
    | false => exact leafT (e + 1) a b hh hb1 hab hsub l α r d aI rI hW hw hl ha hr hr128 hd K
    | true =>
      by_cases hb2 : b = 1
      · subst hb2
        exact leafM (e + 1) a hh hab l α r d aI rI hW hw ha hr hr128 hd K
      have hm2 : 2 ≤ b := by omega
      have hp1 := p0_lt hm2
      have hp2 := p0_le (m := b)
      have hp3 := p0_pos b
      have hp4 := p0_dn hm2 hbe
      have e1 : buT s.toInt.toNat (e + 1) a b = buT s.toInt.toNat e a (p0 b) ++ buT s.toInt.toNat e (a + p0 b) (b - p0 b) := by rw [buT, if_pos hh, if_neg hb2]
      have e2 : buM s.toInt.toNat (e + 1) a b = buM s.toInt.toNat e a (p0 b) + buM s.toInt.toNat e (a + p0 b) (b - p0 b) := by rw [buM, if_pos hh, if_neg hb2]
      rw [e1] at hsub
      rw [e1, e2, List.length_append] at hr128 hd
      rw [e1, List.length_append] at hl
      rw [e1, e2, List.length_append] at K
      refine ih a (p0 b) hp3 hp4 (by omega) (fun q hq => hsub q (List.mem_append.mpr (Or.inl hq))) l α r d aI rI hW hw (by omega) ha hr (by omega) (by omega) (fun β aI' rI' hWβ hwβ ha' hr' => ?_)
      refine ih (a + p0 b) (b - p0 b) (by omega) (by omega) (by omega) (fun q hq => hsub q (List.mem_append.mpr (Or.inr hq))) _ β _ _ aI' rI' hWβ hwβ (by rw [List.length_append]; omega) ha' hr' (by omega) (by omega) (fun γ aI2 rI2 hWγ hwγ ha2 hr2 => ?_)
      have := K γ aI2 rI2 (by rw [← List.append_assoc]; exact hWγ) hwγ (by rw [ha2]; congr 1; omega) (by rw [hr2]; congr 1; omega)
      rw [show d - ((buT s.toInt.toNat e a (p0 b)).length + buM s.toInt.toNat e a (p0 b)) - ((buT s.toInt.toNat e (a + p0 b) (b - p0 b)).length + buM s.toInt.toNat e (a + p0 b) (b - p0 b)) = d - ((buT s.toInt.toNat e a (p0 b)).length + (buT s.toInt.toNat e (a + p0 b) (b - p0 b)).length + (buM s.toInt.toNat e a (p0 b) + buM s.toInt.toNat e (a + p0 b) (b - p0 b))) by omega]
      exact this
theorem k_toBundle (n : Nat) (hn : 70000 ≤ n) (α : hp_T) (w : Nat) {s : Int32} (hs : 0 ≤ s.toInt) (hS : s.toInt.toNat < 2 ^ 30) (NI : Int32) (hN1 : 1 ≤ NI.toInt) (hlen : (buT s.toInt.toNat 31 0 NI.toInt.toNat).length ≤ 58) : ws (f_X8_toBundle n α w s NI) (fun β => WC β w (buT s.toInt.toNat 31 0 NI.toInt.toNat) ∧ wf w α β) := by
  have hb := ib_hi NI
  have h31 : (2 : Nat) ^ 31 = 2147483648 := by decide
  have hM := buM_le hS 31 0 NI.toInt.toNat (by omega) (by omega)
  unfold f_X8_toBundle
  refine ws_b (k_clear n α w) (fun β hβ => ?_)
  refine k_bun n hn w hs hS NI.toInt.toNat NI (by omega) (by omega) (by omega) α _ 31 0 NI.toInt.toNat (by omega) (by omega) (by omega) (fun _ q => q) [] β 0 n 0 0 hβ.1 hβ.2 (by rw [List.length_nil]; omega) rfl rfl (by omega) (by omega) (fun γ aI' rI' h1 h2 h3 h4 => ?_)
  rw [List.nil_append] at h1
  obtain ⟨d, hd⟩ : ∃ k, n - ((buT s.toInt.toNat 31 0 NI.toInt.toNat).length + buM s.toInt.toNat 31 0 NI.toInt.toNat) = k + 1 := ⟨n - ((buT s.toInt.toNat 31 0 NI.toInt.toNat).length + buM s.toInt.toNat 31 0 NI.toInt.toNat) - 1, by omega⟩
  rw [hd, f_X8_toBundle_L9.eq_2]
  exact ws_le (fun _ => ws_s ⟨h1, h2⟩) (fun _ => ws_le (fun _ => ws_s ⟨h1, h2⟩) (fun c => by omega))
/-! which sets may be asked for -/
abbrev seOK (s m : Int32) : Prop := 0 < s.toInt ∧ 0 ≤ m.toInt ∧ s.toInt.toNat < 2 ^ (min m.toInt.toNat 30)
theorem seOK_S {s m : Int32} (h : seOK s m) : 0 ≤ s.toInt ∧ s.toInt.toNat < 2 ^ 30 ∧ 1 ≤ m.toInt := by
  obtain ⟨h1, h2, h3⟩ := h
  refine ⟨by omega, Nat.lt_of_lt_of_le h3 (Nat.pow_le_pow_right (by decide) (Nat.min_le_right _ _)), ?_⟩
  refine Classical.byContradiction (fun q => ?_)
  have : m.toInt.toNat = 0 := by omega
  rw [this, Nat.zero_min, Nat.pow_zero] at h3
  omega
theorem k_isSet (n : Nat) (s : Int32) : ws (f_X11_isSet n s) (fun r => bo r (0 < s.toInt)) := by
  unfold f_X11_isSet
  exact ws_le (fun c => ws_s (Or.inr ⟨rfl, by rw [lt0] at c; omega⟩)) (fun c => ws_s (Or.inl ⟨rfl, by rw [lt0] at c; omega⟩))
theorem k_lieBelow (n : Nat) (s m : Int32) (hs : 0 < s.toInt) : ws (f_X11_lieBelow n s m) (fun r => bo r (seOK s m)) := by
  have t30 : (30 : Int32).toInt = 30 := by decide
  unfold f_X11_lieBelow
  refine ws_b (k_hob n s (by omega)) (fun r hr => ?_)
  have hmin : ws (f_J9_min_7cf53 n m 30) (fun v => v.toInt = min m.toInt 30) := by
    unfold f_J9_min_7cf53
    exact ws_lt (fun c => ws_s (by rw [t30] at c ⊢; omega)) (fun c => ws_s (by rw [t30] at c; omega))
  refine ws_b hmin (fun v hv => ?_)
  have hmax : ws (f_J9_max_7cf53 n 0 v) (fun u => u.toInt = max 0 v.toInt) := by
    unfold f_J9_max_7cf53
    exact ws_lt (fun c => ws_s (by rw [lt0] at c; omega)) (fun c => ws_s (by rw [lt0] at c ⊢; omega))
  refine ws_b hmax (fun u hu => ?_)
  have hu2 : u.toInt = ((max 0 (min m.toInt 30)).toNat : Int) := by omega
  have eu := i_ofN hu2
  have hsh : ((1 : Int32) <<< (u &&& 31)).toInt = ((2 ^ (max 0 (min m.toInt 30)).toNat : Nat) : Int) := by
    rw [eu]; exact onk _ (by omega)
  have hlog : p0 (s.toInt.toNat + 1) = 2 ^ Nat.log2 s.toInt.toNat := by unfold p0; rw [Nat.add_sub_cancel]
  have hs0 : s.toInt.toNat ≠ 0 := by omega
  have hkey : ∀ k : Nat, 2 ^ k ≤ 2 ^ Nat.log2 s.toInt.toNat ↔ 2 ^ k ≤ s.toInt.toNat := fun k => by
    rw [Nat.pow_le_pow_iff_right (by decide), Nat.le_log2 hs0]
  have hk : (0 ≤ m.toInt ∧ s.toInt.toNat < 2 ^ (min m.toInt.toNat 30)) ↔ s.toInt.toNat < 2 ^ (max 0 (min m.toInt 30)).toNat := by
    by_cases h0 : 0 ≤ m.toInt
    · rw [show (max 0 (min m.toInt 30)).toNat = min m.toInt.toNat 30 by omega]
      exact ⟨fun h => h.2, fun h => ⟨h0, h⟩⟩
    · rw [show (max 0 (min m.toInt 30)).toNat = 0 by omega]
      exact ⟨fun h => absurd h.1 h0, fun h => by rw [Nat.pow_zero] at h; omega⟩
  refine ws_le (fun c => ws_s (Or.inr ⟨rfl, fun q => ?_⟩)) (fun c => ws_s (Or.inl ⟨rfl, hs, hk.mpr ?_⟩))
  · rw [hsh, hr, hlog] at c
    have h1 := (hkey _).mp (by exact_mod_cast c)
    have h2 := hk.mp q.2
    omega
  · rw [hsh, hr, hlog] at c
    refine Nat.lt_of_not_le (fun q => ?_)
    have := (hkey _).mpr q
    omega
theorem v_isBeyond_L (n : Nat) {s m : Int32} (hs : 0 < s.toInt) : ∀ (d v : Nat) (vI : Int32), vI.toInt = (v : Int) → v ≤ 31 → (∀ j, j < v → s.toInt.toNat.testBit j = true → (j : Int) < m.toInt ∧ j < 30) → pr (f_X12_isBeyond_L2 n d s m vI) (fun r => (r = 1 ∧ ∃ j, s.toInt.toNat.testBit j = true ∧ ¬ ((j : Int) < m.toInt ∧ j < 30)) ∨ (r = 0 ∧ ∀ j, j < 31 → s.toInt.toNat.testBit j = true → (j : Int) < m.toInt ∧ j < 30)) := by
  intro d
  induction d with
  | zero => intro v vI _ _ _; rw [f_X12_isBeyond_L2.eq_1]; exact pr_0
  | succ d ih =>
    intro v vI hv hv31 h
    have t31 : (31 : Int32).toInt = 31 := by decide
    have t30 : (30 : Int32).toInt = 30 := by decide
    rw [f_X12_isBeyond_L2.eq_2]
    have e1 : (vI + 1).toInt = ((v + 1 : Nat) : Int) := by rw [iw_add, lt1]; omega
    refine pr_le (fun c => pr_s (Or.inr ⟨rfl, fun j hj => h j (by rw [t31] at c; omega)⟩)) (fun c => ?_)
    rw [t31] at c
    have hJ : (s.toInt.toNat.testBit v = true → (v : Int) < m.toInt ∧ v < 30) → pr (f_X12_isBeyond_J30 n (f_X12_isBeyond_L2 n d) s m vI) (fun r => (r = 1 ∧ ∃ j, s.toInt.toNat.testBit j = true ∧ ¬ ((j : Int) < m.toInt ∧ j < 30)) ∨ (r = 0 ∧ ∀ j, j < 31 → s.toInt.toNat.testBit j = true → (j : Int) < m.toInt ∧ j < 30)) := by
      intro hno
      unfold f_X12_isBeyond_J30
      refine pr_l (ih (v + 1) (vI + 1) e1 (by omega) (fun j hj hb => ?_))
      by_cases ej : j = v
      · rw [ej] at hb ⊢; exact hno hb
      · exact h j (by omega) hb
    refine pr_i (fun z => ?_) (fun z => hJ (fun q => absurd ((bt_ref (by omega) hv (by omega)).mpr q) z))
    have hb := (bt_ref (by omega) hv (by omega)).mp z
    refine pr_le (fun c1 => pr_s (Or.inl ⟨rfl, v, hb, fun q => by omega⟩)) (fun c1 => pr_lt (fun c2 => hJ (fun _ => by rw [t30] at c2; omega)) (fun c2 => pr_s (Or.inl ⟨rfl, v, hb, fun q => by rw [t30] at c2; omega⟩)))
theorem v_isBeyond (n : Nat) {s m : Int32} (hs : 0 < s.toInt) : pr (f_X12_isBeyond n s m) (fun r => bo r (¬ seOK s m)) := by
  have hb := ib_hi s
  unfold f_X12_isBeyond
  refine pr_m (v_isBeyond_L n hs n 0 0 (by decide) (by omega) (fun j hj => absurd hj (Nat.not_lt_zero _))) (fun r hr => ?_)
  rcases hr with ⟨h1, j, h2, h3⟩ | ⟨h1, h2⟩
  · refine Or.inl ⟨h1, fun q => h3 ?_⟩
    have : j < min m.toInt.toNat 30 := by
      refine Nat.lt_of_not_le (fun h => ?_)
      have := Nat.testBit_lt_two_pow (Nat.lt_of_lt_of_le q.2.2 (Nat.pow_le_pow_right (by decide) h))
      rw [h2] at this; cases this
    have h0 := q.2.1
    omega
  · refine Or.inr ⟨h1, fun q => q ⟨hs, ?_⟩⟩
    have h31 : (2 : Nat) ^ 31 = 2147483648 := by decide
    have hlt : s.toInt.toNat < 2 ^ (min m.toInt.toNat 30) := by
      refine Nat.lt_pow_two_of_testBit _ (fun i hi => ?_)
      cases hti : s.toInt.toNat.testBit i with
      | false => rfl
      | true =>
        have hi31 : i < 31 := by
          refine Nat.lt_of_not_le (fun h => ?_)
          have := Nat.testBit_lt_two_pow (x := s.toInt.toNat) (i := i) (Nat.lt_of_lt_of_le (show s.toInt.toNat < 2 ^ 31 by omega) (Nat.pow_le_pow_right (by decide) h))
          rw [hti] at this; cases this
        have := h2 i hi31 hti
        omega
    refine ⟨?_, hlt⟩
    refine Classical.byContradiction (fun h0 => ?_)
    have : m.toInt.toNat = 0 := by omega
    rw [this, Nat.zero_min, Nat.pow_zero] at hlt
    omega
/-! ===== bundle: what it answers, and the pad ===== -/
abbrev buOK (f : Nat → Int32) (a s m : Int32) : Prop := (0 ≤ a.toInt ∧ a.toInt < (f 0).toInt) ∧ m.toInt ≤ (f (72 + a.toInt.toNat)).toInt ∧ seOK s m
def buL (f : Nat → Int32) (a s m : Int32) : List Int32 := mkl (f 1) (EL f a.toInt.toNat) (buT s.toInt.toNat 31 0 m.toInt.toNat)
def buA (f : Nat → Int32) (a s m : Int32) : Int := if buOK f a s m then ((buT s.toInt.toNat 31 0 m.toInt.toNat).length : Int) else -1
theorem v_bundle (n : Nat) (hn : 70000 ≤ n) (σ : ms_T) (hC : rC (ms_E σ 40)) (a s m : Int32) : pr (f_X12_bundle n σ a s m) (fun res => res.1.toInt = buA (ms_E σ 40) a s m ∧ pdl (ms_E res.2 40) = if buOK (ms_E σ 40) a s m then buL (ms_E σ 40) a s m else pdl (ms_E σ 40)) := by
  have h4 := hC.1
  have hb := ib_hi m
  have bad : ∀ v : Int32, ¬ v = 0 → ¬ buOK (ms_E σ 40) a s m → pr (f_X12_bundle_J19 n σ a s m v) (fun res => res.1.toInt = buA (ms_E σ 40) a s m ∧ pdl (ms_E res.2 40) = if buOK (ms_E σ 40) a s m then buL (ms_E σ 40) a s m else pdl (ms_E σ 40)) := fun v hv no => by
    unfold f_X12_bundle_J19 buA
    rw [if_neg no, if_neg no]
    exact v_is1 n σ v hv (pr_s ⟨rfl, rfl⟩)
  unfold f_X12_bundle f_X12_bundle_J9
  refine pr_lt (fun c => bad 1 (by decide) (fun q => by rw [lt0] at c; have := q.2.2.2.1; omega)) (fun c => pr_lt (fun c1 => ?_) (fun c1 => bad 1 (by decide) (fun q => by rw [lt0] at c1; have := q.2.2.1; omega)))
  rw [lt0] at c c1
  refine pr_b (v_noSize n σ hC a m) (fun v hv => ?_)
  rcases hv with ⟨rfl, ok⟩ | ⟨hv, no⟩
  · unfold f_X12_bundle_J19
    refine v_is0 n σ ?_
    obtain ⟨τ0, hτ0⟩ : ∃ τ, τ = ms_sI (ms_sI σ 653 0) 652 0 := ⟨_, rfl⟩
    have e0 : ms_E τ0 40 = ms_E σ 40 := by rw [hτ0]; rfl
    rw [← hτ0]
    refine pr_b (v_isBeyond n (m := m) c1) (fun r hr => ?_)
    rcases hr with ⟨rfl, hno⟩ | ⟨rfl, hyes⟩
    · refine pr_i (fun z => absurd z (by decide)) (fun _ => ?_)
      have no : ¬ buOK (ms_E σ 40) a s m := fun q => hno q.2.2
      unfold buA
      rw [if_neg no, if_neg no]
      refine pr_c (fun x hx => (⟨v_refuse n τ0 5 x hx, z_X12_refuse kq_rf x hx⟩ : (x.1 = -1) ∧ kq τ0 x.2)) (fun r υ hr => pr_s ⟨?_, ?_⟩)
      · show r.toInt = -1
        rw [show r = -1 from hr.1]; rfl
      · show pdl (ms_E υ 40) = pdl (ms_E σ 40)
        rw [show ms_E υ 40 = ms_E τ0 40 from funext (fun j => hr.2.2 40 rfl j), e0]
    · refine pr_i (fun _ => ?_) (fun z => absurd rfl z)
      have hse : seOK s m := Classical.not_not.mp hyes
      have ok1 : buOK (ms_E σ 40) a s m := ⟨ok.2.1, ok.2.2, hse⟩
      obtain ⟨q1, q2, q3⟩ := seOK_S hse
      unfold buA
      rw [if_pos ok1, if_pos ok1]
      have hsz := hC.2.2.2.2.1 a.toInt.toNat (by omega)
      refine pr_b (fun τ hτ => (⟨v_bundleOf n τ0 q1 q2 m q3 τ hτ, z_X12_bundleOf kq_rf τ hτ⟩ : WS τ _ ∧ kq τ0 τ)) (fun τ hτ => ?_)
      obtain ⟨hW, hk⟩ := hτ
      have e1 : ms_E τ 40 = ms_E σ 40 := by rw [show ms_E τ 40 = ms_E τ0 40 from funext (fun j => hk.2 40 rfl j), e0]
      have hlen := buT_len n hn σ q1 q2 m q3
      have h31 : (2 : Nat) ^ 31 = 2147483648 := by decide
      refine pr_c (v_pads n τ (by rw [e1]; exact hC) a.toInt.toNat (by omega) a (by omega) _ hW (by omega) (fun q hq => ?_)) (fun r υ hr => pr_s ⟨hr.1, ?_⟩)
      · obtain ⟨t, b, cc⟩ := q
        have := buT_in _ _ _ hq (by omega) (by omega)
        rw [e1, EL_len]
        show t + b ≤ _
        omega
      · have h2 := hr.2
        rw [e1] at h2
        exact h2
  · exact bad v hv (fun q => no ⟨q.2.2.2.1, q.1, q.2.1⟩)
theorem k_bundle (n : Nat) (hn : 70000 ≤ n) (α : hp_T) (x : Nat) (σ : ms_T) (f : Nat → Int32) (hC : rC f) (h : RWX α x f) (h6 : hp_R α 603 x = x + 919) (h3 : hp_R α 300 (x + 919) = x + 920) (pl : List Int32) (hP : RWL α (x + 919) pl) (a s m : Int32) : ws (f_X11_bundle n α x a s m) (fun res => res.1.toInt = buA f a s m ∧ RWL res.2 (x + 919) (if buOK f a s m then buL f a s m else pl) ∧ pfr x α res.2) := by
  obtain ⟨w, u, h1, h2, -, h4, -⟩ := h
  have hm0 := hC.2.1
  have h44 := hC.1
  have hb := ib_hi m
  have bad : ∀ v : Int32, ¬ buOK f a s m → ws (hq_c (f_X11_refuse n α x v) fun r β => some (r, β)) (fun res => res.1.toInt = buA f a s m ∧ RWL res.2 (x + 919) (if buOK f a s m then buL f a s m else pl) ∧ pfr x α res.2) := fun v hno => by
    unfold buA
    rw [if_neg hno, if_neg hno]
    refine ws_hc (k_refuse n α x v) (fun z γ hz => ws_s ⟨by rw [show z = -1 from hz.1]; rfl, ?_, ?_⟩)
    · rw [show γ = hp_sI α 600 x v from hz.2]; exact RWL_st hP
    · rw [show γ = hp_sI α 600 x v from hz.2]; exact pfr_st
  unfold f_X11_bundle f_X11_bundle_J11 f_X11_bundle_J55
  refine ws_lt (fun c => bad 1 (fun q => by rw [lt0] at c; have := q.2.2.2.1; omega)) (fun c => ws_b (k_isSet n s) (fun r hr => ?_))
  rw [lt0] at c
  rcases hr with ⟨rfl, hs⟩ | ⟨rfl, hs⟩
  rotate_left
  · exact ws_i (fun _ => bad 1 (fun q => hs q.2.2.1)) (fun z => absurd rfl z)
  refine ws_i (fun z => absurd z (by decide)) (fun _ => ws_l ?_)
  rw [h1]
  refine ws_b (k_logAt n h4 hC a) (fun o ho => ?_)
  by_cases hr : 0 ≤ a.toInt ∧ a.toInt < (f 0).toInt
  · rw [if_pos hr] at ho
    subst ho
    have q152 := (h4.2.2.1 a.toInt.toNat (by omega)).1
    have hsz := hC.2.2.2.2.1 a.toInt.toNat (by omega)
    refine ws_hS (ws_l ?_)
    rw [q152]
    refine ws_lt (fun c1 => bad 5 (fun q => by have := q.2.1; omega)) (fun c1 => ?_)
    refine ws_b (k_lieBelow n s m hs) (fun r hr2 => ?_)
    rcases hr2 with ⟨rfl, hse⟩ | ⟨rfl, hse⟩
    · refine ws_i (fun z => absurd z (by decide)) (fun _ => ws_l ?_)
      have ok : buOK f a s m := ⟨hr, c1, hse⟩
      obtain ⟨q1, q2, q3⟩ := seOK_S hse
      have hlen := buT_len n hn σ q1 q2 m q3
      have h31 : (2 : Nat) ^ 31 = 2147483648 := by decide
      refine ws_b (k_toBundle n hn α _ q1 q2 m q3 hlen) (fun β hβ => ws_l (ws_l (ws_l ?_)))
      obtain ⟨hWC, hwf⟩ := hβ
      have hWβ := WR_wf h4 hC hwf
      rw [hwf.1, h1, h6]
      have hPβ : RWL β (x + 919) pl := RWL_wf hP hwf
      refine ws_b (k_marksAlong n hn w (x + 919) _ β (f 1) (by omega) hWβ.2.1.1 (lpA w a.toInt.toNat) (EL f a.toInt.toNat) (WR_LM hWβ hC (by omega)) _ hWC (by omega) (fun q hq => ?_) pl hPβ) (fun γ hγ => ws_l (ws_l ?_))
      · obtain ⟨t, b, cc⟩ := q
        have := buT_in _ _ _ hq (by omega) (by omega)
        rw [EL_len]
        show t + b ≤ _
        omega
      · obtain ⟨hR, hq⟩ := hγ
        have e6 : hp_R γ 603 x = x + 919 := by rw [hq.1, hwf.1]; exact h6
        rw [e6]
        refine ws_hc (k_answer n γ x _) (fun z δ hz => ws_s ⟨?_, ?_, ?_⟩)
        · unfold buA
          rw [if_pos ok, show z = hp_I γ 301 (x + 919) from hz.1, hR.2.1, mkl_len]
        · rw [if_pos ok, show δ = hp_sI γ 600 x 0 from hz.2]; exact RWL_st hR
        · rw [show δ = hp_sI γ 600 x 0 from hz.2]
          exact pfr_tr (pfr_wf hwf) (pfr_tr (pfr_qf hq (by rw [hwf.1]; exact h3)) pfr_st)
    · exact ws_i (fun _ => bad 5 (fun q => hse q.2.2)) (fun z => absurd rfl z)
  · rw [if_neg hr] at ho
    subst ho
    exact ws_hN (bad 2 (fun q => hr q.1))
/-! ===== many ===== -/
def alB (f : Nat → Int32) : Nat → Int32
  | 0 => 0
  | k + 1 => alB f k ||| (f (78 + 4 * k) <<< (Int32.ofNat k &&& 31))
theorem alB_0 (f : Nat → Int32) (k : Nat) (hk : k < 4) (z : f (78 + 4 * k) = 0) : alB f (k + 1) = alB f k := by
  rw [alB, z]
  have e : ∀ j, j < 4 → ((0 : Int32) <<< (Int32.ofNat j &&& 31)) = 0 := by decide
  rw [e k hk]
  exact Int32.toBitVec_inj.mp (by simp)
theorem kI_of {kI : Int32} {k : Nat} (h : kI.toInt = (k : Int)) (hk : k < 4) : kI = Int32.ofNat k := Int32.toInt_inj.mp (by rw [h, Int32.toInt_ofNat_of_lt (by omega)])
abbrev mnOK (a : Int32) : Prop := 0 ≤ a.toInt ∧ a.toInt ≤ 5
def mnA (f : Nat → Int32) (a : Int32) : Int32 := if mnOK a then (if 5 ≤ a.toInt then alB f 4 else f a.toInt.toNat) else -1
theorem v_many_L (n : Nat) (σ : ms_T) : ∀ (d k : Nat) (vI kI : Int32), kI.toInt = (k : Int) → k ≤ 4 → vI = alB (ms_E σ 40) k → pr (f_X12_many_L39 n d σ vI kI) (fun res => res.1 = alB (ms_E σ 40) 4) := by
  intro d
  induction d with
  | zero => intro k vI kI _ _ _; rw [f_X12_many_L39.eq_1]; exact pr_0
  | succ d ih =>
    intro k vI kI hk hl hv
    have t4 := t_4
    rw [f_X12_many_L39.eq_2]
    refine pr_le (fun e => pr_s ?_) (fun e => ?_)
    · show vI = _
      rw [hv, show k = 4 by omega]
    · have hk4 : k < 4 := by omega
      have e1 : (kI + 1).toInt = ((k + 1 : Nat) : Int) := by rw [iw_add, lt1]; omega
      refine pr_b (v_trust n σ k hk4 kI hk 2 (by omega) 2 rfl) (fun v hv1 => pr_l (pr_l (ih (k + 1) _ _ e1 (by omega) ?_)))
      rw [alB, hv, hv1, kI_of hk hk4, show 76 + 4 * k + 2 = 78 + 4 * k by omega]
theorem v_many (n : Nat) (σ : ms_T) (a : Int32) : pr (f_X12_many n σ a) (fun res => res.1 = mnA (ms_E σ 40) a) := by
  have t5 : (5 : Int32).toInt = 5 := by decide
  unfold f_X12_many f_X12_many_J15 mnA
  refine pr_bo (v_isIn n a 0 5) (fun h0 => v_is1 n σ 1 (by decide) (pr_s ?_)) (fun h1 => v_is0 n σ ?_)
  · rw [lt0, t5] at h0
    rw [if_neg h0]
  · rw [lt0, t5] at h1
    rw [if_pos h1]
    refine pr_le (fun e => ?_) (fun e => pr_g (fun _ _ => pr_s ?_))
    · rw [t5] at e
      rw [if_pos e]
      exact v_many_L n (ms_sI (ms_sI σ 653 0) 652 0) n 0 0 0 rfl (by omega) rfl
    · rw [t5] at e
      rw [if_neg (by omega)]
      rfl
theorem k_alarmedBits_L (n : Nat) (α : hp_T) (w : Nat) (f : Nat → Int32) (hA : AL01 f) (h4 : WR α w f) : ∀ (d k : Nat) (vI kI : Int32), kI.toInt = (k : Int) → k ≤ 4 → 5 - k ≤ d → vI = alB f k → ws (f_X10_alarmedBits_L4 n α w d vI kI) (fun r => r = alB f 4) := by
  intro d
  induction d with
  | zero => intro k vI kI _ _ hd; omega
  | succ d ih =>
    intro k vI kI hk hl hd hv
    have t4 := t_4
    rw [f_X10_alarmedBits_L4.eq_2]
    refine ws_le (fun e => ws_s ?_) (fun e => ?_)
    · rw [hv, show k = 4 by omega]
    · have hk4 : k < 4 := by omega
      have e1 : (kI + 1).toInt = ((k + 1 : Nat) : Int) := by rw [iw_add, lt1]; omega
      refine ws_b (k_watcherAt n h4.1 k hk4 kI hk) (fun o ho => ?_)
      subst ho
      obtain ⟨q1, q2, q3, q4⟩ := h4.2.2.2.2.1 k hk4
      unfold f_X10_alarmedBits_J32
      refine ws_hS (ws_l ?_)
      rw [q3]
      rcases hA.1 k hk4 with z | z
      · refine ws_i (fun _ => ws_l (ih (k + 1) _ _ e1 (by omega) (by omega) ?_)) (fun c => absurd z c)
        rw [alB_0 f k hk4 z]; exact hv
      · refine ws_i (fun c => absurd (z.symm.trans c) (by decide)) (fun _ => ws_l (ws_l (ih (k + 1) _ _ e1 (by omega) (by omega) ?_)))
        rw [alB, z, hv, kI_of hk hk4]
theorem k_many (n : Nat) (hn : 70000 ≤ n) (α : hp_T) (x : Nat) (f : Nat → Int32) (hC : rC f) (hA : AL01 f) (h : RWX α x f) (h6 : hp_R α 603 x = x + 919) (hP : RWL α (x + 919) (pdl f)) (a : Int32) : ws (f_X11_many n α x a) (fun res => res.1 = mnA f a) := by
  obtain ⟨w, u, h1, h2, h3, h4, -⟩ := h
  have h2' := hC.2.2.1
  have t2 := t_2
  have t1 := lt1
  have t0 := lt0
  have t3 : (3 : Int32).toInt = 3 := by decide
  have t4 := t_4
  have t5 : (5 : Int32).toInt = 5 := by decide
  have fin : ∀ v : Int32, v = mnA f a → ws (hq_c (f_X11_answer n α x v) fun r β => some (r, β)) (fun res => res.1 = mnA f a) := fun v hv => ws_hc (k_answer n α x v) (fun z γ hz => ws_s (hz.1.trans hv))
  obtain ⟨w1, w2, w3, w4⟩ := h4.2.1
  have mk : ∀ j : Nat, j < 5 → a.toInt = (j : Int) → mnA f a = f j := fun j hj hv => by
    unfold mnA
    rw [if_pos ⟨by omega, by omega⟩, if_neg (by omega), hv]; rfl
  unfold f_X11_many
  rw [h1, h6]
  refine ws_i (fun e => ws_l (ws_l (fin _ ?_))) (fun c0 => ws_i (fun e => ws_l (ws_l (fin _ ?_))) (fun c1 => ws_i (fun e => ws_l (ws_l (fin _ ?_))) (fun c2 => ws_i (fun e => ws_l (ws_l (fin _ ?_))) (fun c3 => ws_i (fun e => ws_l (ws_l (fin _ ?_))) (fun c4 => ws_i (fun e => ws_l ?_) (fun c5 => ?_))))))
  · rw [w2, mk 0 (by omega) (by rw [e]; rfl)]
  · rw [w1, mk 1 (by omega) (by rw [e]; rfl)]
  · rw [mk 2 (by omega) (by rw [e]; rfl)]
    refine Int32.toInt_inj.mp ?_
    have := hP.2.1
    rw [pdl_len] at this
    omega
  · rw [w3, mk 3 (by omega) (by rw [e]; rfl)]
  · rw [w4, mk 4 (by omega) (by rw [e]; rfl)]
  · unfold f_X10_alarmedBits
    refine ws_b (k_alarmedBits_L n α w f hA h4 n 0 0 0 rfl (by omega) (by omega) rfl) (fun r hr => fin _ ?_)
    rw [hr]
    unfold mnA
    rw [if_pos ⟨by rw [e, t5]; omega, by rw [e, t5]; omega⟩, if_pos (by rw [e, t5]; omega)]
  · have no : ¬ mnOK a := fun q => by
      have n0 : ¬ a.toInt = 0 := fun q => c0 (Int32.toInt_inj.mp (by rw [q]; rfl))
      have n1 : ¬ a.toInt = 1 := fun q => c1 (Int32.toInt_inj.mp (by rw [q]; rfl))
      have n2 : ¬ a.toInt = 2 := fun q => c2 (Int32.toInt_inj.mp (by rw [q]; rfl))
      have n3 : ¬ a.toInt = 3 := fun q => c3 (Int32.toInt_inj.mp (by rw [q]; rfl))
      have n4 : ¬ a.toInt = 4 := fun q => c4 (Int32.toInt_inj.mp (by rw [q]; rfl))
      have n5 : ¬ a.toInt = 5 := fun q => c5 (Int32.toInt_inj.mp (by rw [q]; rfl))
      have := q.1
      have := q.2
      omega
    unfold mnA
    rw [if_neg no]
    exact ws_hc (k_refuse n α x 1) (fun z γ hz => ws_s hz.1)
/-! ===== the pad, beside LX ===== -/
def pde (f g : Nat → Int32) : Prop := g 2 = f 2 ∧ ∀ j, 8 ≤ j → j < 72 → g j = f j
theorem pde_rf {f : Nat → Int32} : pde f f := ⟨rfl, fun _ _ _ => rfl⟩
theorem pdl_pde {f g : Nat → Int32} (hC : rC f) (h : pde f g) : pdl g = pdl f := by
  have h2 := hC.2.2.1
  unfold pdl
  rw [h.1]
  exact List.map_congr_left (fun k hk => h.2 _ (by omega) (by rw [List.mem_range] at hk; omega))
theorem pd_ad {f g : Nat → Int32} {l : List Int32} {a : Int32} (hg : adG f l a g) : pde f g := by
  unfold adG at hg
  by_cases ok : adOK f a
  · rw [if_pos ok] at hg
    obtain ⟨-, -, -, -, h⟩ := hg
    exact ⟨h 2 (by omega) (by omega) (by omega) (by omega), fun j _ _ => h j (by omega) (by omega) (by omega) (by omega)⟩
  · rw [if_neg ok] at hg
    rw [hg]; exact pde_rf
theorem pd_fo {f g : Nat → Int32} {a b : Int32} (hg : foG f a b g) : pde f g := by
  unfold foG at hg
  by_cases ok : foOK f a b
  · rw [if_pos ok] at hg
    obtain ⟨-, -, -, -, h⟩ := hg
    exact ⟨h 2 (by omega) (by omega) (by omega) (by omega) (by omega), fun j _ _ => h j (by omega) (by omega) (by omega) (by omega) (by omega)⟩
  · rw [if_neg ok] at hg
    rw [hg]; exact pde_rf
theorem pd_fz {f g : Nat → Int32} {a : Int32} (hg : fzG f a g) : pde f g := by
  unfold fzG at hg
  by_cases ok : (0 ≤ a.toInt ∧ a.toInt < (f 0).toInt) ∧ (f 3).toInt < 16
  · rw [if_pos ok] at hg
    obtain ⟨-, -, -, -, -, -, -, h⟩ := hg
    exact ⟨h 2 (by omega) (by omega) (by omega), fun j _ _ => h j (by omega) (by omega) (by omega)⟩
  · rw [if_neg ok] at hg
    rw [hg]; exact pde_rf
theorem pd_sh {f g : Nat → Int32} {a b c : Int32} (hg : shG f a b c g) : pde f g := by
  unfold shG at hg
  by_cases ok : shOK f a b c
  · rw [if_pos ok] at hg
    obtain ⟨-, -, -, -, h⟩ := hg
    exact ⟨h 2 (by omega) (by omega), fun j _ _ => h j (by omega) (by omega)⟩
  · rw [if_neg ok] at hg
    rw [hg]; exact pde_rf
theorem pd_meF {f g : Nat → Int32} {a b r : Nat} (hg : meF f a b r g) : pde f g := by
  obtain ⟨-, -, -, -, -, h⟩ := hg
  exact ⟨h 2 (by omega) (by omega) (by omega) (by omega) (by omega), fun j _ _ => h j (by omega) (by omega) (by omega) (by omega) (by omega)⟩
theorem pd_me {f g : Nat → Int32} {a b c : Int32} (hg : meG f a b c g) : pde f g := by
  unfold meG at hg
  by_cases ok : meOK f a b c
  · rw [if_pos ok] at hg
    by_cases q : (f (76 + 4 * b.toInt.toNat)).toInt < (f (76 + 4 * a.toInt.toNat)).toInt
    · rw [if_pos q] at hg; exact pd_meF hg
    · rw [if_neg q] at hg; exact pd_meF hg
  · rw [if_neg ok] at hg
    rw [hg]; exact pde_rf
theorem pd_sp {f g : Nat → Int32} {a b c d : Int32} (hg : spG f a b c d g) : pde f g := by
  unfold spG at hg
  by_cases ok : spOK f a b c d
  · rw [if_pos ok] at hg
    obtain ⟨-, -, h⟩ := hg
    exact ⟨h 2 (by omega) (by omega), fun j _ _ => h j (by omega) (by omega)⟩
  · rw [if_neg ok] at hg
    rw [hg]; exact pde_rf
/-- the pad of both sides -/
def PDX (α : hp_T) (x : Nat) (f : Nat → Int32) : Prop := RWL α (x + 919) (pdl f)
/-- what leaves the class's pad -/
def pkp (x : Nat) (α β : hp_T) : Prop := hp_I β 301 (x + 919) = hp_I α 301 (x + 919) ∧ hp_R β 300 (x + 919) = hp_R α 300 (x + 919) ∧ ∀ j, hp_E β 20 (x + 920) j = hp_E α 20 (x + 920) j
theorem PDX_k {α β : hp_T} {x : Nat} {f : Nat → Int32} (h : PDX α x f) (h3 : hp_R α 300 (x + 919) = x + 920) (c : pkp x α β) : PDX β x f := by
  obtain ⟨h1, h2, h4⟩ := h
  refine ⟨h1, by rw [c.1]; exact h2, fun k hk => ?_⟩
  rw [c.2.1, h3, c.2.2, ← h3]
  exact h4 k hk
theorem PDX_e {α : hp_T} {x : Nat} {f g : Nat → Int32} (h : PDX α x f) (e : pdl g = pdl f) : PDX α x g := by
  unfold PDX at h ⊢
  rw [e]; exact h
def wpd (w : cw_W) : Bool := !(w.1.contains 301) && !(w.2.1.contains 300) && !(w.2.2.1.contains 20)
theorem pkp_cw {w : cw_W} {α β : hp_T} {x : Nat} (c : cw w α β) (hw : wpd w = true) : pkp x α β := by
  obtain ⟨c0, c1, c2, c3, c4, c5, c6, c7, c8⟩ := c
  simp only [wpd, Bool.and_eq_true, Bool.not_eq_true', List.contains_eq_mem, decide_eq_false_iff_not] at hw
  exact ⟨by rw [c5 301 hw.1.1], by rw [c6 300 hw.1.2], fun j => by rw [c7 20 hw.2]⟩
theorem pkp_wfs {α β : hp_T} {x : Nat} (h : wfs x α β) : pkp x α β := by
  obtain ⟨w1, -, -, -, w5, w6⟩ := h
  exact ⟨w5 301 _ (by omega) (fun q => absurd q.1 (by decide)), by rw [w1], fun j => w6 20 _ j (by omega)⟩
/-! ===== beside LX: where the reader's rows and those of what was heard lie; the fault ===== -/
theorem in_X3_300 (α : hp_T) (h a : Nat) (ha : a < h) : hp_R (F_X3_init α h a) 300 (h + 2) = h + 3 := by
  rw [(tl_X3_5 α h a (h + 2) (by omega) (by omega)).2.2.2.1 300]
  exact (fd_X5_300 (F_X3_init_4 α h a) (h + (3)) (h + (2)) (by omega)).trans (by omega)
theorem in_X3_450 (α : hp_T) (h a : Nat) (ha : a < h) : hp_R (F_X3_init α h a) 450 (h + 4) = h + 5 ∧ hp_R (F_X3_init α h a) 451 (h + 4) = h + 6 ∧ hp_R (F_X3_init α h a) 452 (h + 4) = h + 7 := by
  have q := tl_X3_8 α h a (h + 4) (by omega) (by omega)
  refine ⟨?_, ?_, ?_⟩
  · rw [q.2.2.2.1 450]
    exact (fd_X8_450 (F_X3_init_7 α h a) (h + (5)) (h + (4)) (by omega)).trans (by omega)
  · rw [q.2.2.2.1 451]
    exact (fd_X8_451 (F_X3_init_7 α h a) (h + (5)) (h + (4)) (by omega)).trans (by omega)
  · rw [q.2.2.2.1 452]
    exact (fd_X8_452 (F_X3_init_7 α h a) (h + (5)) (h + (4)) (by omega)).trans (by omega)
theorem XHR_0 (α : hp_T) (x : Nat) (hX : XSH (F_X11_init α (x + 1) x) x) : XHR (F_X11_init α (x + 1) x) x := by
  have ha : x < x + 1 := by omega
  have q : ∀ b, x + 944 ≤ b → b < x + 955 → ∀ φ, hp_R (F_X11_init α (x + 1) x) φ b = hp_R (F_X3_init (F_X11_init_41 α (x + 1) x) (x + 1 + 944) (x + 1 + 943)) φ b := fun b h1 h2 φ => (tl_X11_42 α (x + 1) x b (by omega) (by omega)).2.2.2.1 φ
  have w := in_X3_450 (F_X11_init_41 α (x + 1) x) (x + 1 + 944) (x + 1 + 943) (by omega)
  refine ⟨⟨hX.2.2.2.2.2, ?_, ?_, ?_, ?_, ?_, ?_⟩, Or.inl ⟨?_, ?_⟩, ?_, ?_⟩
  · rw [q _ (by omega) (by omega), show x + 944 = x + 1 + 943 by omega]
    exact (fd_X3_201 _ _ _ (by omega)).trans (by omega)
  · rw [q _ (by omega) (by omega), show x + 944 + 3 = x + 1 + 944 + 2 by omega]
    exact (in_X3_300 _ _ _ (by omega)).trans (by omega)
  · rw [q _ (by omega) (by omega), show x + 944 = x + 1 + 943 by omega]
    exact (fd_X3_202 _ _ _ (by omega)).trans (by omega)
  · rw [q _ (by omega) (by omega), show x + 944 + 5 = x + 1 + 944 + 4 by omega]
    exact w.1.trans (by omega)
  · rw [q _ (by omega) (by omega), show x + 944 + 5 = x + 1 + 944 + 4 by omega]
    exact w.2.1.trans (by omega)
  · rw [q _ (by omega) (by omega), show x + 944 + 5 = x + 1 + 944 + 4 by omega]
    exact w.2.2.trans (by omega)
  · rw [fd_X11_608 α (x + 1) x ha]
  · rw [fd_X11_609 α (x + 1) x ha]
  · have r := tl_X11_21 α (x + 1) x (x + 926) (by omega) (by omega)
    have f : hp_R (F_X5_init (F_X11_init_20 α (x + 1) x) (x + 1 + 926) (x + 1 + 925)) 300 (x + 1 + 925) = _ := fd_X5_300 _ _ _ (by omega)
    rw [r.2.2.2.1 300, show x + 926 = x + 1 + 925 by omega]
    exact f.trans (by omega)
  · have r := tl_X11_24 α (x + 1) x (x + 928) (by omega) (by omega)
    have f : hp_R (F_X5_init (F_X11_init_23 α (x + 1) x) (x + 1 + 928) (x + 1 + 927)) 300 (x + 1 + 927) = _ := fd_X5_300 _ _ _ (by omega)
    rw [r.2.2.2.1 300, show x + 928 = x + 1 + 927 by omega]
    exact f.trans (by omega)
theorem FLX_0 (α : hp_T) (x : Nat) (σ : ms_T) (hσ : ms_i0 σ) : FLX (F_X11_init α (x + 1) x) x σ := by
  obtain ⟨s1, -⟩ := hσ
  have q := tl_X11_42 α (x + 1) x (x + 944) (by omega) (by omega)
  have f4 : hp_I (F_X3_init (F_X11_init_41 α (x + 1) x) (x + 1 + 944) (x + 1 + 943)) 204 (x + 1 + 943) = _ := fd_X3_204 _ _ _ (by omega)
  have f5 : hp_I (F_X3_init (F_X11_init_41 α (x + 1) x) (x + 1 + 944) (x + 1 + 943)) 205 (x + 1 + 943) = _ := fd_X3_205 _ _ _ (by omega)
  refine ⟨?_, ?_⟩
  · rw [q.2.1 204, s1 668, if_pos (by decide), show x + 944 = x + 1 + 943 by omega]
    exact f4
  · rw [q.2.1 205, s1 669, if_pos (by decide), show x + 944 = x + 1 + 943 by omega]
    exact f5
def CZ (α : hp_T) (x : Nat) (σ : ms_T) : Prop := XHR α x ∧ (flP → FLX α x σ)
theorem CZ_0 (α : hp_T) (x : Nat) (σ : ms_T) (hσ : ms_i0 σ) (hX : XSH (F_X11_init α (x + 1) x) x) : CZ (F_X11_init α (x + 1) x) x σ := ⟨XHR_0 α x hX, fun _ => FLX_0 α x σ hσ⟩
def okC (φ : Nat) : Bool := [200, 201, 202, 207, 300, 450, 451, 452, 500, 608, 609].contains φ
/-- the addresses of it -/
def inC (x b : Nat) : Prop := b = x ∨ b = x + 926 ∨ b = x + 928 ∨ b = x + 944 ∨ b = x + 947 ∨ b = x + 949 ∨ b = x + 953
theorem XHR_f {α β : hp_T} {x : Nat} (h : XHR α x) (eR : ∀ φ b, inC x b → okC φ = true → hp_R β φ b = hp_R α φ b) : XHR β x := by
  obtain ⟨⟨⟨r1, r2, r3⟩, r4, r5, r6, r7, r8, r9⟩, h2, h3, h4⟩ := h
  refine ⟨⟨⟨?_, ?_, ?_⟩, ?_, ?_, ?_, ?_, ?_, ?_⟩, ?_, ?_, ?_⟩
  · rw [eR 200 _ (by unfold inC; omega) rfl]; exact r1
  · rw [eR 207 _ (by unfold inC; omega) rfl]; exact r2
  · rw [eR 500 _ (by unfold inC; omega) rfl]; exact r3
  · rw [eR 201 _ (by unfold inC; omega) rfl]; exact r4
  · rw [eR 300 _ (by unfold inC; omega) rfl]; exact r5
  · rw [eR 202 _ (by unfold inC; omega) rfl]; exact r6
  · rw [eR 450 _ (by unfold inC; omega) rfl]; exact r7
  · rw [eR 451 _ (by unfold inC; omega) rfl]; exact r8
  · rw [eR 452 _ (by unfold inC; omega) rfl]; exact r9
  · rw [eR 608 _ (by unfold inC; omega) rfl, eR 609 _ (by unfold inC; omega) rfl]; exact h2
  · rw [eR 300 _ (by unfold inC; omega) rfl]; exact h3
  · rw [eR 300 _ (by unfold inC; omega) rfl]; exact h4
def wcz (w : cw_W) : Bool := w.1.all (fun φ => !(φ == 204) && !(φ == 205)) && w.2.1.all (fun φ => !(okC φ))
theorem wcz_I {w : cw_W} (h : wcz w = true) {φ : Nat} (hφ : φ = 204 ∨ φ = 205) : φ ∉ w.1 := fun q => by
  simp only [wcz, Bool.and_eq_true, List.all_eq_true] at h
  have := h.1 φ q
  rcases hφ with e | e <;> rw [e] at this <;> simp at this
theorem wcz_R {w : cw_W} (h : wcz w = true) {φ : Nat} (hφ : okC φ = true) : φ ∉ w.2.1 := fun q => by
  simp only [wcz, Bool.and_eq_true, List.all_eq_true] at h
  have := h.2 φ q
  rw [hφ] at this; simp at this
theorem CZ_cw {w : cw_W} {α β : hp_T} {x : Nat} {σ : ms_T} (h : CZ α x σ) (c : cw w α β) (hw : wcz w = true) : CZ β x σ := by
  obtain ⟨c0, c1, c2, c3, c4, c5, c6, c7, c8⟩ := c
  refine ⟨XHR_f h.1 (fun φ b _ r => by rw [c6 φ (wcz_R hw r)]), fun p => ⟨?_, ?_⟩⟩
  · rw [c5 204 (wcz_I hw (Or.inl rfl))]; exact (h.2 p).1
  · rw [c5 205 (wcz_I hw (Or.inr rfl))]; exact (h.2 p).2
theorem CZ_cg {w : cw_W} {α β : hp_T} {x : Nat} {σ : ms_T} (g : GC α) (hk : hp_K α x = 12) (hX : XSH α x) (h : CZ α x σ) (c : cg w α β) (hw : wcz w = true) : CZ β x σ := by
  obtain ⟨z1, z2, z3, z4, z5, z6, z7, z8⟩ := id hX
  obtain ⟨⟨⟨r1, r2, r3⟩, r4, r5, r6, r7, r8, r9⟩, h2, h3, h4⟩ := id h.1
  have k44 : hp_K α (x + 944) = 4 := gkR g hk z5 rfl (by decide) (by decide)
  have k26 : hp_K α (x + 926) = 6 ∧ hp_K α (x + 928) = 6 := by
    rcases h2 with q | q
    · exact ⟨gkR g hk q.1 rfl (by decide) (by decide), gkR g hk q.2 rfl (by decide) (by decide)⟩
    · exact ⟨gkR g hk q.2 rfl (by decide) (by decide), gkR g hk q.1 rfl (by decide) (by decide)⟩
  have hK : ∀ b, inC x b → hp_K α b ≠ 0 := by
    intro b hb
    rcases hb with e | e | e | e | e | e | e
    · rw [e]; exact nz hk (by decide)
    · rw [e]; exact nz k26.1 (by decide)
    · rw [e]; exact nz k26.2 (by decide)
    · rw [e]; exact nz k44 (by decide)
    · rw [e]; exact nz (gkR g k44 r4 rfl (by decide) (by decide)) (by decide)
    · rw [e]; exact nz (gkR g k44 r6 rfl (by decide) (by decide)) (by decide)
    · rw [e]; exact nz (gkR g k44 r2 rfl (by decide) (by decide)) (by decide)
  obtain ⟨c0, c1, c2, c3, -⟩ := c
  refine ⟨XHR_f h.1 (fun φ b p r => c3 φ b (hK b p) (wcz_R hw r)), fun p => ⟨?_, ?_⟩⟩
  · rw [c2 204 _ (nz k44 (by decide)) (wcz_I hw (Or.inl rfl))]; exact (h.2 p).1
  · rw [c2 205 _ (nz k44 (by decide)) (wcz_I hw (Or.inr rfl))]; exact (h.2 p).2
theorem CZ_C {α β : hp_T} {x : Nat} {σ : ms_T} (g : GC α) (hk : hp_K α x = 12) (hX : XSH α x) (h : CZ α x σ) (c : ∀ q, hp_K α q ≠ 0 → saC α β q) : CZ β x σ := by
  obtain ⟨z1, z2, z3, z4, z5, z6, z7, z8⟩ := id hX
  obtain ⟨⟨⟨r1, r2, r3⟩, r4, r5, r6, r7, r8, r9⟩, h2, h3, h4⟩ := id h.1
  have k44 : hp_K α (x + 944) = 4 := gkR g hk z5 rfl (by decide) (by decide)
  have k26 : hp_K α (x + 926) = 6 ∧ hp_K α (x + 928) = 6 := by
    rcases h2 with q | q
    · exact ⟨gkR g hk q.1 rfl (by decide) (by decide), gkR g hk q.2 rfl (by decide) (by decide)⟩
    · exact ⟨gkR g hk q.2 rfl (by decide) (by decide), gkR g hk q.1 rfl (by decide) (by decide)⟩
  have hK : ∀ b, inC x b → hp_K α b ≠ 0 := by
    intro b hb
    rcases hb with e | e | e | e | e | e | e
    · rw [e]; exact nz hk (by decide)
    · rw [e]; exact nz k26.1 (by decide)
    · rw [e]; exact nz k26.2 (by decide)
    · rw [e]; exact nz k44 (by decide)
    · rw [e]; exact nz (gkR g k44 r4 rfl (by decide) (by decide)) (by decide)
    · rw [e]; exact nz (gkR g k44 r6 rfl (by decide) (by decide)) (by decide)
    · rw [e]; exact nz (gkR g k44 r2 rfl (by decide) (by decide)) (by decide)
  have c4 := c (x + 944) (nz k44 (by decide))
  refine ⟨XHR_f h.1 (fun φ b p r => (c b (hK b p)).2.2.1 φ), fun p => ⟨?_, ?_⟩⟩
  · rw [c4.2.1 204 (by decide)]; exact (h.2 p).1
  · rw [c4.2.1 205 (by decide)]; exact (h.2 p).2
theorem CZ_load {α β : hp_T} {x : Nat} {σ τ : ms_T} (h : CZ α x σ) (hL : LXW β x τ) (hf : ldf x α β) : CZ β x τ :=
  ⟨XHR_f h.1 (fun φ b q r => hf.1 φ b (fun z => by rcases z.2 with e | e <;> rw [e] at r <;> cases r) (fun z => by rw [z.2] at r; cases r)), hL.2.2.2.2.1⟩
theorem LX_heard {α : hp_T} {x : Nat} {σ : ms_T} {res : Int32 × ms_T} {a : Int32 × hp_T} (h : LX α x σ) (o : HRO x α σ res res a) (hC : rC (ms_E res.2 40)) : LX a.2 x res.2 := by
  obtain ⟨-, hT, -, -, -, ⟨f1, f2, f3, f4, f5, f6⟩, k⟩ := o
  obtain ⟨h0, h1, ⟨w, u, g1, g2, g3, g4, g5⟩, h3, -, l, h5, h6⟩ := h
  have e40 : ms_E res.2 40 = ms_E σ 40 := funext (k.2 40 (by decide))
  have eR : ∀ φ b, okR φ = true → hp_R a.2 φ b = hp_R α φ b := fun φ b r => f1 φ b (fun z => by rcases z.2 with e | e <;> rw [e] at r <;> cases r) (fun z => by rw [z.2] at r; cases r)
  refine ⟨hC, XSH_f h1 (fun φ b _ r => eR φ b r) (by rw [f2]), ?_, by rw [e40]; exact h3, hT, l, TYS_e h5 (k.1 664 (by decide)) (fun j => k.2 45 (by decide) j), TYC_f h6 (fun φ b _ r => eR φ b r) (fun b p q => f5 501 b (fun z => by omega) (fun z => by omega) (by omega)) (fun b j p q => f6 27 b j (fun z => by omega) (by omega))⟩
  rw [e40]
  exact ⟨w, u, by rw [eR 601 _ rfl]; exact g1, by rw [eR 602 _ rfl]; exact g2, g3, WZ_z g4 h0 (fun φ b p q r => eR φ b r) (fun κ b j p q => by rw [f3]) (fun φ b p q r => f5 φ b (fun z => by rcases z.2 with e | e <;> rw [e] at r <;> cases r) (fun z => by rw [z.1] at r; cases r) (by omega)) (fun κ b j p q r => f6 κ b j (fun z => by omega) (by omega)), SHW_z g5 (fun φ b p q r => eR φ b r) (fun κ b j p q => by rw [f3])⟩
theorem CZ_hear {α : hp_T} {x : Nat} {σ : ms_T} {res : Int32 × ms_T} {a : Int32 × hp_T} (h : CZ α x σ) (o : HRO x α σ res res a) : CZ a.2 x res.2 := ⟨o.2.2.1, fun p => o.2.2.2.2.1 (h.2 p)⟩
/-! ===== PAD mode ===== -/
/-- where the rows of marks lie -/
def PRX (α : hp_T) (x : Nat) : Prop := hp_R α 614 x = x + 939 ∧ hp_R α 300 (x + 939) = x + 940 ∧ hp_R α 300 (x + 919) = x + 920
def CX (α : hp_T) (x : Nat) (σ : ms_T) : Prop := CZ α x σ ∧ PRX α x ∧ PDX α x (ms_E σ 40)
theorem PRX_0 (α : hp_T) (x : Nat) : PRX (F_X11_init α (x + 1) x) x := by
  have ha : x < x + 1 := by omega
  have f : hp_R (F_X5_init (F_X11_init_35 α (x + 1) x) (x + 1 + 939) (x + 1 + 938)) 300 (x + 1 + 938) = _ := fd_X5_300 _ _ _ (by omega)
  have g : hp_R (F_X5_init (F_X11_init_8 α (x + 1) x) (x + 1 + 919) (x + 1 + 918)) 300 (x + 1 + 918) = _ := fd_X5_300 _ _ _ (by omega)
  refine ⟨?_, ?_, ?_⟩
  · rw [fd_X11_614 α (x + 1) x ha]
  · rw [(tl_X11_36 α (x + 1) x (x + 939) (by omega) (by omega)).2.2.2.1 300, show x + 939 = x + 1 + 938 by omega]
    exact f.trans (by omega)
  · rw [(tl_X11_9 α (x + 1) x (x + 919) (by omega) (by omega)).2.2.2.1 300, show x + 919 = x + 1 + 918 by omega]
    exact g.trans (by omega)
theorem PDX_0 (α : hp_T) (x : Nat) (σ : ms_T) (hσ : ms_i0 σ) : PDX (F_X11_init α (x + 1) x) x (ms_E σ 40) := by
  obtain ⟨-, -, -, -, s5⟩ := hσ
  have e2 : ms_E σ 40 2 = 0 := s5 2 (by omega) (by omega)
  have e : pdl (ms_E σ 40) = [] := by
    unfold pdl
    rw [e2]; rfl
  have g : hp_I (F_X5_init (F_X11_init_8 α (x + 1) x) (x + 1 + 919) (x + 1 + 918)) 301 (x + 1 + 918) = _ := fd_X5_301 _ _ _ (by omega)
  have z : hp_I (F_X11_init α (x + 1) x) 301 (x + 919) = 0 := by
    rw [(tl_X11_9 α (x + 1) x (x + 919) (by omega) (by omega)).2.1 301, show x + 919 = x + 1 + 918 by omega]
    exact g
  unfold PDX
  rw [e]
  exact ⟨by simp, by rw [z]; rfl, fun k hk => absurd hk (by simp)⟩
theorem CX_0 (α : hp_T) (x : Nat) (σ : ms_T) (hσ : ms_i0 σ) (hX : XSH (F_X11_init α (x + 1) x) x) : CX (F_X11_init α (x + 1) x) x σ := ⟨CZ_0 α x σ hσ hX, PRX_0 α x, PDX_0 α x σ hσ⟩
/-- what leaves the shape; and the pad, too -/
def wcy (w : cw_W) : Bool := wcz w && !(w.2.1.contains 614)
def wcx (w : cw_W) : Bool := wcy w && wpd w
theorem wcy_z {w : cw_W} (h : wcy w = true) : wcz w = true := by
  simp only [wcy, Bool.and_eq_true] at h
  exact h.1
theorem wcy_4 {w : cw_W} (h : wcy w = true) : 614 ∉ w.2.1 := by
  simp only [wcy, Bool.and_eq_true] at h
  simpa using h.2
theorem wcx_y {w : cw_W} (h : wcx w = true) : wcy w = true := by
  simp only [wcx, Bool.and_eq_true] at h
  exact h.1
theorem wcx_p {w : cw_W} (h : wcx w = true) : wpd w = true := by
  simp only [wcx, Bool.and_eq_true] at h
  exact h.2
theorem PRX_f {α β : hp_T} {x : Nat} (h : PRX α x) (e1 : hp_R β 614 x = hp_R α 614 x) (e2 : hp_R β 300 (x + 939) = hp_R α 300 (x + 939)) (e3 : hp_R β 300 (x + 919) = hp_R α 300 (x + 919)) : PRX β x := ⟨e1.trans h.1, e2.trans h.2.1, e3.trans h.2.2⟩
theorem PRX_cw {w : cw_W} {α β : hp_T} {x : Nat} (h : PRX α x) (c : cw w α β) (hw : wcy w = true) : PRX β x := by
  have z := wcz_R (wcy_z hw) (φ := 300) rfl
  have y := wcy_4 hw
  obtain ⟨c0, c1, c2, c3, c4, c5, c6, c7, c8⟩ := c
  exact PRX_f h (by rw [c6 614 y]) (by rw [c6 300 z]) (by rw [c6 300 z])
theorem CX_cw {w : cw_W} {α β : hp_T} {x : Nat} {σ : ms_T} (h : CX α x σ) (c : cw w α β) (hw : wcx w = true) : CX β x σ :=
  ⟨CZ_cw h.1 c (wcy_z (wcx_y hw)), PRX_cw h.2.1 c (wcx_y hw), PDX_k h.2.2 h.2.1.2.2 (pkp_cw c (wcx_p hw))⟩
/-- an act -/
theorem CX_act {w : cw_W} {α β : hp_T} {x : Nat} {σ τ : ms_T} (h : CX α x σ) (c : cw w α β) (hw : wcy w = true) (wf : wfs x α β) (p : pde (ms_E σ 40) (ms_E τ 40)) (hC : rC (ms_E σ 40)) : CX β x τ :=
  ⟨⟨(CZ_cw h.1 c (wcy_z hw)).1, fun q => q.elim⟩, PRX_cw h.2.1 c hw, PDX_e (PDX_k h.2.2 h.2.1.2.2 (pkp_wfs wf)) (pdl_pde hC p)⟩
/-- a call that writes the pad -/
theorem CX_pad {w : cw_W} {α β : hp_T} {x : Nat} {σ τ : ms_T} {l : List Int32} (h : CX α x σ) (c : cw w α β) (hw : wcy w = true) (r : RWL β (x + 919) l) (e : pdl (ms_E τ 40) = l) : CX β x τ := by
  refine ⟨⟨(CZ_cw h.1 c (wcy_z hw)).1, fun q => q.elim⟩, PRX_cw h.2.1 c hw, ?_⟩
  unfold PDX
  rw [e]; exact r
/-- a call that writes rows of marks, not the pad's -/
theorem CX_R {w : cw_W} {ra rb : List Nat} {α β : hp_T} {x : Nat} {σ : ms_T} (h : CX α x σ) (c : cwr ra rb w α β) (hw : wcy w = true) (n1 : x + 919 ∉ ra) (n2 : x + 920 ∉ rb) : CX β x σ := by
  have z := wcz_R (wcy_z hw) (φ := 300) rfl
  obtain ⟨c, f1, f2⟩ := c
  have e3 : hp_R β 300 (x + 919) = hp_R α 300 (x + 919) := by
    obtain ⟨c0, c1, c2, c3, c4, c5, c6, c7, c8⟩ := c
    rw [c6 300 z]
  exact ⟨CZ_cw h.1 c (wcy_z hw), PRX_cw h.2.1 c hw, PDX_k h.2.2 h.2.1.2.2 ⟨f1 _ n1, e3, fun j => f2 _ j n2⟩⟩
theorem PRV {α : hp_T} {x : Nat} {f : Nat → Int32} (h : RWZ α x f) : hp_R α 558 (hp_R α 601 x) ∈ [x + 6, x + 465] ∧ hp_R α 300 (hp_R α 558 (hp_R α 601 x)) ∈ [x + 7, x + 466] := by
  obtain ⟨w, u, h1, -, h3, ⟨⟨-, -, -, -, s5, -, -, -, -, s10, -⟩, -⟩, -⟩ := h
  rw [h1, s5, s10]
  rcases h3 with ⟨rfl, -⟩ | ⟨rfl, -⟩
  · exact ⟨List.mem_cons_self, List.mem_cons_self⟩
  · exact ⟨List.mem_cons_of_mem _ List.mem_cons_self, List.mem_cons_of_mem _ List.mem_cons_self⟩
theorem n_19 {x : Nat} : x + 919 ∉ [x + 939] ∧ x + 920 ∉ [x + 940] ∧ x + 919 ∉ [x + 6, x + 465] ∧ x + 920 ∉ [x + 7, x + 466] := by
  refine ⟨fun q => ?_, fun q => ?_, fun q => ?_, fun q => ?_⟩ <;> simp only [List.mem_cons, List.not_mem_nil, or_false] at q <;> omega
theorem PDX_nz {α : hp_T} {x : Nat} (g : GC α) (hk : hp_K α x = 12) (hX : XSH α x) : hp_K α (x + 919) = 6 ∧ hp_K α (x + 920) = 20 := by
  obtain ⟨z1, z2, -⟩ := hX
  have k := gkR g hk z1 rfl (by decide) (by decide)
  exact ⟨k, gkR g k z2 rfl (by decide) (by decide)⟩
theorem CX_g {ra rb : List Nat} {w : cw_W} {α β : hp_T} {x : Nat} {σ : ms_T} (g : GC α) (hk : hp_K α x = 12) (hX : XSH α x) (h : CX α x σ) (c : cgr ra rb w α β) (hw : wcy w = true) (n1 : x + 919 ∉ ra) (n2 : x + 920 ∉ rb) : CX β x σ := by
  have z := wcz_R (wcy_z hw) (φ := 300) rfl
  have y := wcy_4 hw
  have k := PDX_nz g hk hX
  have k39 : hp_K α (x + 939) = 6 := gkR g hk h.2.1.1 rfl (by decide) (by decide)
  obtain ⟨c, f1, f2⟩ := c
  have h1 := CZ_cg g hk hX h.1 c (wcy_z hw)
  obtain ⟨c0, c1, c2, c3, -⟩ := c
  exact ⟨h1, PRX_f h.2.1 (c3 614 x (nz hk (by decide)) y) (c3 300 _ (nz k39 (by decide)) z) (c3 300 _ (nz k.1 (by decide)) z), PDX_k h.2.2 h.2.1.2.2 ⟨f1 _ (nz k.1 (by decide)) n1, c3 300 _ (nz k.1 (by decide)) z, fun j => f2 _ j (nz k.2 (by decide)) n2⟩⟩
theorem CX_cg {w : cw_W} {α β : hp_T} {x : Nat} {σ : ms_T} (g : GC α) (hk : hp_K α x = 12) (hX : XSH α x) (h : CX α x σ) (c : cg w α β) (hw : wcx w = true) : CX β x σ := by
  refine CX_g (ra := []) (rb := []) g hk hX h (cgr_cg c ?_) (wcx_y hw) (by simp) (by simp)
  have := wcx_p hw
  simp only [wpd, Bool.and_eq_true] at this
  simp only [wqr, Bool.and_eq_true]
  exact ⟨this.1.1, this.2⟩
theorem CX_C {α β : hp_T} {x : Nat} {σ : ms_T} (g : GC α) (hk : hp_K α x = 12) (hX : XSH α x) (h : CX α x σ) (c : ∀ q, hp_K α q ≠ 0 → saC α β q) : CX β x σ := by
  have k := PDX_nz g hk hX
  have k39 : hp_K α (x + 939) = 6 := gkR g hk h.2.1.1 rfl (by decide) (by decide)
  have c0 := c x (nz hk (by decide))
  have c9 := c (x + 919) (nz k.1 (by decide))
  have c20 := c (x + 920) (nz k.2 (by decide))
  have c39 := c (x + 939) (nz k39 (by decide))
  exact ⟨CZ_C g hk hX h.1 c, PRX_f h.2.1 (c0.2.2.1 614) (c39.2.2.1 300) (c9.2.2.1 300), PDX_k h.2.2 h.2.1.2.2 ⟨c9.2.1 301 (by decide), c9.2.2.1 300, fun j => c20.2.2.2.2.1 20 j (by decide)⟩⟩
theorem CZ_m {α β : hp_T} {x : Nat} {σ τ : ms_T} (h : CZ α x σ) (c : mo α β) : CZ β x τ := by
  obtain ⟨c1, c2, c3, c4, c5, c6, c7⟩ := c
  exact ⟨XHR_f h.1 (fun φ b _ r => by rw [c2]), fun p => p.elim⟩
theorem CX_m {α β : hp_T} {x : Nat} {σ : ms_T} (h : CX α x σ) (c : mo α β) : CX β x σ := by
  have q : pkp x α β := by
    obtain ⟨c1, c2, c3, c4, c5, c6, c7⟩ := c
    exact ⟨by rw [c6 301 (by decide)], by rw [c2], fun j => by rw [c7 20 (by decide)]⟩
  have r : hp_R β = hp_R α := c.2.1
  exact ⟨CZ_m h.1 c, PRX_f h.2.1 (by rw [r]) (by rw [r]) (by rw [r]), PDX_k h.2.2 h.2.1.2.2 q⟩
theorem CX_e {α : hp_T} {x : Nat} {σ τ : ms_T} (q : CX α x σ) (e : ms_E τ 40 = ms_E σ 40) : CX α x τ := by
  refine ⟨⟨q.1.1, fun p => p.elim⟩, q.2.1, ?_⟩
  rw [e]; exact q.2.2
theorem CX_k {α β : hp_T} {x : Nat} {σ τ : ms_T} (h : CX α x σ) (c : mo α β) (k : kf σ τ) : CX β x τ := CX_e (CX_m h c) (funext (fun j => k.2 40 rfl j))
theorem CX_kq {α β : hp_T} {x : Nat} {σ τ : ms_T} (h : CX α x σ) (c : mo α β) (k : kq σ τ) : CX β x τ := CX_e (CX_m h c) (funext (fun j => k.2 40 rfl j))
theorem LXW_LXp {α : hp_T} {x : Nat} {σ : ms_T} (g : GC α) (h : LX α x σ) (hc : CX α x σ) : LXW α x σ := ⟨h.2.1, RWX_Z g h.2.2.1, h.2.2.2.1, h.2.2.2.2.1, hc.1.2, fun _ => hc.2.2⟩
theorem CX_load {α β : hp_T} {x : Nat} {σ τ : ms_T} (h : CX α x σ) (hL : LXW β x τ) (hf : ldf x α β) : CX β x τ :=
  ⟨CZ_load h.1 hL hf, PRX_f h.2.1 (hf.1 614 x (fun z => by omega) (fun z => by omega)) (hf.1 300 _ (fun z => by omega) (fun z => by omega)) (hf.1 300 _ (fun z => by omega) (fun z => by omega)), hL.2.2.2.2.2 trivial⟩
theorem CX_hear {α : hp_T} {x : Nat} {σ : ms_T} {res : Int32 × ms_T} {a : Int32 × hp_T} (h : CX α x σ) (o : HRO x α σ res res a) : CX a.2 x res.2 := by
  refine ⟨CZ_hear h.1 o, ?_, ?_⟩
  · obtain ⟨-, -, -, -, -, ⟨f1, -⟩, -⟩ := o
    exact PRX_f h.2.1 (f1 614 x (fun z => by omega) (fun z => by omega)) (f1 300 _ (fun z => by omega) (fun z => by omega)) (f1 300 _ (fun z => by omega) (fun z => by omega))
  · obtain ⟨-, -, -, -, -, ⟨f1, f2, f3, f4, f5, f6⟩, k⟩ := o
    refine PDX_e (PDX_k h.2.2 h.2.1.2.2 ⟨f5 301 _ (fun z => by omega) (fun z => by omega) (by omega), f1 300 _ (fun z => by omega) (fun z => by omega), fun j => f6 20 _ j (fun z => by omega) (by omega)⟩) ?_
    rw [show ms_E res.2 40 = ms_E σ 40 from funext (k.2 40 (by decide))]
end JN11_4
