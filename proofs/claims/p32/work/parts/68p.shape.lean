/-! ===== what the constructors make, and what they leave ===== -/
theorem sa_cv {α : hp_T} {a κ b : Nat} (hb : b ≠ a) : sa α (hp_cv α a κ) b := by
  refine ⟨?_, fun _ => rfl, fun _ => rfl, fun φ => ?_, fun _ => rfl, fun _ _ => rfl, fun _ _ => rfl, fun _ _ => rfl⟩
  · simp [hp_K, hp_cv, hb]
  · simp [hp_R, hp_cv, hb]
theorem cv_R {α : hp_T} {a κ φ v : Nat} (h : hp_N α φ a = some v) : hp_R (hp_cv α a κ) φ a = v := by
  have h2 : α.2.2.2.2.1 φ a = some v := h
  simp [hp_R, hp_cv, h2]
theorem hI_sN {α : hp_T} {φ ψ a b : Nat} {x : Option Nat} : hp_I (hp_sN α φ a x) ψ b = hp_I α ψ b := rfl
theorem hN_sI {α : hp_T} {φ ψ a b : Nat} {v : Int32} : hp_N (hp_sI α φ a v) ψ b = hp_N α ψ b := rfl
theorem sN_ne {α : hp_T} {φ ψ a b : Nat} {x : Option Nat} (h : ψ ≠ φ) : hp_N (hp_sN α φ a x) ψ b = hp_N α ψ b := by simp [hp_N, hp_sN, hp_up, h]
theorem tl_X5_3 (α : hp_T) (h a : Nat) (b : Nat) (hb : b ≠ a) : sa (F_X5_init_3 α h a) (F_X5_init α h a) b := sa_cv hb
theorem tl_X5_2 (α : hp_T) (h a : Nat) (b : Nat) (hb : b ≠ a) (hq : b < h + 1 ∨ h + 1 ≤ b) : sa (F_X5_init_2 α h a) (F_X5_init α h a) b := sa_tr (sa_sI hb) (tl_X5_3 α h a b hb)
theorem tl_X5_1 (α : hp_T) (h a : Nat) (b : Nat) (hb : b ≠ a) (hq : b < h + 1 ∨ h + 1 ≤ b) : sa (F_X5_init_1 α h a) (F_X5_init α h a) b := sa_tr (sa_sN hb) (tl_X5_2 α h a b hb (by omega))
theorem tl_X5_0 (α : hp_T) (h a : Nat) (b : Nat) (hb : b ≠ a) (hq : b < h + 0 ∨ h + 1 ≤ b) : sa (F_X5_init_0 α h a) (F_X5_init α h a) b := sa_tr (sa_nw (by omega)) (tl_X5_1 α h a b hb (by omega))
theorem fr_X5 (α : hp_T) (h a : Nat) (ha : a < h) (b : Nat) (hb : b ≠ a) (hq : b < h ∨ h + 1 ≤ b) : sa α (F_X5_init α h a) b := tl_X5_0 α h a b hb (by omega)
theorem ka_X5_3 (α : hp_T) (h a : Nat) (ha : a < h) (φ : Nat) (hφ : φ ≠ 301) : hp_N (F_X5_init_3 α h a) φ a = hp_N (F_X5_init_2 α h a) φ a ∧ hp_I (F_X5_init_3 α h a) φ a = hp_I (F_X5_init_2 α h a) φ a := ⟨hN_sI, hp_I_ne hφ⟩
theorem fd_X5_300 (α : hp_T) (h a : Nat) (ha : a < h) : hp_R (F_X5_init α h a) 300 a = h + 0 := cv_R ((ka_X5_3 α h a ha 300 (by decide)).1.trans (show hp_N (hp_sN (F_X5_init_1 α h a) 300 a (some (h + (0)))) 300 a = some (h + (0)) from sN_at))
theorem fd_X5_301 (α : hp_T) (h a : Nat) (ha : a < h) : hp_I (F_X5_init α h a) 301 a = 0 := (show hp_I (hp_sI (F_X5_init_2 α h a) 301 a 0) 301 a = 0 from hp_I_at)
theorem tl_X9_3 (α : hp_T) (h a : Nat) (b : Nat) (hb : b ≠ a) : sa (F_X9_init_3 α h a) (F_X9_init α h a) b := sa_cv hb
theorem tl_X9_2 (α : hp_T) (h a : Nat) (b : Nat) (hb : b ≠ a) (hq : b < h + 1 ∨ h + 1 ≤ b) : sa (F_X9_init_2 α h a) (F_X9_init α h a) b := sa_tr (sa_sI hb) (tl_X9_3 α h a b hb)
theorem tl_X9_1 (α : hp_T) (h a : Nat) (b : Nat) (hb : b ≠ a) (hq : b < h + 1 ∨ h + 1 ≤ b) : sa (F_X9_init_1 α h a) (F_X9_init α h a) b := sa_tr (sa_sN hb) (tl_X9_2 α h a b hb (by omega))
theorem tl_X9_0 (α : hp_T) (h a : Nat) (b : Nat) (hb : b ≠ a) (hq : b < h + 0 ∨ h + 1 ≤ b) : sa (F_X9_init_0 α h a) (F_X9_init α h a) b := sa_tr (sa_nw (by omega)) (tl_X9_1 α h a b hb (by omega))
theorem fr_X9 (α : hp_T) (h a : Nat) (ha : a < h) (b : Nat) (hb : b ≠ a) (hq : b < h ∨ h + 1 ≤ b) : sa α (F_X9_init α h a) b := tl_X9_0 α h a b hb (by omega)
theorem ka_X9_3 (α : hp_T) (h a : Nat) (ha : a < h) (φ : Nat) (hφ : φ ≠ 501) : hp_N (F_X9_init_3 α h a) φ a = hp_N (F_X9_init_2 α h a) φ a ∧ hp_I (F_X9_init_3 α h a) φ a = hp_I (F_X9_init_2 α h a) φ a := ⟨hN_sI, hp_I_ne hφ⟩
theorem fd_X9_500 (α : hp_T) (h a : Nat) (ha : a < h) : hp_R (F_X9_init α h a) 500 a = h + 0 := cv_R ((ka_X9_3 α h a ha 500 (by decide)).1.trans (show hp_N (hp_sN (F_X9_init_1 α h a) 500 a (some (h + (0)))) 500 a = some (h + (0)) from sN_at))
theorem fd_X9_501 (α : hp_T) (h a : Nat) (ha : a < h) : hp_I (F_X9_init α h a) 501 a = 0 := (show hp_I (hp_sI (F_X9_init_2 α h a) 501 a 0) 501 a = 0 from hp_I_at)
theorem tl_X7_4 (α : hp_T) (h a : Nat) (b : Nat) (hb : b ≠ a) : sa (F_X7_init_4 α h a) (F_X7_init α h a) b := sa_cv hb
theorem tl_X7_3 (α : hp_T) (h a : Nat) (b : Nat) (hb : b ≠ a) (hq : b < h + 0 ∨ h + 0 ≤ b) : sa (F_X7_init_3 α h a) (F_X7_init α h a) b := sa_tr (sa_sI hb) (tl_X7_4 α h a b hb)
theorem tl_X7_2 (α : hp_T) (h a : Nat) (b : Nat) (hb : b ≠ a) (hq : b < h + 0 ∨ h + 0 ≤ b) : sa (F_X7_init_2 α h a) (F_X7_init α h a) b := sa_tr (sa_sI hb) (tl_X7_3 α h a b hb (by omega))
theorem tl_X7_1 (α : hp_T) (h a : Nat) (b : Nat) (hb : b ≠ a) (hq : b < h + 0 ∨ h + 0 ≤ b) : sa (F_X7_init_1 α h a) (F_X7_init α h a) b := sa_tr (sa_sI hb) (tl_X7_2 α h a b hb (by omega))
theorem tl_X7_0 (α : hp_T) (h a : Nat) (b : Nat) (hb : b ≠ a) (hq : b < h + 0 ∨ h + 0 ≤ b) : sa (F_X7_init_0 α h a) (F_X7_init α h a) b := sa_tr (sa_sI hb) (tl_X7_1 α h a b hb (by omega))
theorem fr_X7 (α : hp_T) (h a : Nat) (ha : a < h) (b : Nat) (hb : b ≠ a) (hq : b < h ∨ h + 0 ≤ b) : sa α (F_X7_init α h a) b := tl_X7_0 α h a b hb (by omega)
theorem ka_X7_2 (α : hp_T) (h a : Nat) (ha : a < h) (φ : Nat) (hφ : φ ≠ 401) : hp_N (F_X7_init_2 α h a) φ a = hp_N (F_X7_init_1 α h a) φ a ∧ hp_I (F_X7_init_2 α h a) φ a = hp_I (F_X7_init_1 α h a) φ a := ⟨hN_sI, hp_I_ne hφ⟩
theorem ka_X7_3 (α : hp_T) (h a : Nat) (ha : a < h) (φ : Nat) (hφ : φ ≠ 402) : hp_N (F_X7_init_3 α h a) φ a = hp_N (F_X7_init_2 α h a) φ a ∧ hp_I (F_X7_init_3 α h a) φ a = hp_I (F_X7_init_2 α h a) φ a := ⟨hN_sI, hp_I_ne hφ⟩
theorem ka_X7_4 (α : hp_T) (h a : Nat) (ha : a < h) (φ : Nat) (hφ : φ ≠ 403) : hp_N (F_X7_init_4 α h a) φ a = hp_N (F_X7_init_3 α h a) φ a ∧ hp_I (F_X7_init_4 α h a) φ a = hp_I (F_X7_init_3 α h a) φ a := ⟨hN_sI, hp_I_ne hφ⟩
theorem fd_X7_400 (α : hp_T) (h a : Nat) (ha : a < h) : hp_I (F_X7_init α h a) 400 a = 0 := ((ka_X7_4 α h a ha 400 (by decide)).2.trans ((ka_X7_3 α h a ha 400 (by decide)).2.trans ((ka_X7_2 α h a ha 400 (by decide)).2.trans (show hp_I (hp_sI (F_X7_init_0 α h a) 400 a 0) 400 a = 0 from hp_I_at))))
theorem fd_X7_401 (α : hp_T) (h a : Nat) (ha : a < h) : hp_I (F_X7_init α h a) 401 a = 0 := ((ka_X7_4 α h a ha 401 (by decide)).2.trans ((ka_X7_3 α h a ha 401 (by decide)).2.trans (show hp_I (hp_sI (F_X7_init_1 α h a) 401 a 0) 401 a = 0 from hp_I_at)))
theorem fd_X7_402 (α : hp_T) (h a : Nat) (ha : a < h) : hp_I (F_X7_init α h a) 402 a = 0 := ((ka_X7_4 α h a ha 402 (by decide)).2.trans (show hp_I (hp_sI (F_X7_init_2 α h a) 402 a 0) 402 a = 0 from hp_I_at))
theorem fd_X7_403 (α : hp_T) (h a : Nat) (ha : a < h) : hp_I (F_X7_init α h a) 403 a = 0 := (show hp_I (hp_sI (F_X7_init_3 α h a) 403 a 0) 403 a = 0 from hp_I_at)
theorem tl_X8_8 (α : hp_T) (h a : Nat) (b : Nat) (hb : b ≠ a) : sa (F_X8_init_8 α h a) (F_X8_init α h a) b := sa_cv hb
theorem tl_X8_7 (α : hp_T) (h a : Nat) (b : Nat) (hb : b ≠ a) (hq : b < h + 3 ∨ h + 3 ≤ b) : sa (F_X8_init_7 α h a) (F_X8_init α h a) b := sa_tr (sa_sI hb) (tl_X8_8 α h a b hb)
theorem tl_X8_6 (α : hp_T) (h a : Nat) (b : Nat) (hb : b ≠ a) (hq : b < h + 3 ∨ h + 3 ≤ b) : sa (F_X8_init_6 α h a) (F_X8_init α h a) b := sa_tr (sa_sI hb) (tl_X8_7 α h a b hb (by omega))
theorem tl_X8_5 (α : hp_T) (h a : Nat) (b : Nat) (hb : b ≠ a) (hq : b < h + 3 ∨ h + 3 ≤ b) : sa (F_X8_init_5 α h a) (F_X8_init α h a) b := sa_tr (sa_sN hb) (tl_X8_6 α h a b hb (by omega))
theorem tl_X8_4 (α : hp_T) (h a : Nat) (b : Nat) (hb : b ≠ a) (hq : b < h + 2 ∨ h + 3 ≤ b) : sa (F_X8_init_4 α h a) (F_X8_init α h a) b := sa_tr (sa_nw (by omega)) (tl_X8_5 α h a b hb (by omega))
theorem tl_X8_3 (α : hp_T) (h a : Nat) (b : Nat) (hb : b ≠ a) (hq : b < h + 2 ∨ h + 3 ≤ b) : sa (F_X8_init_3 α h a) (F_X8_init α h a) b := sa_tr (sa_sN hb) (tl_X8_4 α h a b hb (by omega))
theorem tl_X8_2 (α : hp_T) (h a : Nat) (b : Nat) (hb : b ≠ a) (hq : b < h + 1 ∨ h + 3 ≤ b) : sa (F_X8_init_2 α h a) (F_X8_init α h a) b := sa_tr (sa_nw (by omega)) (tl_X8_3 α h a b hb (by omega))
theorem tl_X8_1 (α : hp_T) (h a : Nat) (b : Nat) (hb : b ≠ a) (hq : b < h + 1 ∨ h + 3 ≤ b) : sa (F_X8_init_1 α h a) (F_X8_init α h a) b := sa_tr (sa_sN hb) (tl_X8_2 α h a b hb (by omega))
theorem tl_X8_0 (α : hp_T) (h a : Nat) (b : Nat) (hb : b ≠ a) (hq : b < h + 0 ∨ h + 3 ≤ b) : sa (F_X8_init_0 α h a) (F_X8_init α h a) b := sa_tr (sa_nw (by omega)) (tl_X8_1 α h a b hb (by omega))
theorem fr_X8 (α : hp_T) (h a : Nat) (ha : a < h) (b : Nat) (hb : b ≠ a) (hq : b < h ∨ h + 3 ≤ b) : sa α (F_X8_init α h a) b := tl_X8_0 α h a b hb (by omega)
theorem ka_X8_3 (α : hp_T) (h a : Nat) (ha : a < h) (φ : Nat) : hp_N (F_X8_init_3 α h a) φ a = hp_N (F_X8_init_2 α h a) φ a ∧ hp_I (F_X8_init_3 α h a) φ a = hp_I (F_X8_init_2 α h a) φ a := by
  have q := sa_nw (α := (F_X8_init_2 α h a)) (h := h + (1)) (κ := 22) (b := a) (by omega)
  exact ⟨q.2.2.2.2.1 φ, q.2.1 φ⟩
theorem ka_X8_4 (α : hp_T) (h a : Nat) (ha : a < h) (φ : Nat) (hφ : φ ≠ 451) : hp_N (F_X8_init_4 α h a) φ a = hp_N (F_X8_init_3 α h a) φ a ∧ hp_I (F_X8_init_4 α h a) φ a = hp_I (F_X8_init_3 α h a) φ a := ⟨sN_ne hφ, hI_sN⟩
theorem ka_X8_5 (α : hp_T) (h a : Nat) (ha : a < h) (φ : Nat) : hp_N (F_X8_init_5 α h a) φ a = hp_N (F_X8_init_4 α h a) φ a ∧ hp_I (F_X8_init_5 α h a) φ a = hp_I (F_X8_init_4 α h a) φ a := by
  have q := sa_nw (α := (F_X8_init_4 α h a)) (h := h + (2)) (κ := 23) (b := a) (by omega)
  exact ⟨q.2.2.2.2.1 φ, q.2.1 φ⟩
theorem ka_X8_6 (α : hp_T) (h a : Nat) (ha : a < h) (φ : Nat) (hφ : φ ≠ 452) : hp_N (F_X8_init_6 α h a) φ a = hp_N (F_X8_init_5 α h a) φ a ∧ hp_I (F_X8_init_6 α h a) φ a = hp_I (F_X8_init_5 α h a) φ a := ⟨sN_ne hφ, hI_sN⟩
theorem ka_X8_7 (α : hp_T) (h a : Nat) (ha : a < h) (φ : Nat) (hφ : φ ≠ 453) : hp_N (F_X8_init_7 α h a) φ a = hp_N (F_X8_init_6 α h a) φ a ∧ hp_I (F_X8_init_7 α h a) φ a = hp_I (F_X8_init_6 α h a) φ a := ⟨hN_sI, hp_I_ne hφ⟩
theorem ka_X8_8 (α : hp_T) (h a : Nat) (ha : a < h) (φ : Nat) (hφ : φ ≠ 454) : hp_N (F_X8_init_8 α h a) φ a = hp_N (F_X8_init_7 α h a) φ a ∧ hp_I (F_X8_init_8 α h a) φ a = hp_I (F_X8_init_7 α h a) φ a := ⟨hN_sI, hp_I_ne hφ⟩
theorem fd_X8_450 (α : hp_T) (h a : Nat) (ha : a < h) : hp_R (F_X8_init α h a) 450 a = h + 0 := cv_R ((ka_X8_8 α h a ha 450 (by decide)).1.trans ((ka_X8_7 α h a ha 450 (by decide)).1.trans ((ka_X8_6 α h a ha 450 (by decide)).1.trans ((ka_X8_5 α h a ha 450).1.trans ((ka_X8_4 α h a ha 450 (by decide)).1.trans ((ka_X8_3 α h a ha 450).1.trans (show hp_N (hp_sN (F_X8_init_1 α h a) 450 a (some (h + (0)))) 450 a = some (h + (0)) from sN_at)))))))
theorem fd_X8_451 (α : hp_T) (h a : Nat) (ha : a < h) : hp_R (F_X8_init α h a) 451 a = h + 1 := cv_R ((ka_X8_8 α h a ha 451 (by decide)).1.trans ((ka_X8_7 α h a ha 451 (by decide)).1.trans ((ka_X8_6 α h a ha 451 (by decide)).1.trans ((ka_X8_5 α h a ha 451).1.trans (show hp_N (hp_sN (F_X8_init_3 α h a) 451 a (some (h + (1)))) 451 a = some (h + (1)) from sN_at)))))
theorem fd_X8_452 (α : hp_T) (h a : Nat) (ha : a < h) : hp_R (F_X8_init α h a) 452 a = h + 2 := cv_R ((ka_X8_8 α h a ha 452 (by decide)).1.trans ((ka_X8_7 α h a ha 452 (by decide)).1.trans (show hp_N (hp_sN (F_X8_init_5 α h a) 452 a (some (h + (2)))) 452 a = some (h + (2)) from sN_at)))
theorem tl_X1_7 (α : hp_T) (h a : Nat) (b : Nat) (hb : b ≠ a) : sa (F_X1_init_7 α h a) (F_X1_init α h a) b := sa_cv hb
theorem tl_X1_6 (α : hp_T) (h a : Nat) (b : Nat) (hb : b ≠ a) (hq : b < h + 2 ∨ h + 2 ≤ b) : sa (F_X1_init_6 α h a) (F_X1_init α h a) b := sa_tr (sa_sN hb) (tl_X1_7 α h a b hb)
theorem tl_X1_5 (α : hp_T) (h a : Nat) (b : Nat) (hb : b ≠ a) (hq : b < h + 0 ∨ h + 2 ≤ b) : sa (F_X1_init_5 α h a) (F_X1_init α h a) b := sa_tr (fr_X5 (F_X1_init_5 α h a) (h + (1)) (h + (0)) (by omega) b (by omega) (by omega)) (tl_X1_6 α h a b hb (by omega))
theorem tl_X1_4 (α : hp_T) (h a : Nat) (b : Nat) (hb : b ≠ a) (hq : b < h + 0 ∨ h + 2 ≤ b) : sa (F_X1_init_4 α h a) (F_X1_init α h a) b := sa_tr (sa_nw (by omega)) (tl_X1_5 α h a b hb (by omega))
theorem tl_X1_3 (α : hp_T) (h a : Nat) (b : Nat) (hb : b ≠ a) (hq : b < h + 0 ∨ h + 2 ≤ b) : sa (F_X1_init_3 α h a) (F_X1_init α h a) b := sa_tr (sa_sI hb) (tl_X1_4 α h a b hb (by omega))
theorem tl_X1_2 (α : hp_T) (h a : Nat) (b : Nat) (hb : b ≠ a) (hq : b < h + 0 ∨ h + 2 ≤ b) : sa (F_X1_init_2 α h a) (F_X1_init α h a) b := sa_tr (sa_sI hb) (tl_X1_3 α h a b hb (by omega))
theorem tl_X1_1 (α : hp_T) (h a : Nat) (b : Nat) (hb : b ≠ a) (hq : b < h + 0 ∨ h + 2 ≤ b) : sa (F_X1_init_1 α h a) (F_X1_init α h a) b := sa_tr (sa_sI hb) (tl_X1_2 α h a b hb (by omega))
theorem tl_X1_0 (α : hp_T) (h a : Nat) (b : Nat) (hb : b ≠ a) (hq : b < h + 0 ∨ h + 2 ≤ b) : sa (F_X1_init_0 α h a) (F_X1_init α h a) b := sa_tr (sa_sI hb) (tl_X1_1 α h a b hb (by omega))
theorem fr_X1 (α : hp_T) (h a : Nat) (ha : a < h) (b : Nat) (hb : b ≠ a) (hq : b < h ∨ h + 2 ≤ b) : sa α (F_X1_init α h a) b := tl_X1_0 α h a b hb (by omega)
theorem fd_X1_104 (α : hp_T) (h a : Nat) (ha : a < h) : hp_R (F_X1_init α h a) 104 a = h + 0 := cv_R (show hp_N (hp_sN (F_X1_init_6 α h a) 104 a (some (h + (0)))) 104 a = some (h + (0)) from sN_at)
theorem tl_X0_7 (α : hp_T) (h a : Nat) (b : Nat) (hb : b ≠ a) : sa (F_X0_init_7 α h a) (F_X0_init α h a) b := sa_cv hb
theorem tl_X0_6 (α : hp_T) (h a : Nat) (b : Nat) (hb : b ≠ a) (hq : b < h + 2 ∨ h + 2 ≤ b) : sa (F_X0_init_6 α h a) (F_X0_init α h a) b := sa_tr (sa_sI hb) (tl_X0_7 α h a b hb)
theorem tl_X0_5 (α : hp_T) (h a : Nat) (b : Nat) (hb : b ≠ a) (hq : b < h + 2 ∨ h + 2 ≤ b) : sa (F_X0_init_5 α h a) (F_X0_init α h a) b := sa_tr (sa_sI hb) (tl_X0_6 α h a b hb (by omega))
theorem tl_X0_4 (α : hp_T) (h a : Nat) (b : Nat) (hb : b ≠ a) (hq : b < h + 2 ∨ h + 2 ≤ b) : sa (F_X0_init_4 α h a) (F_X0_init α h a) b := sa_tr (sa_sI hb) (tl_X0_5 α h a b hb (by omega))
theorem tl_X0_3 (α : hp_T) (h a : Nat) (b : Nat) (hb : b ≠ a) (hq : b < h + 2 ∨ h + 2 ≤ b) : sa (F_X0_init_3 α h a) (F_X0_init α h a) b := sa_tr (sa_sN hb) (tl_X0_4 α h a b hb (by omega))
theorem tl_X0_2 (α : hp_T) (h a : Nat) (b : Nat) (hb : b ≠ a) (hq : b < h + 0 ∨ h + 2 ≤ b) : sa (F_X0_init_2 α h a) (F_X0_init α h a) b := sa_tr (fr_X5 (F_X0_init_2 α h a) (h + (1)) (h + (0)) (by omega) b (by omega) (by omega)) (tl_X0_3 α h a b hb (by omega))
theorem tl_X0_1 (α : hp_T) (h a : Nat) (b : Nat) (hb : b ≠ a) (hq : b < h + 0 ∨ h + 2 ≤ b) : sa (F_X0_init_1 α h a) (F_X0_init α h a) b := sa_tr (sa_nw (by omega)) (tl_X0_2 α h a b hb (by omega))
theorem tl_X0_0 (α : hp_T) (h a : Nat) (b : Nat) (hb : b ≠ a) (hq : b < h + 0 ∨ h + 2 ≤ b) : sa (F_X0_init_0 α h a) (F_X0_init α h a) b := sa_tr (sa_sI hb) (tl_X0_1 α h a b hb (by omega))
theorem fr_X0 (α : hp_T) (h a : Nat) (ha : a < h) (b : Nat) (hb : b ≠ a) (hq : b < h ∨ h + 2 ≤ b) : sa α (F_X0_init α h a) b := tl_X0_0 α h a b hb (by omega)
theorem tl_X6_8 (α : hp_T) (h a : Nat) (b : Nat) (hb : b ≠ a) : sa (F_X6_init_8 α h a) (F_X6_init α h a) b := sa_cv hb
theorem tl_X6_7 (α : hp_T) (h a : Nat) (b : Nat) (hb : b ≠ a) (hq : b < h + 1 ∨ h + 1 ≤ b) : sa (F_X6_init_7 α h a) (F_X6_init α h a) b := sa_tr (sa_sI hb) (tl_X6_8 α h a b hb)
theorem tl_X6_6 (α : hp_T) (h a : Nat) (b : Nat) (hb : b ≠ a) (hq : b < h + 1 ∨ h + 1 ≤ b) : sa (F_X6_init_6 α h a) (F_X6_init α h a) b := sa_tr (sa_sI hb) (tl_X6_7 α h a b hb (by omega))
theorem tl_X6_5 (α : hp_T) (h a : Nat) (b : Nat) (hb : b ≠ a) (hq : b < h + 1 ∨ h + 1 ≤ b) : sa (F_X6_init_5 α h a) (F_X6_init α h a) b := sa_tr (sa_sI hb) (tl_X6_6 α h a b hb (by omega))
theorem tl_X6_4 (α : hp_T) (h a : Nat) (b : Nat) (hb : b ≠ a) (hq : b < h + 1 ∨ h + 1 ≤ b) : sa (F_X6_init_4 α h a) (F_X6_init α h a) b := sa_tr (sa_sI hb) (tl_X6_5 α h a b hb (by omega))
theorem tl_X6_3 (α : hp_T) (h a : Nat) (b : Nat) (hb : b ≠ a) (hq : b < h + 1 ∨ h + 1 ≤ b) : sa (F_X6_init_3 α h a) (F_X6_init α h a) b := sa_tr (sa_sI hb) (tl_X6_4 α h a b hb (by omega))
theorem tl_X6_2 (α : hp_T) (h a : Nat) (b : Nat) (hb : b ≠ a) (hq : b < h + 1 ∨ h + 1 ≤ b) : sa (F_X6_init_2 α h a) (F_X6_init α h a) b := sa_tr (sa_sI hb) (tl_X6_3 α h a b hb (by omega))
theorem tl_X6_1 (α : hp_T) (h a : Nat) (b : Nat) (hb : b ≠ a) (hq : b < h + 1 ∨ h + 1 ≤ b) : sa (F_X6_init_1 α h a) (F_X6_init α h a) b := sa_tr (sa_sN hb) (tl_X6_2 α h a b hb (by omega))
theorem tl_X6_0 (α : hp_T) (h a : Nat) (b : Nat) (hb : b ≠ a) (hq : b < h + 0 ∨ h + 1 ≤ b) : sa (F_X6_init_0 α h a) (F_X6_init α h a) b := sa_tr (sa_nw (by omega)) (tl_X6_1 α h a b hb (by omega))
theorem fr_X6 (α : hp_T) (h a : Nat) (ha : a < h) (b : Nat) (hb : b ≠ a) (hq : b < h ∨ h + 1 ≤ b) : sa α (F_X6_init α h a) b := tl_X6_0 α h a b hb (by omega)
theorem tl_X3_18 (α : hp_T) (h a : Nat) (b : Nat) (hb : b ≠ a) : sa (F_X3_init_18 α h a) (F_X3_init α h a) b := sa_cv hb
theorem tl_X3_17 (α : hp_T) (h a : Nat) (b : Nat) (hb : b ≠ a) (hq : b < h + 10 ∨ h + 10 ≤ b) : sa (F_X3_init_17 α h a) (F_X3_init α h a) b := sa_tr (sa_sI hb) (tl_X3_18 α h a b hb)
theorem tl_X3_16 (α : hp_T) (h a : Nat) (b : Nat) (hb : b ≠ a) (hq : b < h + 10 ∨ h + 10 ≤ b) : sa (F_X3_init_16 α h a) (F_X3_init α h a) b := sa_tr (sa_sI hb) (tl_X3_17 α h a b hb (by omega))
theorem tl_X3_15 (α : hp_T) (h a : Nat) (b : Nat) (hb : b ≠ a) (hq : b < h + 10 ∨ h + 10 ≤ b) : sa (F_X3_init_15 α h a) (F_X3_init α h a) b := sa_tr (sa_sN hb) (tl_X3_16 α h a b hb (by omega))
theorem tl_X3_14 (α : hp_T) (h a : Nat) (b : Nat) (hb : b ≠ a) (hq : b < h + 8 ∨ h + 10 ≤ b) : sa (F_X3_init_14 α h a) (F_X3_init α h a) b := sa_tr (fr_X9 (F_X3_init_14 α h a) (h + (9)) (h + (8)) (by omega) b (by omega) (by omega)) (tl_X3_15 α h a b hb (by omega))
theorem tl_X3_13 (α : hp_T) (h a : Nat) (b : Nat) (hb : b ≠ a) (hq : b < h + 8 ∨ h + 10 ≤ b) : sa (F_X3_init_13 α h a) (F_X3_init α h a) b := sa_tr (sa_nw (by omega)) (tl_X3_14 α h a b hb (by omega))
theorem tl_X3_12 (α : hp_T) (h a : Nat) (b : Nat) (hb : b ≠ a) (hq : b < h + 8 ∨ h + 10 ≤ b) : sa (F_X3_init_12 α h a) (F_X3_init α h a) b := sa_tr (sa_sI hb) (tl_X3_13 α h a b hb (by omega))
theorem tl_X3_11 (α : hp_T) (h a : Nat) (b : Nat) (hb : b ≠ a) (hq : b < h + 8 ∨ h + 10 ≤ b) : sa (F_X3_init_11 α h a) (F_X3_init α h a) b := sa_tr (sa_sI hb) (tl_X3_12 α h a b hb (by omega))
theorem tl_X3_10 (α : hp_T) (h a : Nat) (b : Nat) (hb : b ≠ a) (hq : b < h + 8 ∨ h + 10 ≤ b) : sa (F_X3_init_10 α h a) (F_X3_init α h a) b := sa_tr (sa_sI hb) (tl_X3_11 α h a b hb (by omega))
theorem tl_X3_9 (α : hp_T) (h a : Nat) (b : Nat) (hb : b ≠ a) (hq : b < h + 8 ∨ h + 10 ≤ b) : sa (F_X3_init_9 α h a) (F_X3_init α h a) b := sa_tr (sa_sI hb) (tl_X3_10 α h a b hb (by omega))
theorem tl_X3_8 (α : hp_T) (h a : Nat) (b : Nat) (hb : b ≠ a) (hq : b < h + 8 ∨ h + 10 ≤ b) : sa (F_X3_init_8 α h a) (F_X3_init α h a) b := sa_tr (sa_sN hb) (tl_X3_9 α h a b hb (by omega))
theorem tl_X3_7 (α : hp_T) (h a : Nat) (b : Nat) (hb : b ≠ a) (hq : b < h + 4 ∨ h + 10 ≤ b) : sa (F_X3_init_7 α h a) (F_X3_init α h a) b := sa_tr (fr_X8 (F_X3_init_7 α h a) (h + (5)) (h + (4)) (by omega) b (by omega) (by omega)) (tl_X3_8 α h a b hb (by omega))
theorem tl_X3_6 (α : hp_T) (h a : Nat) (b : Nat) (hb : b ≠ a) (hq : b < h + 4 ∨ h + 10 ≤ b) : sa (F_X3_init_6 α h a) (F_X3_init α h a) b := sa_tr (sa_nw (by omega)) (tl_X3_7 α h a b hb (by omega))
theorem tl_X3_5 (α : hp_T) (h a : Nat) (b : Nat) (hb : b ≠ a) (hq : b < h + 4 ∨ h + 10 ≤ b) : sa (F_X3_init_5 α h a) (F_X3_init α h a) b := sa_tr (sa_sN hb) (tl_X3_6 α h a b hb (by omega))
theorem tl_X3_4 (α : hp_T) (h a : Nat) (b : Nat) (hb : b ≠ a) (hq : b < h + 2 ∨ h + 10 ≤ b) : sa (F_X3_init_4 α h a) (F_X3_init α h a) b := sa_tr (fr_X5 (F_X3_init_4 α h a) (h + (3)) (h + (2)) (by omega) b (by omega) (by omega)) (tl_X3_5 α h a b hb (by omega))
theorem tl_X3_3 (α : hp_T) (h a : Nat) (b : Nat) (hb : b ≠ a) (hq : b < h + 2 ∨ h + 10 ≤ b) : sa (F_X3_init_3 α h a) (F_X3_init α h a) b := sa_tr (sa_nw (by omega)) (tl_X3_4 α h a b hb (by omega))
theorem tl_X3_2 (α : hp_T) (h a : Nat) (b : Nat) (hb : b ≠ a) (hq : b < h + 2 ∨ h + 10 ≤ b) : sa (F_X3_init_2 α h a) (F_X3_init α h a) b := sa_tr (sa_sN hb) (tl_X3_3 α h a b hb (by omega))
theorem tl_X3_1 (α : hp_T) (h a : Nat) (b : Nat) (hb : b ≠ a) (hq : b < h + 0 ∨ h + 10 ≤ b) : sa (F_X3_init_1 α h a) (F_X3_init α h a) b := sa_tr (fr_X6 (F_X3_init_1 α h a) (h + (1)) (h + (0)) (by omega) b (by omega) (by omega)) (tl_X3_2 α h a b hb (by omega))
theorem tl_X3_0 (α : hp_T) (h a : Nat) (b : Nat) (hb : b ≠ a) (hq : b < h + 0 ∨ h + 10 ≤ b) : sa (F_X3_init_0 α h a) (F_X3_init α h a) b := sa_tr (sa_nw (by omega)) (tl_X3_1 α h a b hb (by omega))
theorem fr_X3 (α : hp_T) (h a : Nat) (ha : a < h) (b : Nat) (hb : b ≠ a) (hq : b < h ∨ h + 10 ≤ b) : sa α (F_X3_init α h a) b := tl_X3_0 α h a b hb (by omega)
theorem ka_X3_4 (α : hp_T) (h a : Nat) (ha : a < h) (φ : Nat) : hp_N (F_X3_init_4 α h a) φ a = hp_N (F_X3_init_3 α h a) φ a ∧ hp_I (F_X3_init_4 α h a) φ a = hp_I (F_X3_init_3 α h a) φ a := by
  have q := sa_nw (α := (F_X3_init_3 α h a)) (h := h + (2)) (κ := 106) (b := a) (by omega)
  exact ⟨q.2.2.2.2.1 φ, q.2.1 φ⟩
theorem ka_X3_5 (α : hp_T) (h a : Nat) (ha : a < h) (φ : Nat) : hp_N (F_X3_init_5 α h a) φ a = hp_N (F_X3_init_4 α h a) φ a ∧ hp_I (F_X3_init_5 α h a) φ a = hp_I (F_X3_init_4 α h a) φ a := by
  have q := fr_X5 (F_X3_init_4 α h a) (h + (3)) (h + (2)) (by omega) a (by omega) (by omega)
  exact ⟨q.2.2.2.2.1 φ, q.2.1 φ⟩
theorem ka_X3_6 (α : hp_T) (h a : Nat) (ha : a < h) (φ : Nat) (hφ : φ ≠ 201) : hp_N (F_X3_init_6 α h a) φ a = hp_N (F_X3_init_5 α h a) φ a ∧ hp_I (F_X3_init_6 α h a) φ a = hp_I (F_X3_init_5 α h a) φ a := ⟨sN_ne hφ, hI_sN⟩
theorem ka_X3_7 (α : hp_T) (h a : Nat) (ha : a < h) (φ : Nat) : hp_N (F_X3_init_7 α h a) φ a = hp_N (F_X3_init_6 α h a) φ a ∧ hp_I (F_X3_init_7 α h a) φ a = hp_I (F_X3_init_6 α h a) φ a := by
  have q := sa_nw (α := (F_X3_init_6 α h a)) (h := h + (4)) (κ := 109) (b := a) (by omega)
  exact ⟨q.2.2.2.2.1 φ, q.2.1 φ⟩
theorem ka_X3_8 (α : hp_T) (h a : Nat) (ha : a < h) (φ : Nat) : hp_N (F_X3_init_8 α h a) φ a = hp_N (F_X3_init_7 α h a) φ a ∧ hp_I (F_X3_init_8 α h a) φ a = hp_I (F_X3_init_7 α h a) φ a := by
  have q := fr_X8 (F_X3_init_7 α h a) (h + (5)) (h + (4)) (by omega) a (by omega) (by omega)
  exact ⟨q.2.2.2.2.1 φ, q.2.1 φ⟩
theorem ka_X3_9 (α : hp_T) (h a : Nat) (ha : a < h) (φ : Nat) (hφ : φ ≠ 202) : hp_N (F_X3_init_9 α h a) φ a = hp_N (F_X3_init_8 α h a) φ a ∧ hp_I (F_X3_init_9 α h a) φ a = hp_I (F_X3_init_8 α h a) φ a := ⟨sN_ne hφ, hI_sN⟩
theorem ka_X3_10 (α : hp_T) (h a : Nat) (ha : a < h) (φ : Nat) (hφ : φ ≠ 203) : hp_N (F_X3_init_10 α h a) φ a = hp_N (F_X3_init_9 α h a) φ a ∧ hp_I (F_X3_init_10 α h a) φ a = hp_I (F_X3_init_9 α h a) φ a := ⟨hN_sI, hp_I_ne hφ⟩
theorem ka_X3_11 (α : hp_T) (h a : Nat) (ha : a < h) (φ : Nat) (hφ : φ ≠ 204) : hp_N (F_X3_init_11 α h a) φ a = hp_N (F_X3_init_10 α h a) φ a ∧ hp_I (F_X3_init_11 α h a) φ a = hp_I (F_X3_init_10 α h a) φ a := ⟨hN_sI, hp_I_ne hφ⟩
theorem ka_X3_12 (α : hp_T) (h a : Nat) (ha : a < h) (φ : Nat) (hφ : φ ≠ 205) : hp_N (F_X3_init_12 α h a) φ a = hp_N (F_X3_init_11 α h a) φ a ∧ hp_I (F_X3_init_12 α h a) φ a = hp_I (F_X3_init_11 α h a) φ a := ⟨hN_sI, hp_I_ne hφ⟩
theorem ka_X3_13 (α : hp_T) (h a : Nat) (ha : a < h) (φ : Nat) (hφ : φ ≠ 206) : hp_N (F_X3_init_13 α h a) φ a = hp_N (F_X3_init_12 α h a) φ a ∧ hp_I (F_X3_init_13 α h a) φ a = hp_I (F_X3_init_12 α h a) φ a := ⟨hN_sI, hp_I_ne hφ⟩
theorem ka_X3_14 (α : hp_T) (h a : Nat) (ha : a < h) (φ : Nat) : hp_N (F_X3_init_14 α h a) φ a = hp_N (F_X3_init_13 α h a) φ a ∧ hp_I (F_X3_init_14 α h a) φ a = hp_I (F_X3_init_13 α h a) φ a := by
  have q := sa_nw (α := (F_X3_init_13 α h a)) (h := h + (8)) (κ := 110) (b := a) (by omega)
  exact ⟨q.2.2.2.2.1 φ, q.2.1 φ⟩
theorem ka_X3_15 (α : hp_T) (h a : Nat) (ha : a < h) (φ : Nat) : hp_N (F_X3_init_15 α h a) φ a = hp_N (F_X3_init_14 α h a) φ a ∧ hp_I (F_X3_init_15 α h a) φ a = hp_I (F_X3_init_14 α h a) φ a := by
  have q := fr_X9 (F_X3_init_14 α h a) (h + (9)) (h + (8)) (by omega) a (by omega) (by omega)
  exact ⟨q.2.2.2.2.1 φ, q.2.1 φ⟩
theorem ka_X3_16 (α : hp_T) (h a : Nat) (ha : a < h) (φ : Nat) (hφ : φ ≠ 207) : hp_N (F_X3_init_16 α h a) φ a = hp_N (F_X3_init_15 α h a) φ a ∧ hp_I (F_X3_init_16 α h a) φ a = hp_I (F_X3_init_15 α h a) φ a := ⟨sN_ne hφ, hI_sN⟩
theorem ka_X3_17 (α : hp_T) (h a : Nat) (ha : a < h) (φ : Nat) (hφ : φ ≠ 208) : hp_N (F_X3_init_17 α h a) φ a = hp_N (F_X3_init_16 α h a) φ a ∧ hp_I (F_X3_init_17 α h a) φ a = hp_I (F_X3_init_16 α h a) φ a := ⟨hN_sI, hp_I_ne hφ⟩
theorem ka_X3_18 (α : hp_T) (h a : Nat) (ha : a < h) (φ : Nat) (hφ : φ ≠ 209) : hp_N (F_X3_init_18 α h a) φ a = hp_N (F_X3_init_17 α h a) φ a ∧ hp_I (F_X3_init_18 α h a) φ a = hp_I (F_X3_init_17 α h a) φ a := ⟨hN_sI, hp_I_ne hφ⟩
theorem fd_X3_200 (α : hp_T) (h a : Nat) (ha : a < h) : hp_R (F_X3_init α h a) 200 a = h + 0 := cv_R ((ka_X3_18 α h a ha 200 (by decide)).1.trans ((ka_X3_17 α h a ha 200 (by decide)).1.trans ((ka_X3_16 α h a ha 200 (by decide)).1.trans ((ka_X3_15 α h a ha 200).1.trans ((ka_X3_14 α h a ha 200).1.trans ((ka_X3_13 α h a ha 200 (by decide)).1.trans ((ka_X3_12 α h a ha 200 (by decide)).1.trans ((ka_X3_11 α h a ha 200 (by decide)).1.trans ((ka_X3_10 α h a ha 200 (by decide)).1.trans ((ka_X3_9 α h a ha 200 (by decide)).1.trans ((ka_X3_8 α h a ha 200).1.trans ((ka_X3_7 α h a ha 200).1.trans ((ka_X3_6 α h a ha 200 (by decide)).1.trans ((ka_X3_5 α h a ha 200).1.trans ((ka_X3_4 α h a ha 200).1.trans (show hp_N (hp_sN (F_X3_init_2 α h a) 200 a (some (h + (0)))) 200 a = some (h + (0)) from sN_at))))))))))))))))
theorem fd_X3_201 (α : hp_T) (h a : Nat) (ha : a < h) : hp_R (F_X3_init α h a) 201 a = h + 2 := cv_R ((ka_X3_18 α h a ha 201 (by decide)).1.trans ((ka_X3_17 α h a ha 201 (by decide)).1.trans ((ka_X3_16 α h a ha 201 (by decide)).1.trans ((ka_X3_15 α h a ha 201).1.trans ((ka_X3_14 α h a ha 201).1.trans ((ka_X3_13 α h a ha 201 (by decide)).1.trans ((ka_X3_12 α h a ha 201 (by decide)).1.trans ((ka_X3_11 α h a ha 201 (by decide)).1.trans ((ka_X3_10 α h a ha 201 (by decide)).1.trans ((ka_X3_9 α h a ha 201 (by decide)).1.trans ((ka_X3_8 α h a ha 201).1.trans ((ka_X3_7 α h a ha 201).1.trans (show hp_N (hp_sN (F_X3_init_5 α h a) 201 a (some (h + (2)))) 201 a = some (h + (2)) from sN_at)))))))))))))
theorem fd_X3_202 (α : hp_T) (h a : Nat) (ha : a < h) : hp_R (F_X3_init α h a) 202 a = h + 4 := cv_R ((ka_X3_18 α h a ha 202 (by decide)).1.trans ((ka_X3_17 α h a ha 202 (by decide)).1.trans ((ka_X3_16 α h a ha 202 (by decide)).1.trans ((ka_X3_15 α h a ha 202).1.trans ((ka_X3_14 α h a ha 202).1.trans ((ka_X3_13 α h a ha 202 (by decide)).1.trans ((ka_X3_12 α h a ha 202 (by decide)).1.trans ((ka_X3_11 α h a ha 202 (by decide)).1.trans ((ka_X3_10 α h a ha 202 (by decide)).1.trans (show hp_N (hp_sN (F_X3_init_8 α h a) 202 a (some (h + (4)))) 202 a = some (h + (4)) from sN_at))))))))))
theorem fd_X3_204 (α : hp_T) (h a : Nat) (ha : a < h) : hp_I (F_X3_init α h a) 204 a = (-1) := ((ka_X3_18 α h a ha 204 (by decide)).2.trans ((ka_X3_17 α h a ha 204 (by decide)).2.trans ((ka_X3_16 α h a ha 204 (by decide)).2.trans ((ka_X3_15 α h a ha 204).2.trans ((ka_X3_14 α h a ha 204).2.trans ((ka_X3_13 α h a ha 204 (by decide)).2.trans ((ka_X3_12 α h a ha 204 (by decide)).2.trans (show hp_I (hp_sI (F_X3_init_10 α h a) 204 a (-1)) 204 a = (-1) from hp_I_at))))))))
theorem fd_X3_205 (α : hp_T) (h a : Nat) (ha : a < h) : hp_I (F_X3_init α h a) 205 a = (-1) := ((ka_X3_18 α h a ha 205 (by decide)).2.trans ((ka_X3_17 α h a ha 205 (by decide)).2.trans ((ka_X3_16 α h a ha 205 (by decide)).2.trans ((ka_X3_15 α h a ha 205).2.trans ((ka_X3_14 α h a ha 205).2.trans ((ka_X3_13 α h a ha 205 (by decide)).2.trans (show hp_I (hp_sI (F_X3_init_11 α h a) 205 a (-1)) 205 a = (-1) from hp_I_at)))))))
theorem fd_X3_207 (α : hp_T) (h a : Nat) (ha : a < h) : hp_R (F_X3_init α h a) 207 a = h + 8 := cv_R ((ka_X3_18 α h a ha 207 (by decide)).1.trans ((ka_X3_17 α h a ha 207 (by decide)).1.trans (show hp_N (hp_sN (F_X3_init_15 α h a) 207 a (some (h + (8)))) 207 a = some (h + (8)) from sN_at)))
theorem tl_X11_46 (α : hp_T) (h a : Nat) (b : Nat) (hb : b ≠ a) : sa (F_X11_init_46 α h a) (F_X11_init α h a) b := sa_cv hb
theorem tl_X11_45 (α : hp_T) (h a : Nat) (b : Nat) (hb : b ≠ a) (hq : b < h + 955 ∨ h + 955 ≤ b) : sa (F_X11_init_45 α h a) (F_X11_init α h a) b := sa_tr (sa_sN hb) (tl_X11_46 α h a b hb)
theorem tl_X11_44 (α : hp_T) (h a : Nat) (b : Nat) (hb : b ≠ a) (hq : b < h + 955 ∨ h + 955 ≤ b) : sa (F_X11_init_44 α h a) (F_X11_init α h a) b := sa_tr (sa_sN hb) (tl_X11_45 α h a b hb (by omega))
theorem tl_X11_43 (α : hp_T) (h a : Nat) (b : Nat) (hb : b ≠ a) (hq : b < h + 954 ∨ h + 955 ≤ b) : sa (F_X11_init_43 α h a) (F_X11_init α h a) b := sa_tr (sa_nw (by omega)) (tl_X11_44 α h a b hb (by omega))
theorem tl_X11_42 (α : hp_T) (h a : Nat) (b : Nat) (hb : b ≠ a) (hq : b < h + 954 ∨ h + 955 ≤ b) : sa (F_X11_init_42 α h a) (F_X11_init α h a) b := sa_tr (sa_sN hb) (tl_X11_43 α h a b hb (by omega))
theorem tl_X11_41 (α : hp_T) (h a : Nat) (b : Nat) (hb : b ≠ a) (hq : b < h + 943 ∨ h + 955 ≤ b) : sa (F_X11_init_41 α h a) (F_X11_init α h a) b := sa_tr (fr_X3 (F_X11_init_41 α h a) (h + (944)) (h + (943)) (by omega) b (by omega) (by omega)) (tl_X11_42 α h a b hb (by omega))
theorem tl_X11_40 (α : hp_T) (h a : Nat) (b : Nat) (hb : b ≠ a) (hq : b < h + 943 ∨ h + 955 ≤ b) : sa (F_X11_init_40 α h a) (F_X11_init α h a) b := sa_tr (sa_nw (by omega)) (tl_X11_41 α h a b hb (by omega))
theorem tl_X11_39 (α : hp_T) (h a : Nat) (b : Nat) (hb : b ≠ a) (hq : b < h + 943 ∨ h + 955 ≤ b) : sa (F_X11_init_39 α h a) (F_X11_init α h a) b := sa_tr (sa_sN hb) (tl_X11_40 α h a b hb (by omega))
theorem tl_X11_38 (α : hp_T) (h a : Nat) (b : Nat) (hb : b ≠ a) (hq : b < h + 940 ∨ h + 955 ≤ b) : sa (F_X11_init_38 α h a) (F_X11_init α h a) b := sa_tr (fr_X0 (F_X11_init_38 α h a) (h + (941)) (h + (940)) (by omega) b (by omega) (by omega)) (tl_X11_39 α h a b hb (by omega))
theorem tl_X11_37 (α : hp_T) (h a : Nat) (b : Nat) (hb : b ≠ a) (hq : b < h + 940 ∨ h + 955 ≤ b) : sa (F_X11_init_37 α h a) (F_X11_init α h a) b := sa_tr (sa_nw (by omega)) (tl_X11_38 α h a b hb (by omega))
theorem tl_X11_36 (α : hp_T) (h a : Nat) (b : Nat) (hb : b ≠ a) (hq : b < h + 940 ∨ h + 955 ≤ b) : sa (F_X11_init_36 α h a) (F_X11_init α h a) b := sa_tr (sa_sN hb) (tl_X11_37 α h a b hb (by omega))
theorem tl_X11_35 (α : hp_T) (h a : Nat) (b : Nat) (hb : b ≠ a) (hq : b < h + 938 ∨ h + 955 ≤ b) : sa (F_X11_init_35 α h a) (F_X11_init α h a) b := sa_tr (fr_X5 (F_X11_init_35 α h a) (h + (939)) (h + (938)) (by omega) b (by omega) (by omega)) (tl_X11_36 α h a b hb (by omega))
theorem tl_X11_34 (α : hp_T) (h a : Nat) (b : Nat) (hb : b ≠ a) (hq : b < h + 938 ∨ h + 955 ≤ b) : sa (F_X11_init_34 α h a) (F_X11_init α h a) b := sa_tr (sa_nw (by omega)) (tl_X11_35 α h a b hb (by omega))
theorem tl_X11_33 (α : hp_T) (h a : Nat) (b : Nat) (hb : b ≠ a) (hq : b < h + 938 ∨ h + 955 ≤ b) : sa (F_X11_init_33 α h a) (F_X11_init α h a) b := sa_tr (sa_sN hb) (tl_X11_34 α h a b hb (by omega))
theorem tl_X11_32 (α : hp_T) (h a : Nat) (b : Nat) (hb : b ≠ a) (hq : b < h + 934 ∨ h + 955 ≤ b) : sa (F_X11_init_32 α h a) (F_X11_init α h a) b := sa_tr (fr_X8 (F_X11_init_32 α h a) (h + (935)) (h + (934)) (by omega) b (by omega) (by omega)) (tl_X11_33 α h a b hb (by omega))
theorem tl_X11_31 (α : hp_T) (h a : Nat) (b : Nat) (hb : b ≠ a) (hq : b < h + 934 ∨ h + 955 ≤ b) : sa (F_X11_init_31 α h a) (F_X11_init α h a) b := sa_tr (sa_nw (by omega)) (tl_X11_32 α h a b hb (by omega))
theorem tl_X11_30 (α : hp_T) (h a : Nat) (b : Nat) (hb : b ≠ a) (hq : b < h + 934 ∨ h + 955 ≤ b) : sa (F_X11_init_30 α h a) (F_X11_init α h a) b := sa_tr (sa_sN hb) (tl_X11_31 α h a b hb (by omega))
theorem tl_X11_29 (α : hp_T) (h a : Nat) (b : Nat) (hb : b ≠ a) (hq : b < h + 930 ∨ h + 955 ≤ b) : sa (F_X11_init_29 α h a) (F_X11_init α h a) b := sa_tr (fr_X8 (F_X11_init_29 α h a) (h + (931)) (h + (930)) (by omega) b (by omega) (by omega)) (tl_X11_30 α h a b hb (by omega))
theorem tl_X11_28 (α : hp_T) (h a : Nat) (b : Nat) (hb : b ≠ a) (hq : b < h + 930 ∨ h + 955 ≤ b) : sa (F_X11_init_28 α h a) (F_X11_init α h a) b := sa_tr (sa_nw (by omega)) (tl_X11_29 α h a b hb (by omega))
theorem ka_X11_29 (α : hp_T) (h a : Nat) (ha : a < h) (φ : Nat) : hp_N (F_X11_init_29 α h a) φ a = hp_N (F_X11_init_28 α h a) φ a ∧ hp_I (F_X11_init_29 α h a) φ a = hp_I (F_X11_init_28 α h a) φ a := by
  have q := sa_nw (α := (F_X11_init_28 α h a)) (h := h + (930)) (κ := 109) (b := a) (by omega)
  exact ⟨q.2.2.2.2.1 φ, q.2.1 φ⟩
theorem ka_X11_30 (α : hp_T) (h a : Nat) (ha : a < h) (φ : Nat) : hp_N (F_X11_init_30 α h a) φ a = hp_N (F_X11_init_29 α h a) φ a ∧ hp_I (F_X11_init_30 α h a) φ a = hp_I (F_X11_init_29 α h a) φ a := by
  have q := fr_X8 (F_X11_init_29 α h a) (h + (931)) (h + (930)) (by omega) a (by omega) (by omega)
  exact ⟨q.2.2.2.2.1 φ, q.2.1 φ⟩
theorem ka_X11_31 (α : hp_T) (h a : Nat) (ha : a < h) (φ : Nat) (hφ : φ ≠ 612) : hp_N (F_X11_init_31 α h a) φ a = hp_N (F_X11_init_30 α h a) φ a ∧ hp_I (F_X11_init_31 α h a) φ a = hp_I (F_X11_init_30 α h a) φ a := ⟨sN_ne hφ, hI_sN⟩
theorem ka_X11_32 (α : hp_T) (h a : Nat) (ha : a < h) (φ : Nat) : hp_N (F_X11_init_32 α h a) φ a = hp_N (F_X11_init_31 α h a) φ a ∧ hp_I (F_X11_init_32 α h a) φ a = hp_I (F_X11_init_31 α h a) φ a := by
  have q := sa_nw (α := (F_X11_init_31 α h a)) (h := h + (934)) (κ := 109) (b := a) (by omega)
  exact ⟨q.2.2.2.2.1 φ, q.2.1 φ⟩
theorem ka_X11_33 (α : hp_T) (h a : Nat) (ha : a < h) (φ : Nat) : hp_N (F_X11_init_33 α h a) φ a = hp_N (F_X11_init_32 α h a) φ a ∧ hp_I (F_X11_init_33 α h a) φ a = hp_I (F_X11_init_32 α h a) φ a := by
  have q := fr_X8 (F_X11_init_32 α h a) (h + (935)) (h + (934)) (by omega) a (by omega) (by omega)
  exact ⟨q.2.2.2.2.1 φ, q.2.1 φ⟩
theorem ka_X11_34 (α : hp_T) (h a : Nat) (ha : a < h) (φ : Nat) (hφ : φ ≠ 613) : hp_N (F_X11_init_34 α h a) φ a = hp_N (F_X11_init_33 α h a) φ a ∧ hp_I (F_X11_init_34 α h a) φ a = hp_I (F_X11_init_33 α h a) φ a := ⟨sN_ne hφ, hI_sN⟩
theorem ka_X11_35 (α : hp_T) (h a : Nat) (ha : a < h) (φ : Nat) : hp_N (F_X11_init_35 α h a) φ a = hp_N (F_X11_init_34 α h a) φ a ∧ hp_I (F_X11_init_35 α h a) φ a = hp_I (F_X11_init_34 α h a) φ a := by
  have q := sa_nw (α := (F_X11_init_34 α h a)) (h := h + (938)) (κ := 106) (b := a) (by omega)
  exact ⟨q.2.2.2.2.1 φ, q.2.1 φ⟩
theorem ka_X11_36 (α : hp_T) (h a : Nat) (ha : a < h) (φ : Nat) : hp_N (F_X11_init_36 α h a) φ a = hp_N (F_X11_init_35 α h a) φ a ∧ hp_I (F_X11_init_36 α h a) φ a = hp_I (F_X11_init_35 α h a) φ a := by
  have q := fr_X5 (F_X11_init_35 α h a) (h + (939)) (h + (938)) (by omega) a (by omega) (by omega)
  exact ⟨q.2.2.2.2.1 φ, q.2.1 φ⟩
theorem ka_X11_37 (α : hp_T) (h a : Nat) (ha : a < h) (φ : Nat) (hφ : φ ≠ 614) : hp_N (F_X11_init_37 α h a) φ a = hp_N (F_X11_init_36 α h a) φ a ∧ hp_I (F_X11_init_37 α h a) φ a = hp_I (F_X11_init_36 α h a) φ a := ⟨sN_ne hφ, hI_sN⟩
theorem ka_X11_38 (α : hp_T) (h a : Nat) (ha : a < h) (φ : Nat) : hp_N (F_X11_init_38 α h a) φ a = hp_N (F_X11_init_37 α h a) φ a ∧ hp_I (F_X11_init_38 α h a) φ a = hp_I (F_X11_init_37 α h a) φ a := by
  have q := sa_nw (α := (F_X11_init_37 α h a)) (h := h + (940)) (κ := 101) (b := a) (by omega)
  exact ⟨q.2.2.2.2.1 φ, q.2.1 φ⟩
theorem ka_X11_39 (α : hp_T) (h a : Nat) (ha : a < h) (φ : Nat) : hp_N (F_X11_init_39 α h a) φ a = hp_N (F_X11_init_38 α h a) φ a ∧ hp_I (F_X11_init_39 α h a) φ a = hp_I (F_X11_init_38 α h a) φ a := by
  have q := fr_X0 (F_X11_init_38 α h a) (h + (941)) (h + (940)) (by omega) a (by omega) (by omega)
  exact ⟨q.2.2.2.2.1 φ, q.2.1 φ⟩
theorem ka_X11_40 (α : hp_T) (h a : Nat) (ha : a < h) (φ : Nat) (hφ : φ ≠ 615) : hp_N (F_X11_init_40 α h a) φ a = hp_N (F_X11_init_39 α h a) φ a ∧ hp_I (F_X11_init_40 α h a) φ a = hp_I (F_X11_init_39 α h a) φ a := ⟨sN_ne hφ, hI_sN⟩
theorem ka_X11_41 (α : hp_T) (h a : Nat) (ha : a < h) (φ : Nat) : hp_N (F_X11_init_41 α h a) φ a = hp_N (F_X11_init_40 α h a) φ a ∧ hp_I (F_X11_init_41 α h a) φ a = hp_I (F_X11_init_40 α h a) φ a := by
  have q := sa_nw (α := (F_X11_init_40 α h a)) (h := h + (943)) (κ := 104) (b := a) (by omega)
  exact ⟨q.2.2.2.2.1 φ, q.2.1 φ⟩
theorem ka_X11_42 (α : hp_T) (h a : Nat) (ha : a < h) (φ : Nat) : hp_N (F_X11_init_42 α h a) φ a = hp_N (F_X11_init_41 α h a) φ a ∧ hp_I (F_X11_init_42 α h a) φ a = hp_I (F_X11_init_41 α h a) φ a := by
  have q := fr_X3 (F_X11_init_41 α h a) (h + (944)) (h + (943)) (by omega) a (by omega) (by omega)
  exact ⟨q.2.2.2.2.1 φ, q.2.1 φ⟩
theorem ka_X11_43 (α : hp_T) (h a : Nat) (ha : a < h) (φ : Nat) (hφ : φ ≠ 616) : hp_N (F_X11_init_43 α h a) φ a = hp_N (F_X11_init_42 α h a) φ a ∧ hp_I (F_X11_init_43 α h a) φ a = hp_I (F_X11_init_42 α h a) φ a := ⟨sN_ne hφ, hI_sN⟩
theorem ka_X11_44 (α : hp_T) (h a : Nat) (ha : a < h) (φ : Nat) : hp_N (F_X11_init_44 α h a) φ a = hp_N (F_X11_init_43 α h a) φ a ∧ hp_I (F_X11_init_44 α h a) φ a = hp_I (F_X11_init_43 α h a) φ a := by
  have q := sa_nw (α := (F_X11_init_43 α h a)) (h := h + (954)) (κ := 26) (b := a) (by omega)
  exact ⟨q.2.2.2.2.1 φ, q.2.1 φ⟩
theorem ka_X11_45 (α : hp_T) (h a : Nat) (ha : a < h) (φ : Nat) (hφ : φ ≠ 617) : hp_N (F_X11_init_45 α h a) φ a = hp_N (F_X11_init_44 α h a) φ a ∧ hp_I (F_X11_init_45 α h a) φ a = hp_I (F_X11_init_44 α h a) φ a := ⟨sN_ne hφ, hI_sN⟩
theorem ka_X11_46 (α : hp_T) (h a : Nat) (ha : a < h) (φ : Nat) (hφ : φ ≠ 618) : hp_N (F_X11_init_46 α h a) φ a = hp_N (F_X11_init_45 α h a) φ a ∧ hp_I (F_X11_init_46 α h a) φ a = hp_I (F_X11_init_45 α h a) φ a := ⟨sN_ne hφ, hI_sN⟩
theorem fd_X11_614 (α : hp_T) (h a : Nat) (ha : a < h) : hp_R (F_X11_init α h a) 614 a = h + 938 := cv_R ((ka_X11_46 α h a ha 614 (by decide)).1.trans ((ka_X11_45 α h a ha 614 (by decide)).1.trans ((ka_X11_44 α h a ha 614).1.trans ((ka_X11_43 α h a ha 614 (by decide)).1.trans ((ka_X11_42 α h a ha 614).1.trans ((ka_X11_41 α h a ha 614).1.trans ((ka_X11_40 α h a ha 614 (by decide)).1.trans ((ka_X11_39 α h a ha 614).1.trans ((ka_X11_38 α h a ha 614).1.trans (show hp_N (hp_sN (F_X11_init_36 α h a) 614 a (some (h + (938)))) 614 a = some (h + (938)) from sN_at))))))))))
theorem fd_X11_616 (α : hp_T) (h a : Nat) (ha : a < h) : hp_R (F_X11_init α h a) 616 a = h + 943 := cv_R ((ka_X11_46 α h a ha 616 (by decide)).1.trans ((ka_X11_45 α h a ha 616 (by decide)).1.trans ((ka_X11_44 α h a ha 616).1.trans (show hp_N (hp_sN (F_X11_init_42 α h a) 616 a (some (h + (943)))) 616 a = some (h + (943)) from sN_at))))
