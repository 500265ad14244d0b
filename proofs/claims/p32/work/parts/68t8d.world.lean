set_option maxRecDepth 100000
theorem in_X3_500 (α : hp_T) (h a : Nat) (ha : a < h) : hp_R (F_X3_init α h a) 500 (h + 8) = h + 9 := by
  rw [(tl_X3_15 α h a (h + 8) (by omega) (by omega)).2.2.2.1 500]
  exact fd_X9_500 (F_X3_init_14 α h a) (h + (9)) (h + (8)) (by omega)
/-! ===== LX of a new record ===== -/
theorem LX_0 (α : hp_T) (x : Nat) (σ : ms_T) (hR : RI σ) (hσ : ms_i0 σ) : LX (F_X11_init α (x + 1) x) x σ := by
  obtain ⟨s1, s2, s3, s4, s5⟩ := hσ
  have z : ∀ j, 2 ≤ j → j < 1980 → (ms_E σ 40 j).toInt = 0 := fun j p q => by rw [s5 j p q]; rfl
  have n1 : NW (F_X11_init_3 α (x + 1) x) (x + 1) := NW_0 (F_X11_init_2 α (x + 1) x) (x + 1)
  have n1' : NW (F_X11_init α (x + 1) x) (x + 1) := NW_sa n1 (fun b p q => tl_X11_3 α (x + 1) x b (by omega) (by omega))
  have e6 : F_X11_init_6 α (x + 1) x = F_X10_init (F_X11_init_5 α (x + 1) x) (x + 460 + 1) (x + 460) := by
    show F_X10_init _ (x + 1 + 460) (x + 1 + 459) = _
    rw [show x + 1 + 460 = x + 460 + 1 by omega, show x + 1 + 459 = x + 460 by omega]
  have n2 : NW (F_X11_init_6 α (x + 1) x) (x + 460) := by rw [e6]; exact NW_0 _ (x + 460)
  have n2' : NW (F_X11_init α (x + 1) x) (x + 460) := NW_sa n2 (fun b p q => tl_X11_6 α (x + 1) x b (by omega) (by omega))
  have ha : x < x + 1 := by omega
  refine ⟨hR.2, ⟨?_, ?_, ?_, ?_, ?_, ?_, ?_, ?_⟩, ⟨x + 1, x + 460, ?_, ?_, Or.inl ⟨rfl, rfl⟩, ⟨n1'.1, ?_, fun r hr => ?_, fun i hi => ?_, fun i hi => ?_⟩, n2'.1⟩, ⟨fun v hv => Or.inl (s5 _ (by omega) (by omega)), fun i hi => by rw [z 3 (by omega) (by omega)] at hi; omega⟩, ⟨?_, fun j hj => ?_⟩, [], ⟨by simp, ?_, fun k hk => absurd hk (by simp)⟩, Or.inl ⟨?_, ?_⟩, ?_, ?_, by simp, ?_, fun k hk => absurd hk (by simp), fun x hx => by cases hx⟩
  · rw [fd_X11_603 α (x + 1) x ha]
  · rw [(tl_X11_9 α (x + 1) x (x + 919) (by omega) (by omega)).2.2.2.1 300]
    have : hp_R (F_X5_init (F_X11_init_8 α (x + 1) x) (x + 1 + 919) (x + 1 + 918)) 300 (x + 1 + 918) = _ := fd_X5_300 _ _ _ (by omega)
    rw [show x + 919 = x + 1 + 918 by omega]
    exact this.trans (by omega)
  · rw [fd_X11_604 α (x + 1) x ha]
  · rw [(tl_X11_11 α (x + 1) x (x + 921) (by omega) (by omega)).1]
    rw [show x + 921 = x + 1 + 920 by omega]
    exact nw_k
  · rw [fd_X11_616 α (x + 1) x ha]
  · have q := tl_X11_42 α (x + 1) x (x + 944) (by omega) (by omega)
    have f : hp_R (F_X3_init (F_X11_init_41 α (x + 1) x) (x + 1 + 944) (x + 1 + 943)) 200 (x + 1 + 943) = _ := fd_X3_200 _ _ _ (by omega)
    rw [q.2.2.2.1 200, show x + 944 = x + 1 + 943 by omega]
    exact f.trans (by omega)
  · have q := tl_X11_42 α (x + 1) x (x + 944) (by omega) (by omega)
    have f : hp_R (F_X3_init (F_X11_init_41 α (x + 1) x) (x + 1 + 944) (x + 1 + 943)) 207 (x + 1 + 943) = _ := fd_X3_207 _ _ _ (by omega)
    rw [q.2.2.2.1 207, show x + 944 = x + 1 + 943 by omega]
    exact f.trans (by omega)
  · have q := tl_X11_42 α (x + 1) x (x + 944 + 9) (by omega) (by omega)
    have f : hp_R (F_X3_init (F_X11_init_41 α (x + 1) x) (x + 1 + 944) (x + 1 + 943)) 500 (x + 1 + 944 + 8) = _ := in_X3_500 _ _ _ (by omega)
    rw [q.2.2.2.1 500, show x + 944 + 9 = x + 1 + 944 + 8 by omega]
    exact f.trans (by omega)
  · rw [fd_X11_601 α (x + 1) x ha]
  · rw [fd_X11_602 α (x + 1) x ha]
  · rw [s3, s4, s5 3 (by omega) (by omega), s5 4 (by omega) (by omega)]
    exact n1'.2.1
  · rw [s3] at hr
    have hr0 : r = 0 := by
      have h9 : ((1 : Int32).toInt).toNat = 1 := by decide
      rw [h9] at hr
      omega
    subst hr0
    rw [s5 (72 + 0) (by omega) (by omega)]
    exact ⟨n1'.2.2.1, fun i hi => absurd hi (by rw [lt0]; simp)⟩
  · rw [s5 3 (by omega) (by omega), lt0] at hi
    exact absurd hi (by simp)
  · obtain ⟨w1, w2, w3, w4⟩ := n1'.2.2.2 i hi
    unfold WTN
    rw [s5 (76 + 4 * i) (by omega) (by omega), s5 (77 + 4 * i) (by omega) (by omega), s5 (78 + 4 * i) (by omega) (by omega), s5 (79 + 4 * i) (by omega) (by omega)]
    exact ⟨w1, w2, w4, w3⟩
  · rw [fd_X11_605 α (x + 1) x ha, s1 667, if_neg (by decide)]
  · rw [s1 667, if_neg (by decide), lt0] at hj
    omega
  · rw [s1 664, if_neg (by decide)]; rfl
  · rw [fd_X11_606 α (x + 1) x ha]
  · rw [fd_X11_607 α (x + 1) x ha]
  · have q := tl_X11_15 α (x + 1) x (x + 922) (by omega) (by omega)
    have f : hp_R (F_X9_init (F_X11_init_14 α (x + 1) x) (x + 1 + 922) (x + 1 + 921)) 500 (x + 1 + 921) = _ := fd_X9_500 _ _ _ (by omega)
    rw [q.2.2.2.1 500, show x + 922 = x + 1 + 921 by omega]
    exact f.trans (by omega)
  · have q := tl_X11_18 α (x + 1) x (x + 924) (by omega) (by omega)
    have f : hp_R (F_X9_init (F_X11_init_17 α (x + 1) x) (x + 1 + 924) (x + 1 + 923)) 500 (x + 1 + 923) = _ := fd_X9_500 _ _ _ (by omega)
    rw [q.2.2.2.1 500, show x + 924 = x + 1 + 923 by omega]
    exact f.trans (by omega)
  · have q := tl_X11_15 α (x + 1) x (x + 1 + 921) (by omega) (by omega)
    have f : hp_I (F_X9_init (F_X11_init_14 α (x + 1) x) (x + 1 + 922) (x + 1 + 921)) 501 (x + 1 + 921) = _ := fd_X9_501 _ _ _ (by omega)
    rw [fd_X11_606 α (x + 1) x ha, q.2.1 501]
    rw [show F_X11_init_15 α (x + 1) x = F_X9_init (F_X11_init_14 α (x + 1) x) (x + 1 + 922) (x + 1 + 921) from rfl, f]
    rfl
theorem LX_C {α β : hp_T} {x : Nat} {σ : ms_T} (g : GC α) (hk : hp_K α x = 12) (h : LX α x σ) (c : ∀ q, hp_K α q ≠ 0 → saC α β q) : LX β x σ := by
  have hK := LXK g hk h
  refine LX_p h (fun φ b p r => (c b (hK b p)).2.2.1 φ) (fun κ b j p => (c b (hK b p)).2.2.2.2.2 κ j) (fun φ b p r => (c b (hK b p)).2.1 φ ?_) (fun κ b j p r => (c b (hK b p)).2.2.2.2.1 κ j (by omega)) ((c _ (hK _ (by unfold inX; omega))).1)
  rcases r with r | r
  · simp only [okI, List.contains_cons, List.contains_nil, Bool.or_false, Bool.or_eq_true, beq_iff_eq] at r
    omega
  · omega
