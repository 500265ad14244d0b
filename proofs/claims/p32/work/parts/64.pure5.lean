/-! ===== public functions of the reference, one by one ===== -/
theorem s_status (n : Nat) (hn : 70000 ≤ n) (σ : ms_T) (hR : RI σ) : ws (f_X12_status n σ) (PK σ) := by
  unfold f_X12_status
  exact ws_l (ws_s (pk hR (fr_sI (wI := [653]) (wE := []) (by decide)) (by decide) _))
theorem s_fault (n : Nat) (hn : 70000 ≤ n) (σ : ms_T) (hR : RI σ) (a1 : Int32) : ws (f_X12_fault n σ a1) (PK σ) := by
  unfold f_X12_fault
  have h := fun r => pk hR (fr_sI (wI := [653]) (wE := []) (φ := 653) (v := 0) (by decide)) (by decide) r
  exact ws_l (ws_i (fun _ => ws_s (h _)) (fun _ => ws_i (fun _ => ws_s (h _)) (fun _ => ws_s (h _))))
theorem s_heard (n : Nat) (hn : 70000 ≤ n) (σ : ms_T) (hR : RI σ) (a1 : Int32) : ws (f_X12_heard n σ a1) (PK σ) := by
  have L := lits
  have h20 := hR.1.2.2.1
  have hJ : ∀ w : Int32, (w = 0 → 0 ≤ a1.toInt ∧ a1.toInt < 20) → ws (f_X12_heard_J22 n σ a1 w) (PK σ) := by
    intro w hw
    unfold f_X12_heard_J22
    refine ws_isP hR (fun e τ hτ hE hf => ?_)
    have := hw e
    exact ws_g (by omega) (by omega) (ws_s (PKr hτ _))
  unfold f_X12_heard
  repeat' (first
    | with_reducible refine ws_bo (s_isRecord (by assumption) _) (fun _ => ?_) (fun _ => ?_)
    | with_reducible refine ws_bo (s_isMark (by assumption) _) (fun _ => ?_) (fun _ => ?_)
    | with_reducible refine ws_bo (s_isIn _ _ _ _) (fun _ => ?_) (fun _ => ?_)
    | with_reducible refine ws_bo (s_isWatcher _ _) (fun _ => ?_) (fun _ => ?_)
    | with_reducible refine ws_bo (s_isThing _ _ _ _) (fun _ => ?_) (fun _ => ?_)
    | with_reducible refine ws_b (s_noSize (by assumption) _ _) (fun _ _ => ?_)
    | with_reducible refine ws_b (s_noEntry (by assumption) _ _ _) (fun _ _ => ?_)
    | with_reducible refine ws_b (s_sizeOf (by assumption) _ (by omega) (by omega)) (fun _ _ => ?_)
    | with_reducible refine ws_lt (fun _ => ?_) (fun _ => ?_)
    | with_reducible refine ws_le (fun _ => ?_) (fun _ => ?_)
    | with_reducible refine ws_ee (fun _ _ => ?_) (fun _ => ?_)
    | with_reducible refine ws_g (by decide) (by decide) ?_
    | with_reducible refine ws_g (by omega) (by omega) ?_)
  all_goals first
    | exact hJ _ (fun h => absurd h (by decide))
    | exact hJ _ (fun _ => by omega)
    | (refine hJ _ (fun h => ?_); rename_i q; have := q h; omega)
theorem s_out (n : Nat) (hn : 70000 ≤ n) (σ : ms_T) (hR : RI σ) (a1 : Int32) : ws (f_X12_out n σ a1) (PK σ) := by
  have L := lits
  have h20 := hR.1.2.2.2
  have hJ : ∀ w : Int32, (w = 0 → 0 ≤ a1.toInt ∧ a1.toInt < 900) → ws (f_X12_out_J22 n σ a1 w) (PK σ) := by
    intro w hw
    unfold f_X12_out_J22
    refine ws_isP hR (fun e τ hτ hE hf => ?_)
    have := hw e
    exact ws_g (by omega) (by omega) (ws_s (PKr hτ _))
  unfold f_X12_out
  repeat' (first
    | with_reducible refine ws_bo (s_isRecord (by assumption) _) (fun _ => ?_) (fun _ => ?_)
    | with_reducible refine ws_bo (s_isMark (by assumption) _) (fun _ => ?_) (fun _ => ?_)
    | with_reducible refine ws_bo (s_isIn _ _ _ _) (fun _ => ?_) (fun _ => ?_)
    | with_reducible refine ws_bo (s_isWatcher _ _) (fun _ => ?_) (fun _ => ?_)
    | with_reducible refine ws_bo (s_isThing _ _ _ _) (fun _ => ?_) (fun _ => ?_)
    | with_reducible refine ws_b (s_noSize (by assumption) _ _) (fun _ _ => ?_)
    | with_reducible refine ws_b (s_noEntry (by assumption) _ _ _) (fun _ _ => ?_)
    | with_reducible refine ws_b (s_sizeOf (by assumption) _ (by omega) (by omega)) (fun _ _ => ?_)
    | with_reducible refine ws_lt (fun _ => ?_) (fun _ => ?_)
    | with_reducible refine ws_le (fun _ => ?_) (fun _ => ?_)
    | with_reducible refine ws_ee (fun _ _ => ?_) (fun _ => ?_)
    | with_reducible refine ws_g (by decide) (by decide) ?_
    | with_reducible refine ws_g (by omega) (by omega) ?_)
  all_goals first
    | exact hJ _ (fun h => absurd h (by decide))
    | exact hJ _ (fun _ => by omega)
    | (refine hJ _ (fun h => ?_); rename_i q; have := q h; omega)
theorem s_many_L (n : Nat) {τ : ms_T} (hR : RI τ) : ∀ (k : Nat) (x v : Int32), 0 ≤ v.toInt → v.toInt ≤ 4 → 5 - v.toInt ≤ (k : Int) → ws (f_X12_many_L39 n k τ x v) (PK τ) := by
  intro k
  induction k with
  | zero => intro x v g0 g1 g2; omega
  | succ k ih =>
    intro x v g0 g1 g2
    have L := lits
    rw [f_X12_many_L39.eq_2]
    refine ws_le (fun _ => ws_s (PKr hR _)) (fun _ => ws_b (s_trust hR.2 v 2 g0 (by omega) (by decide) (by decide)) (fun _ _ => ws_l (ws_l ?_)))
    exact ih _ (v + 1) (by (try simp only [iw_add, iw_sub, iw_mul, t_m1, lt0, lt1, t_2, t_3, t_4, t_5, t_6, t_8, t_9, t_10, t_16, t_20, t_24, t_26, t_30, t_31, t_48, t_64, t_72, t_76, t_92, t_101, t_252, t_444, t_512, t_900, t_1980, t_65521, t_99999, t_mil]) <;> omega) (by (try simp only [iw_add, iw_sub, iw_mul, t_m1, lt0, lt1, t_2, t_3, t_4, t_5, t_6, t_8, t_9, t_10, t_16, t_20, t_24, t_26, t_30, t_31, t_48, t_64, t_72, t_76, t_92, t_101, t_252, t_444, t_512, t_900, t_1980, t_65521, t_99999, t_mil]) <;> omega) (by (try simp only [iw_add, iw_sub, iw_mul, t_m1, lt0, lt1, t_2, t_3, t_4, t_5, t_6, t_8, t_9, t_10, t_16, t_20, t_24, t_26, t_30, t_31, t_48, t_64, t_72, t_76, t_92, t_101, t_252, t_444, t_512, t_900, t_1980, t_65521, t_99999, t_mil]) <;> omega)
theorem s_many (n : Nat) (hn : 70000 ≤ n) (σ : ms_T) (hR : RI σ) (a1 : Int32) : ws (f_X12_many n σ a1) (PK σ) := by
  have L := lits
  have hJ : ∀ w : Int32, (w = 0 → 0 ≤ a1.toInt ∧ a1.toInt ≤ 5) → ws (f_X12_many_J15 n σ a1 w) (PK σ) := by
    intro w hw
    unfold f_X12_many_J15
    refine ws_isP hR (fun e τ hτ hE hf => ?_)
    have := hw e
    exact ws_le (fun _ => s_many_L n hτ n 0 0 (by decide) (by decide) (by rw [lt0]; omega)) (fun _ => ws_g (by omega) (by omega) (ws_s (PKr hτ _)))
  unfold f_X12_many
  repeat' (first
    | with_reducible refine ws_bo (s_isRecord (by assumption) _) (fun _ => ?_) (fun _ => ?_)
    | with_reducible refine ws_bo (s_isMark (by assumption) _) (fun _ => ?_) (fun _ => ?_)
    | with_reducible refine ws_bo (s_isIn _ _ _ _) (fun _ => ?_) (fun _ => ?_)
    | with_reducible refine ws_bo (s_isWatcher _ _) (fun _ => ?_) (fun _ => ?_)
    | with_reducible refine ws_bo (s_isThing _ _ _ _) (fun _ => ?_) (fun _ => ?_)
    | with_reducible refine ws_b (s_noSize (by assumption) _ _) (fun _ _ => ?_)
    | with_reducible refine ws_b (s_noEntry (by assumption) _ _ _) (fun _ _ => ?_)
    | with_reducible refine ws_b (s_sizeOf (by assumption) _ (by omega) (by omega)) (fun _ _ => ?_)
    | with_reducible refine ws_lt (fun _ => ?_) (fun _ => ?_)
    | with_reducible refine ws_le (fun _ => ?_) (fun _ => ?_)
    | with_reducible refine ws_ee (fun _ _ => ?_) (fun _ => ?_)
    | with_reducible refine ws_g (by decide) (by decide) ?_
    | with_reducible refine ws_g (by omega) (by omega) ?_)
  all_goals first
    | exact hJ _ (fun h => absurd h (by decide))
    | exact hJ _ (fun _ => by omega)
    | (refine hJ _ (fun h => ?_); rename_i q; have := q h; omega)
theorem s_size (n : Nat) (hn : 70000 ≤ n) (σ : ms_T) (hR : RI σ) (a1 : Int32) : ws (f_X12_size n σ a1) (PK σ) := by
  have L := lits
  have hC := hR.2
  have h4 := hC.1
  have hJ : ∀ w : Int32, (w = 0 → 0 ≤ a1.toInt ∧ a1.toInt ≤ 3) → ws (f_X12_size_J14 n σ a1 w) (PK σ) := by
    intro w hw
    unfold f_X12_size_J14
    refine ws_isP hR (fun e τ hτ hE hf => ?_)
    have := hw e
    exact ws_b (s_sizeOf hτ.2 a1 (by omega) (by omega)) (fun _ _ => ws_s (PKr hτ _))
  unfold f_X12_size
  repeat' (first
    | with_reducible refine ws_bo (s_isRecord (by assumption) _) (fun _ => ?_) (fun _ => ?_)
    | with_reducible refine ws_bo (s_isMark (by assumption) _) (fun _ => ?_) (fun _ => ?_)
    | with_reducible refine ws_bo (s_isIn _ _ _ _) (fun _ => ?_) (fun _ => ?_)
    | with_reducible refine ws_bo (s_isWatcher _ _) (fun _ => ?_) (fun _ => ?_)
    | with_reducible refine ws_bo (s_isThing _ _ _ _) (fun _ => ?_) (fun _ => ?_)
    | with_reducible refine ws_b (s_noSize (by assumption) _ _) (fun _ _ => ?_)
    | with_reducible refine ws_b (s_noEntry (by assumption) _ _ _) (fun _ _ => ?_)
    | with_reducible refine ws_b (s_sizeOf (by assumption) _ (by omega) (by omega)) (fun _ _ => ?_)
    | with_reducible refine ws_lt (fun _ => ?_) (fun _ => ?_)
    | with_reducible refine ws_le (fun _ => ?_) (fun _ => ?_)
    | with_reducible refine ws_ee (fun _ _ => ?_) (fun _ => ?_)
    | with_reducible refine ws_g (by decide) (by decide) ?_
    | with_reducible refine ws_g (by omega) (by omega) ?_)
  all_goals first
    | exact hJ _ (fun h => absurd h (by decide))
    | exact hJ _ (fun _ => by omega)
    | (refine hJ _ (fun h => ?_); rename_i q; have := q h; omega)
theorem s_entry (n : Nat) (hn : 70000 ≤ n) (σ : ms_T) (hR : RI σ) (a1 a2 a3 : Int32) : ws (f_X12_entry n σ a1 a2 a3) (PK σ) := by
  have L := lits
  have hC := hR.2
  have h4 := hC.1
  have hJ : ∀ w : Int32, (w = 0 → 0 ≤ a1.toInt ∧ a1.toInt ≤ 3 ∧ 0 ≤ a2.toInt ∧ a2.toInt ≤ 47 ∧ 0 ≤ a3.toInt) → ws (f_X12_entry_J39 n σ a1 a2 a3 w) (PK σ) := by
    intro w hw
    unfold f_X12_entry_J39
    refine ws_isP hR (fun e τ hτ hE hf => ?_)
    have h := hw e
    have e1 : ((48 : Int32) * a1).toInt = 48 * a1.toInt := by (try simp only [iw_add, iw_sub, iw_mul, t_m1, lt0, lt1, t_2, t_3, t_4, t_5, t_6, t_8, t_9, t_10, t_16, t_20, t_24, t_26, t_30, t_31, t_48, t_64, t_72, t_76, t_92, t_101, t_252, t_444, t_512, t_900, t_1980, t_65521, t_99999, t_mil]) <;> omega
    have e2 : ((48 : Int32) * a1 + a2).toInt = 48 * a1.toInt + a2.toInt := by rw [iw_add, e1]; omega
    have e3 : ((252 : Int32) + (48 * a1 + a2)).toInt = 252 + 48 * a1.toInt + a2.toInt := by rw [iw_add, e2, t_252]; omega
    have e4 : ((8 : Int32) * (48 * a1 + a2)).toInt = 384 * a1.toInt + 8 * a2.toInt := by rw [iw_mul, e2, t_8]; omega
    have e5 : ((444 : Int32) + 8 * (48 * a1 + a2)).toInt = 444 + 384 * a1.toInt + 8 * a2.toInt := by rw [iw_add, e4, t_444]; omega
    have hc := hτ.2.2.2.2.2.2.2.2.2 (48 * a1.toInt + a2.toInt).toNat (by omega)
    rw [← cl_n (i := (252 : Int32) + (48 * a1 + a2)) (k := 252 + (48 * a1.toInt + a2.toInt).toNat) (by omega)] at hc
    refine ws_l (ws_le (fun g => ws_g (by omega) (by omega) (ws_le (fun _ => ws_rf hτ) (fun c => ?_))) (fun g => ws_i (fun _ => ws_g (by omega) (by omega) (ws_s (PKr hτ _))) (fun _ => ?_)))
    · have e6 : (a3 - 2).toInt = a3.toInt - 2 := by rw [iw_sub, t_2]; have := ib_hi a3; omega
      have e7 : ((444 : Int32) + 8 * (48 * a1 + a2) + a3).toInt = 444 + 384 * a1.toInt + 8 * a2.toInt + a3.toInt := by rw [iw_add, e5]; omega
      have e8 : ((444 : Int32) + 8 * (48 * a1 + a2) + a3 - 2).toInt = 442 + 384 * a1.toInt + 8 * a2.toInt + a3.toInt := by rw [iw_sub, e7, t_2]; omega
      exact ws_g (by omega) (by omega) (ws_s (PKr hτ _))
    · exact ws_b (s_entryMark hn hτ.2 a1 a2 (by omega) (by omega) (by omega) (by omega)) (fun _ _ => ws_s (PKr hτ _))
  unfold f_X12_entry
  repeat' (first
    | with_reducible refine ws_bo (s_isRecord (by assumption) _) (fun _ => ?_) (fun _ => ?_)
    | with_reducible refine ws_bo (s_isMark (by assumption) _) (fun _ => ?_) (fun _ => ?_)
    | with_reducible refine ws_bo (s_isIn _ _ _ _) (fun _ => ?_) (fun _ => ?_)
    | with_reducible refine ws_bo (s_isWatcher _ _) (fun _ => ?_) (fun _ => ?_)
    | with_reducible refine ws_bo (s_isThing _ _ _ _) (fun _ => ?_) (fun _ => ?_)
    | with_reducible refine ws_b (s_noSize (by assumption) _ _) (fun _ _ => ?_)
    | with_reducible refine ws_b (s_noEntry (by assumption) _ _ _) (fun _ _ => ?_)
    | with_reducible refine ws_b (s_sizeOf (by assumption) _ (by omega) (by omega)) (fun _ _ => ?_)
    | with_reducible refine ws_lt (fun _ => ?_) (fun _ => ?_)
    | with_reducible refine ws_le (fun _ => ?_) (fun _ => ?_)
    | with_reducible refine ws_ee (fun _ _ => ?_) (fun _ => ?_)
    | with_reducible refine ws_g (by decide) (by decide) ?_
    | with_reducible refine ws_g (by omega) (by omega) ?_)
  all_goals first
    | exact hJ _ (fun h => absurd h (by decide))
    | exact hJ _ (fun _ => by omega)
    | (refine hJ _ (fun h => ?_); rename_i q; have := q h; omega)
theorem s_head (n : Nat) (hn : 70000 ≤ n) (σ : ms_T) (hR : RI σ) (a1 a2 : Int32) : ws (f_X12_head n σ a1 a2) (PK σ) := by
  unfold f_X12_head
  refine ws_b (s_noSize hR.2 a1 a2) (fun r hr => ws_isP hR (fun e τ hτ hE hf => ?_))
  have := hr e
  exact ws_b (s_headOf n hn hτ.2 a1 a2 (by omega) (by omega) (by omega) (by omega)) (fun _ _ => ws_s (PKr hτ _))
theorem s_join (n : Nat) (hn : 70000 ≤ n) (σ : ms_T) (hR : RI σ) (a1 a2 : Int32) : ws (f_X12_join n σ a1 a2) (PK σ) := by
  have hC := hR.2
  have hJ : ∀ w : Int32, (w = 0 → (0 : Int) = 0) → ws (f_X12_join_J22 n σ a1 a2 w) (PK σ) := by
    intro w hw
    unfold f_X12_join_J22
    exact ws_isP hR (fun e τ hτ hE hf => ws_b (s_both hτ.2 a1 a2) (fun _ _ => ws_s (PKr hτ _)))
  unfold f_X12_join
  repeat' (first
    | with_reducible refine ws_bo (s_isRecord (by assumption) _) (fun _ => ?_) (fun _ => ?_)
    | with_reducible refine ws_bo (s_isMark (by assumption) _) (fun _ => ?_) (fun _ => ?_)
    | with_reducible refine ws_bo (s_isIn _ _ _ _) (fun _ => ?_) (fun _ => ?_)
    | with_reducible refine ws_bo (s_isWatcher _ _) (fun _ => ?_) (fun _ => ?_)
    | with_reducible refine ws_bo (s_isThing _ _ _ _) (fun _ => ?_) (fun _ => ?_)
    | with_reducible refine ws_b (s_noSize (by assumption) _ _) (fun _ _ => ?_)
    | with_reducible refine ws_b (s_noEntry (by assumption) _ _ _) (fun _ _ => ?_)
    | with_reducible refine ws_b (s_sizeOf (by assumption) _ (by omega) (by omega)) (fun _ _ => ?_)
    | with_reducible refine ws_lt (fun _ => ?_) (fun _ => ?_)
    | with_reducible refine ws_le (fun _ => ?_) (fun _ => ?_)
    | with_reducible refine ws_ee (fun _ _ => ?_) (fun _ => ?_)
    | with_reducible refine ws_g (by decide) (by decide) ?_
    | with_reducible refine ws_g (by omega) (by omega) ?_)
  all_goals first
    | exact hJ _ (fun h => absurd h (by decide))
    | exact hJ _ (fun _ => by omega)
    | (refine hJ _ (fun h => ?_); rename_i q; have := q h; omega)
theorem s_mark_L (n : Nat) {τ : ms_T} (hR : RI τ) : ∀ (k : Nat) (x v : Int32), 0 ≤ v.toInt → v.toInt ≤ 8 → 9 - v.toInt ≤ (k : Int) → ws (f_X12_mark_L10 n k τ x v) (PK τ) := by
  intro k
  induction k with
  | zero => intro x v g0 g1 g2; omega
  | succ k ih =>
    intro x v g0 g1 g2
    have h8 := hR.1.1
    rw [f_X12_mark_L10.eq_2]
    refine ws_le (fun _ => ws_s (PKr hR _)) (fun _ => ws_g (by omega) (by omega) (ws_b (s_mixed hR.2 _ _) (fun _ _ => ws_l ?_)))
    exact ih _ (v + 1) (by (try simp only [iw_add, iw_sub, iw_mul, t_m1, lt0, lt1, t_2, t_3, t_4, t_5, t_6, t_8, t_9, t_10, t_16, t_20, t_24, t_26, t_30, t_31, t_48, t_64, t_72, t_76, t_92, t_101, t_252, t_444, t_512, t_900, t_1980, t_65521, t_99999, t_mil]) <;> omega) (by (try simp only [iw_add, iw_sub, iw_mul, t_m1, lt0, lt1, t_2, t_3, t_4, t_5, t_6, t_8, t_9, t_10, t_16, t_20, t_24, t_26, t_30, t_31, t_48, t_64, t_72, t_76, t_92, t_101, t_252, t_444, t_512, t_900, t_1980, t_65521, t_99999, t_mil]) <;> omega) (by (try simp only [iw_add, iw_sub, iw_mul, t_m1, lt0, lt1, t_2, t_3, t_4, t_5, t_6, t_8, t_9, t_10, t_16, t_20, t_24, t_26, t_30, t_31, t_48, t_64, t_72, t_76, t_92, t_101, t_252, t_444, t_512, t_900, t_1980, t_65521, t_99999, t_mil]) <;> omega)
theorem s_mark (n : Nat) (hn : 70000 ≤ n) (σ : ms_T) (hR : RI σ) : ws (f_X12_mark n σ) (PK σ) := by
  unfold f_X12_mark
  exact ws_is0 hR (fun τ hτ _ _ => s_mark_L n hτ n 1 0 (by decide) (by decide) (by rw [lt0]; omega))
theorem s_frozen (n : Nat) (hn : 70000 ≤ n) (σ : ms_T) (hR : RI σ) (a1 a2 : Int32) : ws (f_X12_frozen n σ a1 a2) (PK σ) := by
  have L := lits
  have h16 := hR.2.2.2.2.1
  have hJ : ∀ w : Int32, (w = 0 → 0 ≤ a1.toInt ∧ a1.toInt ≤ 15 ∧ 0 ≤ a2.toInt ∧ a2.toInt ≤ 4) → ws (f_X12_frozen_J33 n σ a1 a2 w) (PK σ) := by
    intro w hw
    unfold f_X12_frozen_J33
    refine ws_isP hR (fun e τ hτ hE hf => ?_)
    have := hw e
    exact ws_le (fun _ => ws_b (s_isSound n hn hτ.2 a1 (by omega) (by omega)) (fun _ _ => ws_i (fun _ => ws_s (PKr hτ _)) (fun _ => ws_s (PKr hτ _)))) (fun _ => ws_b (s_froze hτ.2 a1 a2 (by omega) (by omega) (by omega) (by omega)) (fun _ _ => ws_s (PKr hτ _)))
  unfold f_X12_frozen
  rw [c3]
  repeat' (first
    | with_reducible refine ws_bo (s_isRecord (by assumption) _) (fun _ => ?_) (fun _ => ?_)
    | with_reducible refine ws_bo (s_isMark (by assumption) _) (fun _ => ?_) (fun _ => ?_)
    | with_reducible refine ws_bo (s_isIn _ _ _ _) (fun _ => ?_) (fun _ => ?_)
    | with_reducible refine ws_bo (s_isWatcher _ _) (fun _ => ?_) (fun _ => ?_)
    | with_reducible refine ws_bo (s_isThing _ _ _ _) (fun _ => ?_) (fun _ => ?_)
    | with_reducible refine ws_b (s_noSize (by assumption) _ _) (fun _ _ => ?_)
    | with_reducible refine ws_b (s_noEntry (by assumption) _ _ _) (fun _ _ => ?_)
    | with_reducible refine ws_b (s_sizeOf (by assumption) _ (by omega) (by omega)) (fun _ _ => ?_)
    | with_reducible refine ws_lt (fun _ => ?_) (fun _ => ?_)
    | with_reducible refine ws_le (fun _ => ?_) (fun _ => ?_)
    | with_reducible refine ws_ee (fun _ _ => ?_) (fun _ => ?_)
    | with_reducible refine ws_g (by decide) (by decide) ?_
    | with_reducible refine ws_g (by omega) (by omega) ?_)
  all_goals first
    | exact hJ _ (fun h => absurd h (by decide))
    | exact hJ _ (fun _ => by omega)
    | (refine hJ _ (fun h => ?_); rename_i q; have := q h; omega)
theorem s_watcher (n : Nat) (hn : 70000 ≤ n) (σ : ms_T) (hR : RI σ) (a1 a2 : Int32) : ws (f_X12_watcher n σ a1 a2) (PK σ) := by
  have L := lits
  have hJ : ∀ w : Int32, (w = 0 → 0 ≤ a1.toInt ∧ a1.toInt ≤ 3 ∧ 0 ≤ a2.toInt ∧ a2.toInt ≤ 3) → ws (f_X12_watcher_J26 n σ a1 a2 w) (PK σ) := by
    intro w hw
    unfold f_X12_watcher_J26
    refine ws_isP hR (fun e τ hτ hE hf => ?_)
    have := hw e
    exact ws_b (s_trust hτ.2 a1 a2 (by omega) (by omega) (by omega) (by omega)) (fun _ _ => ws_s (PKr hτ _))
  unfold f_X12_watcher
  repeat' (first
    | with_reducible refine ws_bo (s_isRecord (by assumption) _) (fun _ => ?_) (fun _ => ?_)
    | with_reducible refine ws_bo (s_isMark (by assumption) _) (fun _ => ?_) (fun _ => ?_)
    | with_reducible refine ws_bo (s_isIn _ _ _ _) (fun _ => ?_) (fun _ => ?_)
    | with_reducible refine ws_bo (s_isWatcher _ _) (fun _ => ?_) (fun _ => ?_)
    | with_reducible refine ws_bo (s_isThing _ _ _ _) (fun _ => ?_) (fun _ => ?_)
    | with_reducible refine ws_b (s_noSize (by assumption) _ _) (fun _ _ => ?_)
    | with_reducible refine ws_b (s_noEntry (by assumption) _ _ _) (fun _ _ => ?_)
    | with_reducible refine ws_b (s_sizeOf (by assumption) _ (by omega) (by omega)) (fun _ _ => ?_)
    | with_reducible refine ws_lt (fun _ => ?_) (fun _ => ?_)
    | with_reducible refine ws_le (fun _ => ?_) (fun _ => ?_)
    | with_reducible refine ws_ee (fun _ _ => ?_) (fun _ => ?_)
    | with_reducible refine ws_g (by decide) (by decide) ?_
    | with_reducible refine ws_g (by omega) (by omega) ?_)
  all_goals first
    | exact hJ _ (fun h => absurd h (by decide))
    | exact hJ _ (fun _ => by omega)
    | (refine hJ _ (fun h => ?_); rename_i q; have := q h; omega)
theorem PKs {τ υ : ms_T} (h : RI υ) (e : ms_I υ 667 = ms_I τ 667) (r : Int32) : PK τ (r, υ) := ⟨h, e⟩
theorem s_push (n : Nat) (hn : 70000 ≤ n) (σ : ms_T) (hR : RI σ) (a1 : Int32) : ws (f_X12_push n σ a1) (PK σ) := by
  have L := lits
  have hC := hR.2
  have h64 := hC.2.2.1
  have hJ : ∀ w : Int32, (w = 0 → (ms_E σ 40 2).toInt < 64) → ws (f_X12_push_J29 n σ a1 w) (PK σ) := by
    intro w hw
    unfold f_X12_push_J29
    refine ws_isP hR (fun e τ hτ hE hf => ?_)
    have := hw e
    rw [← hE] at this
    have g := hτ.2.2.2.1
    rw [c2]
    have e1 : ((8 : Int32) + ms_E τ 40 2).toInt = 8 + (ms_E τ 40 2).toInt := by (try simp only [iw_add, iw_sub, iw_mul, t_m1, lt0, lt1, t_2, t_3, t_4, t_5, t_6, t_8, t_9, t_10, t_16, t_20, t_24, t_26, t_30, t_31, t_48, t_64, t_72, t_76, t_92, t_101, t_252, t_444, t_512, t_900, t_1980, t_65521, t_99999, t_mil]) <;> omega
    have e2 : (ms_E τ 40 2 + 1).toInt = (ms_E τ 40 2).toInt + 1 := by (try simp only [iw_add, iw_sub, iw_mul, t_m1, lt0, lt1, t_2, t_3, t_4, t_5, t_6, t_8, t_9, t_10, t_16, t_20, t_24, t_26, t_30, t_31, t_48, t_64, t_72, t_76, t_92, t_101, t_252, t_444, t_512, t_900, t_1980, t_65521, t_99999, t_mil]) <;> omega
    have ec := cl_n (i := (8 : Int32) + ms_E τ 40 2) (k := 8 + (ms_E τ 40 2).toInt.toNat) (by omega)
    refine ws_g (by decide) (by decide) (ws_g (by omega) (by omega) (ws_l (ws_g (by decide) (by decide) (ws_g (by decide) (by decide) (ws_l (ws_g (by decide) (by decide) (ws_s (PKs ?_ rfl _))))))))
    rw [ec]
    refine RI_sE (RI_sE hτ (rc_f (by omega))) ?_
    rw [mE_sE, if_neg (fun q => by omega)]
    exact ⟨fun _ => by omega, fun _ => by omega, fun _ => by omega, fun _ => by omega, fun r _ _ => by omega, fun r _ _ => by omega, fun r _ _ => by omega, fun r _ _ => by omega, fun r _ _ => by omega⟩
  unfold f_X12_push
  rw [c2]
  repeat' (first
    | with_reducible refine ws_bo (s_isRecord (by assumption) _) (fun _ => ?_) (fun _ => ?_)
    | with_reducible refine ws_bo (s_isMark (by assumption) _) (fun _ => ?_) (fun _ => ?_)
    | with_reducible refine ws_bo (s_isIn _ _ _ _) (fun _ => ?_) (fun _ => ?_)
    | with_reducible refine ws_bo (s_isWatcher _ _) (fun _ => ?_) (fun _ => ?_)
    | with_reducible refine ws_bo (s_isThing _ _ _ _) (fun _ => ?_) (fun _ => ?_)
    | with_reducible refine ws_b (s_noSize (by assumption) _ _) (fun _ _ => ?_)
    | with_reducible refine ws_b (s_noEntry (by assumption) _ _ _) (fun _ _ => ?_)
    | with_reducible refine ws_b (s_sizeOf (by assumption) _ (by omega) (by omega)) (fun _ _ => ?_)
    | with_reducible refine ws_lt (fun _ => ?_) (fun _ => ?_)
    | with_reducible refine ws_le (fun _ => ?_) (fun _ => ?_)
    | with_reducible refine ws_ee (fun _ _ => ?_) (fun _ => ?_)
    | with_reducible refine ws_g (by decide) (by decide) ?_
    | with_reducible refine ws_g (by omega) (by omega) ?_)
  all_goals first
    | exact hJ _ (fun h => absurd h (by decide))
    | exact hJ _ (fun _ => by omega)
    | (refine hJ _ (fun h => ?_); rename_i q; have := q h; omega)
theorem s_poke (n : Nat) (hn : 70000 ≤ n) (σ : ms_T) (hR : RI σ) (a1 a2 : Int32) : ws (f_X12_poke n σ a1 a2) (PK σ) := by
  have L := lits
  have hC := hR.2
  have h64 := hC.2.2.1
  have hJ : ∀ w : Int32, (w = 0 → 0 ≤ a1.toInt ∧ a1.toInt < 64) → ws (f_X12_poke_J32 n σ a1 a2 w) (PK σ) := by
    intro w hw
    unfold f_X12_poke_J32
    refine ws_isP hR (fun e τ hτ hE hf => ?_)
    have := hw e
    have e1 : ((8 : Int32) + a1).toInt = 8 + a1.toInt := by (try simp only [iw_add, iw_sub, iw_mul, t_m1, lt0, lt1, t_2, t_3, t_4, t_5, t_6, t_8, t_9, t_10, t_16, t_20, t_24, t_26, t_30, t_31, t_48, t_64, t_72, t_76, t_92, t_101, t_252, t_444, t_512, t_900, t_1980, t_65521, t_99999, t_mil]) <;> omega
    have ec := cl_n (i := (8 : Int32) + a1) (k := 8 + a1.toInt.toNat) (by omega)
    refine ws_g (by omega) (by omega) (ws_l (ws_g (by omega) (by omega) (ws_l (ws_s (PKs (RI_sE hτ (rc_f ?_)) rfl _)))))
    omega
  unfold f_X12_poke
  rw [c2]
  repeat' (first
    | with_reducible refine ws_bo (s_isRecord (by assumption) _) (fun _ => ?_) (fun _ => ?_)
    | with_reducible refine ws_bo (s_isMark (by assumption) _) (fun _ => ?_) (fun _ => ?_)
    | with_reducible refine ws_bo (s_isIn _ _ _ _) (fun _ => ?_) (fun _ => ?_)
    | with_reducible refine ws_bo (s_isWatcher _ _) (fun _ => ?_) (fun _ => ?_)
    | with_reducible refine ws_bo (s_isThing _ _ _ _) (fun _ => ?_) (fun _ => ?_)
    | with_reducible refine ws_b (s_noSize (by assumption) _ _) (fun _ _ => ?_)
    | with_reducible refine ws_b (s_noEntry (by assumption) _ _ _) (fun _ _ => ?_)
    | with_reducible refine ws_b (s_sizeOf (by assumption) _ (by omega) (by omega)) (fun _ _ => ?_)
    | with_reducible refine ws_lt (fun _ => ?_) (fun _ => ?_)
    | with_reducible refine ws_le (fun _ => ?_) (fun _ => ?_)
    | with_reducible refine ws_ee (fun _ _ => ?_) (fun _ => ?_)
    | with_reducible refine ws_g (by decide) (by decide) ?_
    | with_reducible refine ws_g (by omega) (by omega) ?_)
  all_goals first
    | exact hJ _ (fun h => absurd h (by decide))
    | exact hJ _ (fun _ => by omega)
    | (refine hJ _ (fun h => ?_); rename_i q; have := q h; omega)
theorem s_pad (n : Nat) (hn : 70000 ≤ n) (σ : ms_T) (hR : RI σ) (a1 : Int32) : ws (f_X12_pad n σ a1) (PK σ) := by
  have L := lits
  have h64 := hR.2.2.2.1
  have hJ : ∀ w : Int32, (w = 0 → 0 ≤ a1.toInt ∧ a1.toInt < 64) → ws (f_X12_pad_J24 n σ a1 w) (PK σ) := by
    intro w hw
    unfold f_X12_pad_J24
    refine ws_isP hR (fun e τ hτ hE hf => ?_)
    have := hw e
    have e1 : ((8 : Int32) + a1).toInt = 8 + a1.toInt := by (try simp only [iw_add, iw_sub, iw_mul, t_m1, lt0, lt1, t_2, t_3, t_4, t_5, t_6, t_8, t_9, t_10, t_16, t_20, t_24, t_26, t_30, t_31, t_48, t_64, t_72, t_76, t_92, t_101, t_252, t_444, t_512, t_900, t_1980, t_65521, t_99999, t_mil]) <;> omega
    exact ws_g (by omega) (by omega) (ws_s (PKr hτ _))
  unfold f_X12_pad
  rw [c2]
  repeat' (first
    | with_reducible refine ws_bo (s_isRecord (by assumption) _) (fun _ => ?_) (fun _ => ?_)
    | with_reducible refine ws_bo (s_isMark (by assumption) _) (fun _ => ?_) (fun _ => ?_)
    | with_reducible refine ws_bo (s_isIn _ _ _ _) (fun _ => ?_) (fun _ => ?_)
    | with_reducible refine ws_bo (s_isWatcher _ _) (fun _ => ?_) (fun _ => ?_)
    | with_reducible refine ws_bo (s_isThing _ _ _ _) (fun _ => ?_) (fun _ => ?_)
    | with_reducible refine ws_b (s_noSize (by assumption) _ _) (fun _ _ => ?_)
    | with_reducible refine ws_b (s_noEntry (by assumption) _ _ _) (fun _ _ => ?_)
    | with_reducible refine ws_b (s_sizeOf (by assumption) _ (by omega) (by omega)) (fun _ _ => ?_)
    | with_reducible refine ws_lt (fun _ => ?_) (fun _ => ?_)
    | with_reducible refine ws_le (fun _ => ?_) (fun _ => ?_)
    | with_reducible refine ws_ee (fun _ _ => ?_) (fun _ => ?_)
    | with_reducible refine ws_g (by decide) (by decide) ?_
    | with_reducible refine ws_g (by omega) (by omega) ?_)
  all_goals first
    | exact hJ _ (fun h => absurd h (by decide))
    | exact hJ _ (fun _ => by omega)
    | (refine hJ _ (fun h => ?_); rename_i q; have := q h; omega)
theorem s_cut (n : Nat) (hn : 70000 ≤ n) (σ : ms_T) (hR : RI σ) (a1 : Int32) : ws (f_X12_cut n σ a1) (PK σ) := by
  have L := lits
  have h64 := hR.2.2.2.1
  have hJ : ∀ w : Int32, (w = 0 → 0 ≤ a1.toInt ∧ a1.toInt ≤ 64) → ws (f_X12_cut_J24 n σ a1 w) (PK σ) := by
    intro w hw
    unfold f_X12_cut_J24
    refine ws_isP hR (fun e τ hτ hE hf => ?_)
    have := hw e
    refine ws_g (by decide) (by decide) (ws_l (ws_s (PKs (RI_sE hτ ?_) rfl _)))
    rw [c2]
    exact ⟨fun _ => by omega, fun _ => by omega, fun _ => by omega, fun _ => by omega, fun r _ _ => by omega, fun r _ _ => by omega, fun r _ _ => by omega, fun r _ _ => by omega, fun r _ _ => by omega⟩
  unfold f_X12_cut
  rw [c2]
  repeat' (first
    | with_reducible refine ws_bo (s_isRecord (by assumption) _) (fun _ => ?_) (fun _ => ?_)
    | with_reducible refine ws_bo (s_isMark (by assumption) _) (fun _ => ?_) (fun _ => ?_)
    | with_reducible refine ws_bo (s_isIn _ _ _ _) (fun _ => ?_) (fun _ => ?_)
    | with_reducible refine ws_bo (s_isWatcher _ _) (fun _ => ?_) (fun _ => ?_)
    | with_reducible refine ws_bo (s_isThing _ _ _ _) (fun _ => ?_) (fun _ => ?_)
    | with_reducible refine ws_b (s_noSize (by assumption) _ _) (fun _ _ => ?_)
    | with_reducible refine ws_b (s_noEntry (by assumption) _ _ _) (fun _ _ => ?_)
    | with_reducible refine ws_b (s_sizeOf (by assumption) _ (by omega) (by omega)) (fun _ _ => ?_)
    | with_reducible refine ws_lt (fun _ => ?_) (fun _ => ?_)
    | with_reducible refine ws_le (fun _ => ?_) (fun _ => ?_)
    | with_reducible refine ws_ee (fun _ _ => ?_) (fun _ => ?_)
    | with_reducible refine ws_g (by decide) (by decide) ?_
    | with_reducible refine ws_g (by omega) (by omega) ?_)
  all_goals first
    | exact hJ _ (fun h => absurd h (by decide))
    | exact hJ _ (fun _ => by omega)
    | (refine hJ _ (fun h => ?_); rename_i q; have := q h; omega)
theorem s_spoil (n : Nat) (hn : 70000 ≤ n) (σ : ms_T) (hR : RI σ) (a1 a2 a3 a4 : Int32) : ws (f_X12_spoil n σ a1 a2 a3 a4) (PK σ) := by
  have L := lits
  have hC := hR.2
  have h4 := hC.1
  have hJ : ∀ w : Int32, (w = 0 → 0 ≤ a1.toInt ∧ a1.toInt ≤ 3 ∧ 0 ≤ a2.toInt ∧ a2.toInt ≤ 47 ∧ 0 ≤ a3.toInt ∧ a3.toInt ≤ 7) → ws (f_X12_spoil_J69 n σ a1 a2 a3 a4 w) (PK σ) := by
    intro w hw
    unfold f_X12_spoil_J69
    refine ws_isP hR (fun e τ hτ hE hf => ?_)
    have h := hw e
    have e1 : ((48 : Int32) * a1).toInt = 48 * a1.toInt := by (try simp only [iw_add, iw_sub, iw_mul, t_m1, lt0, lt1, t_2, t_3, t_4, t_5, t_6, t_8, t_9, t_10, t_16, t_20, t_24, t_26, t_30, t_31, t_48, t_64, t_72, t_76, t_92, t_101, t_252, t_444, t_512, t_900, t_1980, t_65521, t_99999, t_mil]) <;> omega
    have e2 : ((48 : Int32) * a1 + a2).toInt = 48 * a1.toInt + a2.toInt := by rw [iw_add, e1]; omega
    have e4 : ((8 : Int32) * (48 * a1 + a2)).toInt = 384 * a1.toInt + 8 * a2.toInt := by rw [iw_mul, e2, t_8]; omega
    have e5 : ((444 : Int32) + 8 * (48 * a1 + a2)).toInt = 444 + 384 * a1.toInt + 8 * a2.toInt := by rw [iw_add, e4, t_444]; omega
    have e6 : ((444 : Int32) + 8 * (48 * a1 + a2) + a3).toInt = 444 + 384 * a1.toInt + 8 * a2.toInt + a3.toInt := by rw [iw_add, e5]; omega
    have ec := cl_n (i := (444 : Int32) + 8 * (48 * a1 + a2) + a3) (k := (444 + 384 * a1.toInt + 8 * a2.toInt + a3.toInt).toNat) (by omega)
    refine ws_l (ws_g (by omega) (by omega) (ws_l (ws_i (fun _ => ws_rf hτ) (fun _ => ws_g (by omega) (by omega) (ws_l (ws_g (by decide) (by decide) (ws_g (by decide) (by decide) (ws_l (ws_s (PKs ?_ rfl _))))))))))
    exact RI_sE (RI_sE hτ (rc_f (by omega))) (rc_f (by decide))
  unfold f_X12_spoil
  refine ws_lt (fun _ => ?_) (fun _ => ws_lt (fun _ => ?_) (fun _ => ws_bo (s_isIn _ _ _ _) (fun _ => ?_) (fun _ => ws_bo (s_isRecord hC _) (fun _ => ?_) (fun _ => ws_b (s_sizeOf hC a1 (by omega) (by omega)) (fun r hr => ws_le (fun _ => ?_) (fun _ => ?_))))))
  · exact hJ _ (fun h => absurd h (by decide))
  · exact hJ _ (fun h => absurd h (by decide))
  · exact hJ _ (fun h => absurd h (by decide))
  · exact hJ _ (fun h => absurd h (by decide))
  · exact hJ _ (fun h => absurd h (by decide))
  · have e1 : ((48 : Int32) * a1).toInt = 48 * a1.toInt := by (try simp only [iw_add, iw_sub, iw_mul, t_m1, lt0, lt1, t_2, t_3, t_4, t_5, t_6, t_8, t_9, t_10, t_16, t_20, t_24, t_26, t_30, t_31, t_48, t_64, t_72, t_76, t_92, t_101, t_252, t_444, t_512, t_900, t_1980, t_65521, t_99999, t_mil]) <;> omega
    have e3 : ((252 : Int32) + 48 * a1).toInt = 252 + 48 * a1.toInt := by rw [iw_add, e1, t_252]; omega
    have e4 : ((252 : Int32) + 48 * a1 + a2).toInt = 252 + 48 * a1.toInt + a2.toInt := by rw [iw_add, e3]; omega
    have hc := hC.2.2.2.2.2.2.2.2 (48 * a1.toInt + a2.toInt).toNat (by omega)
    rw [← cl_n (i := (252 : Int32) + 48 * a1 + a2) (k := 252 + (48 * a1.toInt + a2.toInt).toNat) (by omega)] at hc
    exact ws_g (by omega) (by omega) (ws_lt (fun _ => hJ _ (fun _ => by omega)) (fun _ => hJ _ (fun h => absurd h (by decide))))
