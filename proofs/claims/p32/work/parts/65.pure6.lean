/-! ===== public functions of the reference: ways, marks, watchers ===== -/
theorem pk2 {wI wE : List Nat} {σ τ : ms_T} {res : Int32 × ms_T} (h : RI σ) (f : fr wI wE σ τ) (k : fk wI wE = true) (g : PK τ res) : PK σ res := pk_tr (pk h f k 0).2 g
theorem ws_pk {wI wE : List Nat} {σ τ : ms_T} {o : Option (Int32 × ms_T)} (h : RI σ) (f : fr wI wE σ τ) (k : fk wI wE = true) (g : ws o (PK τ)) : ws o (PK σ) := ws_m g (fun _ hr => pk2 h f k hr)
theorem s_include (n : Nat) (hn : 70000 ≤ n) (σ : ms_T) (hR : RI σ) (a1 a2 a3 : Int32) : ws (f_X12_include n σ a1 a2 a3) (PK σ) := by
  unfold f_X12_include
  refine ws_b (s_noEntry hR.2 a1 a2 a3) (fun r hr => ws_isP hR (fun e τ hτ hE hf => ?_))
  have := hr e
  refine ws_b (s_inclusion n hn τ a2 a3 (by omega) (by omega)) (fun υ hυ => ?_)
  obtain ⟨w, hw, hl⟩ := hυ
  refine ws_pk hτ hw.1 (by decide) (ws_c (s_pads n hn (RI_fr hτ hw.1 (by decide)) hw (by omega) (by omega) a1 (by omega) (by omega)) (fun a ρ hρ => ws_s hρ))
theorem s_grow (n : Nat) (hn : 70000 ≤ n) (σ : ms_T) (hR : RI σ) (a1 a2 a3 : Int32) : ws (f_X12_grow n σ a1 a2 a3) (PK σ) := by
  have L := lits
  have hC := hR.2
  have hJ : ∀ w : Int32, (w = 0 → 0 ≤ a1.toInt ∧ a1.toInt ≤ 3 ∧ a3.toInt ≤ 48) → ws (f_X12_grow_J20 n σ a1 a2 a3 w) (PK σ) := by
    intro w hw
    unfold f_X12_grow_J20
    refine ws_isP hR (fun e τ hτ hE hf => ?_)
    have := hw e
    refine ws_b (s_growth0 n hn τ a2 a3) (fun υ hυ => ?_)
    obtain ⟨w, hw, hl⟩ := hυ
    exact ws_pk hτ hw.1 (by decide) (ws_c (s_pads n hn (RI_fr hτ hw.1 (by decide)) hw (by omega) (by omega) a1 (by omega) (by omega)) (fun a ρ hρ => ws_s hρ))
  unfold f_X12_grow
  repeat' (first
    | with_reducible refine ws_bo (s_isRecord (by assumption) _) (fun _ => ?_) (fun _ => ?_)
    | with_reducible refine ws_bo (s_isMark (by assumption) _) (fun _ => ?_) (fun _ => ?_)
    | with_reducible refine ws_bo (s_isIn _ _ _ _) (fun _ => ?_) (fun _ => ?_)
    | with_reducible refine ws_bo (s_isWatcher _ _) (fun _ => ?_) (fun _ => ?_)
    | with_reducible refine ws_bo (s_isThing _ _ _ _) (fun _ => ?_) (fun _ => ?_)
    | with_reducible refine ws_b (s_noSize (by assumption) _ _) (fun _ _ => ?_)
    | with_reducible refine ws_b (s_noEntry (by assumption) _ _ _) (fun _ _ => ?_)
    | with_reducible refine ws_b (s_sizeOf (by assumption) _ (by omega) (by omega)) (fun _ _ => ?_)
    | with_reducible refine ws_lt (fun _ => ?_) (fun _ => ?_)
    | with_reducible refine ws_le (fun _ => ?_) (fun _ => ?_)
    | with_reducible refine ws_ee (fun _ _ => ?_) (fun _ => ?_)
    | with_reducible refine ws_g (by decide) (by decide) ?_
    | with_reducible refine ws_g (by omega) (by omega) ?_)
  all_goals first
    | exact hJ _ (fun h => absurd h (by decide))
    | exact hJ _ (fun _ => by omega)
    | (refine hJ _ (fun h => ?_); rename_i q; have := q h; omega)
theorem s_peaks (n : Nat) (hn : 70000 ≤ n) (σ : ms_T) (hR : RI σ) (a1 a2 : Int32) : ws (f_X12_peaks n σ a1 a2) (PK σ) := by
  unfold f_X12_peaks
  refine ws_b (s_noSize hR.2 a1 a2) (fun r hr => ws_isP hR (fun e τ hτ hE hf => ?_))
  have := hr e
  refine ws_b (s_peaksOf n hn τ a2 (by omega) (by omega)) (fun υ hυ => ?_)
  obtain ⟨w, hw, hl⟩ := hυ
  exact ws_pk hτ hw.1 (by decide) (ws_c (s_pads n hn (RI_fr hτ hw.1 (by decide)) hw (by omega) (by omega) a1 (by omega) (by omega)) (fun a ρ hρ => ws_s hρ))
theorem s_checks (n : Nat) (hn : 70000 ≤ n) (σ : ms_T) (hR : RI σ) (a1 a2 a3 a4 : Int32) : ws (f_X12_checks n σ a1 a2 a3 a4) (PK σ) := by
  have L := lits
  have hC := hR.2
  have hJ : ∀ w : Int32, (w = 0 → 0 ≤ a2.toInt ∧ a2.toInt < a3.toInt) → ws (f_X12_checks_J32 n σ a1 a2 a3 a4 w) (PK σ) := by
    intro w hw
    unfold f_X12_checks_J32
    refine ws_isP hR (fun e τ hτ hE hf => ?_)
    have := hw e
    refine ws_c (s_fromPad n hn τ hτ.2) (fun a υ hυ => ?_)
    have hυR := RI_fr hτ hυ.1 (by decide)
    exact ws_pk hτ hυ.1 (by decide) (ws_c (s_whyIn n hn υ hυR.2 _ _ a2 a3 _ (by omega) (by omega)) (fun b ρ hρ => ws_s (pk hυR hρ (by decide) _)))
  unfold f_X12_checks
  repeat' (first
    | with_reducible refine ws_bo (s_isRecord (by assumption) _) (fun _ => ?_) (fun _ => ?_)
    | with_reducible refine ws_bo (s_isMark (by assumption) _) (fun _ => ?_) (fun _ => ?_)
    | with_reducible refine ws_bo (s_isIn _ _ _ _) (fun _ => ?_) (fun _ => ?_)
    | with_reducible refine ws_bo (s_isWatcher _ _) (fun _ => ?_) (fun _ => ?_)
    | with_reducible refine ws_bo (s_isThing _ _ _ _) (fun _ => ?_) (fun _ => ?_)
    | with_reducible refine ws_b (s_noSize (by assumption) _ _) (fun _ _ => ?_)
    | with_reducible refine ws_b (s_noEntry (by assumption) _ _ _) (fun _ _ => ?_)
    | with_reducible refine ws_b (s_sizeOf (by assumption) _ (by omega) (by omega)) (fun _ _ => ?_)
    | with_reducible refine ws_lt (fun _ => ?_) (fun _ => ?_)
    | with_reducible refine ws_le (fun _ => ?_) (fun _ => ?_)
    | with_reducible refine ws_ee (fun _ _ => ?_) (fun _ => ?_)
    | with_reducible refine ws_g (by decide) (by decide) ?_
    | with_reducible refine ws_g (by omega) (by omega) ?_)
  all_goals first
    | exact hJ _ (fun h => absurd h (by decide))
    | exact hJ _ (fun _ => by omega)
    | (refine hJ _ (fun h => ?_); rename_i q; have := q h; omega)
theorem s_growth_ (n : Nat) (hn : 70000 ≤ n) (σ : ms_T) (hR : RI σ) (a1 a2 a3 a4 : Int32) : ws (f_X12_growth_ n σ a1 a2 a3 a4) (PK σ) := by
  have L := lits
  have hC := hR.2
  have hJ : ∀ w : Int32, (w = 0 → 0 ≤ a1.toInt ∧ a1.toInt ≤ a3.toInt) → ws (f_X12_growth__J32 n σ a1 a2 a3 a4 w) (PK σ) := by
    intro w hw
    unfold f_X12_growth__J32
    refine ws_isP hR (fun e τ hτ hE hf => ?_)
    have := hw e
    refine ws_c (s_fromPad n hn τ hτ.2) (fun a υ hυ => ?_)
    have hυR := RI_fr hτ hυ.1 (by decide)
    exact ws_pk hτ hυ.1 (by decide) (ws_c (s_whyGrown n hn υ hυR.2 _ a1 _ a3 _ (by omega) (by omega)) (fun b ρ hρ => ws_s (pk hυR hρ (by decide) _)))
  unfold f_X12_growth_
  repeat' (first
    | with_reducible refine ws_bo (s_isRecord (by assumption) _) (fun _ => ?_) (fun _ => ?_)
    | with_reducible refine ws_bo (s_isMark (by assumption) _) (fun _ => ?_) (fun _ => ?_)
    | with_reducible refine ws_bo (s_isIn _ _ _ _) (fun _ => ?_) (fun _ => ?_)
    | with_reducible refine ws_bo (s_isWatcher _ _) (fun _ => ?_) (fun _ => ?_)
    | with_reducible refine ws_bo (s_isThing _ _ _ _) (fun _ => ?_) (fun _ => ?_)
    | with_reducible refine ws_b (s_noSize (by assumption) _ _) (fun _ _ => ?_)
    | with_reducible refine ws_b (s_noEntry (by assumption) _ _ _) (fun _ _ => ?_)
    | with_reducible refine ws_b (s_sizeOf (by assumption) _ (by omega) (by omega)) (fun _ _ => ?_)
    | with_reducible refine ws_lt (fun _ => ?_) (fun _ => ?_)
    | with_reducible refine ws_le (fun _ => ?_) (fun _ => ?_)
    | with_reducible refine ws_ee (fun _ _ => ?_) (fun _ => ?_)
    | with_reducible refine ws_g (by decide) (by decide) ?_
    | with_reducible refine ws_g (by omega) (by omega) ?_)
  all_goals first
    | exact hJ _ (fun h => absurd h (by decide))
    | exact hJ _ (fun _ => by omega)
    | (refine hJ _ (fun h => ?_); rename_i q; have := q h; omega)
theorem s_steps (n : Nat) (hn : 70000 ≤ n) (σ : ms_T) (hR : RI σ) (a1 a2 : Int32) : ws (f_X12_steps n σ a1 a2) (PK σ) := by
  have L := lits
  have hJ : ∀ w : Int32, (w = 0 → 0 ≤ a1.toInt ∧ a1.toInt < a2.toInt) → ws (f_X12_steps_J15 n σ a1 a2 w) (PK σ) := by
    intro w hw
    unfold f_X12_steps_J15
    refine ws_isP hR (fun e τ hτ hE hf => ?_)
    have := hw e
    refine ws_b (s_inclusion n hn τ a1 a2 (by omega) (by omega)) (fun υ hυ => ?_)
    obtain ⟨w, hw, hl⟩ := hυ
    exact ws_s (pk hτ hw.1 (by decide) _)
  unfold f_X12_steps
  repeat' (first
    | with_reducible refine ws_bo (s_isRecord (by assumption) _) (fun _ => ?_) (fun _ => ?_)
    | with_reducible refine ws_bo (s_isMark (by assumption) _) (fun _ => ?_) (fun _ => ?_)
    | with_reducible refine ws_bo (s_isIn _ _ _ _) (fun _ => ?_) (fun _ => ?_)
    | with_reducible refine ws_bo (s_isWatcher _ _) (fun _ => ?_) (fun _ => ?_)
    | with_reducible refine ws_bo (s_isThing _ _ _ _) (fun _ => ?_) (fun _ => ?_)
    | with_reducible refine ws_b (s_noSize (by assumption) _ _) (fun _ _ => ?_)
    | with_reducible refine ws_b (s_noEntry (by assumption) _ _ _) (fun _ _ => ?_)
    | with_reducible refine ws_b (s_sizeOf (by assumption) _ (by omega) (by omega)) (fun _ _ => ?_)
    | with_reducible refine ws_lt (fun _ => ?_) (fun _ => ?_)
    | with_reducible refine ws_le (fun _ => ?_) (fun _ => ?_)
    | with_reducible refine ws_ee (fun _ _ => ?_) (fun _ => ?_)
    | with_reducible refine ws_g (by decide) (by decide) ?_
    | with_reducible refine ws_g (by omega) (by omega) ?_)
  all_goals first
    | exact hJ _ (fun h => absurd h (by decide))
    | exact hJ _ (fun _ => by omega)
    | (refine hJ _ (fun h => ?_); rename_i q; have := q h; omega)
theorem s_climbs (n : Nat) (hn : 70000 ≤ n) (σ : ms_T) (hR : RI σ) (a1 a2 : Int32) : ws (f_X12_climbs n σ a1 a2) (PK σ) := by
  have L := lits
  have hJ : ∀ w : Int32, (w = 0 → (0 : Int) = 0) → ws (f_X12_climbs_J15 n σ a1 a2 w) (PK σ) := by
    intro w hw
    unfold f_X12_climbs_J15
    refine ws_isP hR (fun e τ hτ hE hf => ?_)
    refine ws_b (s_growth0 n hn τ a1 a2) (fun υ hυ => ?_)
    obtain ⟨w, hw, hl⟩ := hυ
    exact ws_s (pk hτ hw.1 (by decide) _)
  unfold f_X12_climbs
  repeat' (first
    | with_reducible refine ws_bo (s_isRecord (by assumption) _) (fun _ => ?_) (fun _ => ?_)
    | with_reducible refine ws_bo (s_isMark (by assumption) _) (fun _ => ?_) (fun _ => ?_)
    | with_reducible refine ws_bo (s_isIn _ _ _ _) (fun _ => ?_) (fun _ => ?_)
    | with_reducible refine ws_bo (s_isWatcher _ _) (fun _ => ?_) (fun _ => ?_)
    | with_reducible refine ws_bo (s_isThing _ _ _ _) (fun _ => ?_) (fun _ => ?_)
    | with_reducible refine ws_b (s_noSize (by assumption) _ _) (fun _ _ => ?_)
    | with_reducible refine ws_b (s_noEntry (by assumption) _ _ _) (fun _ _ => ?_)
    | with_reducible refine ws_b (s_sizeOf (by assumption) _ (by omega) (by omega)) (fun _ _ => ?_)
    | with_reducible refine ws_lt (fun _ => ?_) (fun _ => ?_)
    | with_reducible refine ws_le (fun _ => ?_) (fun _ => ?_)
    | with_reducible refine ws_ee (fun _ _ => ?_) (fun _ => ?_)
    | with_reducible refine ws_g (by decide) (by decide) ?_
    | with_reducible refine ws_g (by omega) (by omega) ?_)
  all_goals first
    | exact hJ _ (fun h => absurd h (by decide))
    | exact hJ _ (fun _ => by omega)
    | (refine hJ _ (fun h => ?_); rename_i q; have := q h; omega)
theorem s_agree (n : Nat) (hn : 70000 ≤ n) (σ : ms_T) (hR : RI σ) (a1 a2 : Int32) : ws (f_X12_agree n σ a1 a2) (PK σ) := by
  have hJ : ∀ w : Int32, (w = 0 → 0 ≤ a1.toInt ∧ a1.toInt ≤ 3 ∧ 0 ≤ a2.toInt ∧ a2.toInt ≤ 3) → ws (f_X12_agree_J20 n σ a1 a2 w) (PK σ) := by
    intro w hw
    unfold f_X12_agree_J20
    refine ws_isP hR (fun e τ hτ hE hf => ?_)
    have := hw e
    exact ws_b (s_isAgreed n hn hτ.2 a1 a2 (by omega) (by omega) (by omega) (by omega)) (fun _ _ => ws_i (fun _ => ws_s (PKr hτ _)) (fun _ => ws_s (PKr hτ _)))
  unfold f_X12_agree
  repeat' (first
    | with_reducible refine ws_bo (s_isRecord (by assumption) _) (fun _ => ?_) (fun _ => ?_)
    | with_reducible refine ws_bo (s_isMark (by assumption) _) (fun _ => ?_) (fun _ => ?_)
    | with_reducible refine ws_bo (s_isIn _ _ _ _) (fun _ => ?_) (fun _ => ?_)
    | with_reducible refine ws_bo (s_isWatcher _ _) (fun _ => ?_) (fun _ => ?_)
    | with_reducible refine ws_bo (s_isThing _ _ _ _) (fun _ => ?_) (fun _ => ?_)
    | with_reducible refine ws_b (s_noSize (by assumption) _ _) (fun _ _ => ?_)
    | with_reducible refine ws_b (s_noEntry (by assumption) _ _ _) (fun _ _ => ?_)
    | with_reducible refine ws_b (s_sizeOf (by assumption) _ (by omega) (by omega)) (fun _ _ => ?_)
    | with_reducible refine ws_lt (fun _ => ?_) (fun _ => ?_)
    | with_reducible refine ws_le (fun _ => ?_) (fun _ => ?_)
    | with_reducible refine ws_ee (fun _ _ => ?_) (fun _ => ?_)
    | with_reducible refine ws_g (by decide) (by decide) ?_
    | with_reducible refine ws_g (by omega) (by omega) ?_)
  all_goals first
    | exact hJ _ (fun h => absurd h (by decide))
    | exact hJ _ (fun _ => by omega)
    | (refine hJ _ (fun h => ?_); rename_i q; have := q h; omega)
theorem s_where_L (n : Nat) (hn : 70000 ≤ n) {τ : ms_T} (hR : RI τ) (a1 a2 : Int32) (h0 : 0 ≤ a1.toInt) (h1 : a1.toInt ≤ 3) : ∀ (k : Nat) (x y v : Int32), 0 ≤ v.toInt → v.toInt ≤ 48 → 49 - v.toInt ≤ (k : Int) → ws (f_X12_where_L43 n k τ a1 a2 x y v) (PK τ) := by
  intro k
  induction k with
  | zero => intro x y v g0 g1 g2; omega
  | succ k ih =>
    intro x y v g0 g1 g2
    rw [f_X12_where_L43.eq_2]
    have e1 : ((48 : Int32) * a1).toInt = 48 * a1.toInt := by (try simp only [iw_add, iw_sub, iw_mul, t_m1, lt0, lt1, t_2, t_3, t_4, t_5, t_6, t_8, t_9, t_10, t_16, t_20, t_24, t_26, t_30, t_31, t_48, t_64, t_72, t_76, t_92, t_101, t_252, t_444, t_512, t_900, t_1980, t_65521, t_99999, t_mil]) <;> omega
    have e2 : ((48 : Int32) * a1 + v).toInt = 48 * a1.toInt + v.toInt := by rw [iw_add, e1]; omega
    have hJ : v.toInt < 48 → ∀ x y, ws (f_X12_where_J87 n (f_X12_where_L43 n k) τ a1 a2 x y v) (PK τ) := by
      intro hv x y
      unfold f_X12_where_J87
      exact ws_l (ih x y (v + 1) (by (try simp only [iw_add, iw_sub, iw_mul, t_m1, lt0, lt1, t_2, t_3, t_4, t_5, t_6, t_8, t_9, t_10, t_16, t_20, t_24, t_26, t_30, t_31, t_48, t_64, t_72, t_76, t_92, t_101, t_252, t_444, t_512, t_900, t_1980, t_65521, t_99999, t_mil]) <;> omega) (by (try simp only [iw_add, iw_sub, iw_mul, t_m1, lt0, lt1, t_2, t_3, t_4, t_5, t_6, t_8, t_9, t_10, t_16, t_20, t_24, t_26, t_30, t_31, t_48, t_64, t_72, t_76, t_92, t_101, t_252, t_444, t_512, t_900, t_1980, t_65521, t_99999, t_mil]) <;> omega) (by (try simp only [iw_add, iw_sub, iw_mul, t_m1, lt0, lt1, t_2, t_3, t_4, t_5, t_6, t_8, t_9, t_10, t_16, t_20, t_24, t_26, t_30, t_31, t_48, t_64, t_72, t_76, t_92, t_101, t_252, t_444, t_512, t_900, t_1980, t_65521, t_99999, t_mil]) <;> omega))
    refine ws_b (s_sizeOf hR.2 a1 h0 h1) (fun s hs => ws_le (fun _ => ws_i (fun _ => ws_s (PKr hR _)) (fun _ => ws_i (fun _ => ws_s (PKr hR _)) (fun _ => ws_rf hR))) (fun _ => ?_))
    exact ws_b (s_isTyped n hn hR _ (by omega) (by omega)) (fun _ _ => ws_i (fun _ => hJ (by omega) _ _) (fun _ => ws_l (ws_i (fun _ => hJ (by omega) _ _) (fun _ => hJ (by omega) _ _))))
theorem s_where (n : Nat) (hn : 70000 ≤ n) (σ : ms_T) (hR : RI σ) (a1 a2 : Int32) : ws (f_X12_where n σ a1 a2) (PK σ) := by
  have hC := hR.2
  have h4 := hC.1
  have hJ : ∀ w : Int32, (w = 0 → 0 ≤ a1.toInt ∧ a1.toInt ≤ 3) → ws (f_X12_where_J27 n σ a1 a2 w) (PK σ) := by
    intro w hw
    unfold f_X12_where_J27
    refine ws_isP hR (fun e τ hτ hE hf => ?_)
    have := hw e
    exact s_where_L n hn hτ a1 a2 (by omega) (by omega) n 0 (-1) 0 (by decide) (by decide) (by rw [lt0]; omega)
  unfold f_X12_where
  repeat' (first
    | with_reducible refine ws_bo (s_isRecord (by assumption) _) (fun _ => ?_) (fun _ => ?_)
    | with_reducible refine ws_bo (s_isMark (by assumption) _) (fun _ => ?_) (fun _ => ?_)
    | with_reducible refine ws_bo (s_isIn _ _ _ _) (fun _ => ?_) (fun _ => ?_)
    | with_reducible refine ws_bo (s_isWatcher _ _) (fun _ => ?_) (fun _ => ?_)
    | with_reducible refine ws_bo (s_isThing _ _ _ _) (fun _ => ?_) (fun _ => ?_)
    | with_reducible refine ws_b (s_noSize (by assumption) _ _) (fun _ _ => ?_)
    | with_reducible refine ws_b (s_noEntry (by assumption) _ _ _) (fun _ _ => ?_)
    | with_reducible refine ws_b (s_sizeOf (by assumption) _ (by omega) (by omega)) (fun _ _ => ?_)
    | with_reducible refine ws_lt (fun _ => ?_) (fun _ => ?_)
    | with_reducible refine ws_le (fun _ => ?_) (fun _ => ?_)
    | with_reducible refine ws_ee (fun _ _ => ?_) (fun _ => ?_)
    | with_reducible refine ws_g (by decide) (by decide) ?_
    | with_reducible refine ws_g (by omega) (by omega) ?_)
  all_goals first
    | exact hJ _ (fun h => absurd h (by decide))
    | exact hJ _ (fun _ => by omega)
    | (refine hJ _ (fun h => ?_); rename_i q; have := q h; omega)
theorem s_proves (n : Nat) (hn : 70000 ≤ n) (σ : ms_T) (hR : RI σ) (a1 a2 : Int32) : ws (f_X12_proves n σ a1 a2) (PK σ) := by
  have L := lits
  have hC := hR.2
  have h16 := hC.2.2.2.1
  have hJ : ∀ w : Int32, (w = 0 → 0 ≤ a1.toInt ∧ a1.toInt ≤ 15 ∧ 0 ≤ a2.toInt ∧ a2.toInt ≤ 15 ∧ ∀ r s, f_X12_froze n σ a1 1 = some r → f_X12_froze n σ a2 1 = some s → r.toInt ≤ s.toInt) → ws (f_X12_proves_J57 n σ a1 a2 w) (PK σ) := by
    intro w hw
    unfold f_X12_proves_J57
    refine ws_isP hR (fun e τ hτ hE hf => ?_)
    obtain ⟨q1, q2, q3, q4, q5⟩ := hw e
    have hfz : ∀ x y, f_X12_froze n τ x y = f_X12_froze n σ x y := by
      intro x y
      unfold f_X12_froze
      rw [hE]
    rw [← hfz, ← hfz] at q5
    refine ws_b (s_froze hτ.2 a2 0 (by omega) (by omega) (by decide) (by decide)) (fun r0 h0 => ?_)
    obtain ⟨r1, e1, h1⟩ := s_froze (n := n) hτ.2 a1 1 (by omega) (by omega) (by decide) (by decide)
    obtain ⟨r2, e2, h2⟩ := s_froze (n := n) hτ.2 a2 1 (by omega) (by omega) (by decide) (by decide)
    have q6 := q5 r1 r2 e1 e2
    refine ws_b (S := fun r => r = r1) ⟨r1, e1, rfl⟩ (fun _ g1 => ?_)
    subst g1
    refine ws_b (s_froze hτ.2 a1 2 (by omega) (by omega) (by decide) (by decide)) (fun r3 _ => ?_)
    refine ws_b (S := fun r => r = r2) ⟨r2, e2, rfl⟩ (fun _ g2 => ?_)
    subst g2
    refine ws_b (s_froze hτ.2 a2 2 (by omega) (by omega) (by decide) (by decide)) (fun r4 _ => ?_)
    have k0 := h0.1 rfl
    have k1 := h1.2 rfl
    have k2 := h2.2 rfl
    exact ws_c (s_whyByRecord n hn τ hτ.2 r0 _ r3 _ r4 (by omega) (by omega) (by omega) (by omega) (by omega)) (fun b ρ hρ => ws_s (pk hτ hρ (by decide) _))
  unfold f_X12_proves
  rw [c3]
  refine ws_lt (fun _ => hJ _ (fun h => absurd h (by decide))) (fun _ => ws_le (fun _ => ws_g (by decide) (by decide) (ws_le (fun _ => hJ _ (fun h => absurd h (by decide))) (fun _ => ws_g (by decide) (by decide) (ws_lt (fun _ => ?_) (fun _ => hJ _ (fun h => absurd h (by decide))))))) (fun _ => hJ _ (fun h => absurd h (by decide))))
  obtain ⟨r1, e1, h1⟩ := s_froze (n := n) hC a1 1 (by omega) (by omega) (by decide) (by decide)
  obtain ⟨r2, e2, h2⟩ := s_froze (n := n) hC a2 1 (by omega) (by omega) (by decide) (by decide)
  refine ws_b (S := fun r => r = r1) ⟨r1, e1, rfl⟩ (fun _ g1 => ?_)
  subst g1
  refine ws_b (S := fun r => r = r2) ⟨r2, e2, rfl⟩ (fun _ g2 => ?_)
  subst g2
  refine ws_le (fun c => hJ _ (fun _ => ⟨by omega, by omega, by omega, by omega, fun r s hr hs => ?_⟩)) (fun _ => hJ _ (fun h => absurd h (by decide)))
  rw [e1] at hr
  rw [e2] at hs
  cases hr
  cases hs
  exact c
theorem s_longest_L (n : Nat) (hn : 70000 ≤ n) (a1 a2 : Int32) (h1 : a1.toInt ≤ 512) : ∀ (k : Nat) (τ : ms_T) (x y z v : Int32), RI τ → 0 ≤ v.toInt → v.toInt ≤ 512 → 513 - v.toInt ≤ (k : Int) → ws (f_X12_longest_L45 n k τ a1 a2 x y z v) (PK τ) := by
  intro k
  induction k with
  | zero => intro τ x y z v hR g0 g1 g2; omega
  | succ k ih =>
    intro τ x y z v hR g0 g1 g2
    rw [f_X12_longest_L45.eq_2]
    have hJ : v.toInt < 512 → ∀ ρ x y z, RI ρ → ws (f_X12_longest_J82 n (f_X12_longest_L45 n k) ρ a1 a2 x y v z) (PK ρ) := by
      intro hv ρ x y z hρ
      unfold f_X12_longest_J82 f_X12_longest_J100
      refine ws_i (fun _ => ws_l ?_) (fun _ => ws_l ?_)
      · exact ih _ _ _ _ (v + 1) hρ (by (try simp only [iw_add, iw_sub, iw_mul, t_m1, lt0, lt1, t_2, t_3, t_4, t_5, t_6, t_8, t_9, t_10, t_16, t_20, t_24, t_26, t_30, t_31, t_48, t_64, t_72, t_76, t_92, t_101, t_252, t_444, t_512, t_900, t_1980, t_65521, t_99999, t_mil]) <;> omega) (by (try simp only [iw_add, iw_sub, iw_mul, t_m1, lt0, lt1, t_2, t_3, t_4, t_5, t_6, t_8, t_9, t_10, t_16, t_20, t_24, t_26, t_30, t_31, t_48, t_64, t_72, t_76, t_92, t_101, t_252, t_444, t_512, t_900, t_1980, t_65521, t_99999, t_mil]) <;> omega) (by (try simp only [iw_add, iw_sub, iw_mul, t_m1, lt0, lt1, t_2, t_3, t_4, t_5, t_6, t_8, t_9, t_10, t_16, t_20, t_24, t_26, t_30, t_31, t_48, t_64, t_72, t_76, t_92, t_101, t_252, t_444, t_512, t_900, t_1980, t_65521, t_99999, t_mil]) <;> omega)
      · exact ih _ _ _ _ (v + 1) hρ (by (try simp only [iw_add, iw_sub, iw_mul, t_m1, lt0, lt1, t_2, t_3, t_4, t_5, t_6, t_8, t_9, t_10, t_16, t_20, t_24, t_26, t_30, t_31, t_48, t_64, t_72, t_76, t_92, t_101, t_252, t_444, t_512, t_900, t_1980, t_65521, t_99999, t_mil]) <;> omega) (by (try simp only [iw_add, iw_sub, iw_mul, t_m1, lt0, lt1, t_2, t_3, t_4, t_5, t_6, t_8, t_9, t_10, t_16, t_20, t_24, t_26, t_30, t_31, t_48, t_64, t_72, t_76, t_92, t_101, t_252, t_444, t_512, t_900, t_1980, t_65521, t_99999, t_mil]) <;> omega) (by (try simp only [iw_add, iw_sub, iw_mul, t_m1, lt0, lt1, t_2, t_3, t_4, t_5, t_6, t_8, t_9, t_10, t_16, t_20, t_24, t_26, t_30, t_31, t_48, t_64, t_72, t_76, t_92, t_101, t_252, t_444, t_512, t_900, t_1980, t_65521, t_99999, t_mil]) <;> omega)
    refine ws_le (fun _ => ws_i (fun _ => ws_s (PKr hR _)) (fun _ => ws_i (fun _ => ws_s (PKr hR _)) (fun _ => ws_s (PKr hR _)))) (fun _ => ?_)
    refine ws_b (s_inclusion n hn τ v a1 (by omega) (by omega)) (fun υ hυ => ?_)
    obtain ⟨w, hw, hl⟩ := hυ
    have hυR := RI_fr hR hw.1 (by decide)
    exact ws_pk hR hw.1 (by decide) (ws_l (ws_i (fun _ => hJ (by omega) _ _ _ _ hυR) (fun _ => hJ (by omega) _ _ _ _ hυR)))
theorem s_longest (n : Nat) (hn : 70000 ≤ n) (σ : ms_T) (hR : RI σ) (a1 a2 : Int32) : ws (f_X12_longest n σ a1 a2) (PK σ) := by
  have L := lits
  have hJ : ∀ w : Int32, (w = 0 → a1.toInt ≤ 512) → ws (f_X12_longest_J26 n σ a1 a2 w) (PK σ) := by
    intro w hw
    unfold f_X12_longest_J26
    refine ws_isP hR (fun e τ hτ hE hf => ?_)
    exact s_longest_L n hn a1 a2 (hw e) n τ _ _ _ 0 hτ (by decide) (by decide) (by rw [lt0]; omega)
  unfold f_X12_longest
  repeat' (first
    | with_reducible refine ws_bo (s_isRecord (by assumption) _) (fun _ => ?_) (fun _ => ?_)
    | with_reducible refine ws_bo (s_isMark (by assumption) _) (fun _ => ?_) (fun _ => ?_)
    | with_reducible refine ws_bo (s_isIn _ _ _ _) (fun _ => ?_) (fun _ => ?_)
    | with_reducible refine ws_bo (s_isWatcher _ _) (fun _ => ?_) (fun _ => ?_)
    | with_reducible refine ws_bo (s_isThing _ _ _ _) (fun _ => ?_) (fun _ => ?_)
    | with_reducible refine ws_b (s_noSize (by assumption) _ _) (fun _ _ => ?_)
    | with_reducible refine ws_b (s_noEntry (by assumption) _ _ _) (fun _ _ => ?_)
    | with_reducible refine ws_b (s_sizeOf (by assumption) _ (by omega) (by omega)) (fun _ _ => ?_)
    | with_reducible refine ws_lt (fun _ => ?_) (fun _ => ?_)
    | with_reducible refine ws_le (fun _ => ?_) (fun _ => ?_)
    | with_reducible refine ws_ee (fun _ _ => ?_) (fun _ => ?_)
    | with_reducible refine ws_g (by decide) (by decide) ?_
    | with_reducible refine ws_g (by omega) (by omega) ?_)
  all_goals first
    | exact hJ _ (fun h => absurd h (by decide))
    | exact hJ _ (fun _ => by omega)
    | (refine hJ _ (fun h => ?_); rename_i q; have := q h; omega)
theorem s_wayAt (n : Nat) {σ : ms_T} (hR : RI σ) {w : Nat} (hw : (ms_I σ 657).toInt = (w : Int)) (hl : w ≤ 128) (a1 a2 : Int32) (h0 : 0 ≤ a1.toInt) : ws (f_X12_wayAt n σ a1 a2) (PK σ) := by
  unfold f_X12_wayAt
  exact ws_lt (fun _ => ws_i (fun _ => ws_g h0 (by omega) (ws_s (PKr hR _))) (fun _ => ws_g h0 (by omega) (ws_s (PKr hR _)))) (fun _ => ws_rf hR)
theorem s_span (n : Nat) (hn : 70000 ≤ n) (σ : ms_T) (hR : RI σ) (a1 a2 a3 a4 : Int32) : ws (f_X12_span n σ a1 a2 a3 a4) (PK σ) := by
  have L := lits
  have hJ : ∀ w : Int32, (w = 0 → 0 ≤ a1.toInt ∧ a1.toInt < a2.toInt ∧ 0 ≤ a3.toInt) → ws (f_X12_span_J29 n σ a1 a2 a3 a4 w) (PK σ) := by
    intro w hw
    unfold f_X12_span_J29
    refine ws_isP hR (fun e τ hτ hE hf => ?_)
    have := hw e
    refine ws_b (s_inclusion n hn τ a1 a2 (by omega) (by omega)) (fun υ hυ => ?_)
    obtain ⟨w, hw, hl⟩ := hυ
    exact ws_pk hτ hw.1 (by decide) (ws_c (s_wayAt n (RI_fr hτ hw.1 (by decide)) hw.2.1 (by omega) a3 a4 (by omega)) (fun a ρ hρ => ws_s hρ))
  unfold f_X12_span
  repeat' (first
    | with_reducible refine ws_bo (s_isRecord (by assumption) _) (fun _ => ?_) (fun _ => ?_)
    | with_reducible refine ws_bo (s_isMark (by assumption) _) (fun _ => ?_) (fun _ => ?_)
    | with_reducible refine ws_bo (s_isIn _ _ _ _) (fun _ => ?_) (fun _ => ?_)
    | with_reducible refine ws_bo (s_isWatcher _ _) (fun _ => ?_) (fun _ => ?_)
    | with_reducible refine ws_bo (s_isThing _ _ _ _) (fun _ => ?_) (fun _ => ?_)
    | with_reducible refine ws_b (s_noSize (by assumption) _ _) (fun _ _ => ?_)
    | with_reducible refine ws_b (s_noEntry (by assumption) _ _ _) (fun _ _ => ?_)
    | with_reducible refine ws_b (s_sizeOf (by assumption) _ (by omega) (by omega)) (fun _ _ => ?_)
    | with_reducible refine ws_lt (fun _ => ?_) (fun _ => ?_)
    | with_reducible refine ws_le (fun _ => ?_) (fun _ => ?_)
    | with_reducible refine ws_ee (fun _ _ => ?_) (fun _ => ?_)
    | with_reducible refine ws_g (by decide) (by decide) ?_
    | with_reducible refine ws_g (by omega) (by omega) ?_)
  all_goals first
    | exact hJ _ (fun h => absurd h (by decide))
    | exact hJ _ (fun _ => by omega)
    | (refine hJ _ (fun h => ?_); rename_i q; have := q h; omega)
theorem s_rise (n : Nat) (hn : 70000 ≤ n) (σ : ms_T) (hR : RI σ) (a1 a2 a3 a4 : Int32) : ws (f_X12_rise n σ a1 a2 a3 a4) (PK σ) := by
  have L := lits
  have hJ : ∀ w : Int32, (w = 0 → 0 ≤ a3.toInt) → ws (f_X12_rise_J29 n σ a1 a2 a3 a4 w) (PK σ) := by
    intro w hw
    unfold f_X12_rise_J29
    refine ws_isP hR (fun e τ hτ hE hf => ?_)
    have := hw e
    refine ws_b (s_growth0 n hn τ a1 a2) (fun υ hυ => ?_)
    obtain ⟨w, hw, hl⟩ := hυ
    exact ws_pk hτ hw.1 (by decide) (ws_c (s_wayAt n (RI_fr hτ hw.1 (by decide)) hw.2.1 (by omega) a3 a4 (by omega)) (fun a ρ hρ => ws_s hρ))
  unfold f_X12_rise
  repeat' (first
    | with_reducible refine ws_bo (s_isRecord (by assumption) _) (fun _ => ?_) (fun _ => ?_)
    | with_reducible refine ws_bo (s_isMark (by assumption) _) (fun _ => ?_) (fun _ => ?_)
    | with_reducible refine ws_bo (s_isIn _ _ _ _) (fun _ => ?_) (fun _ => ?_)
    | with_reducible refine ws_bo (s_isWatcher _ _) (fun _ => ?_) (fun _ => ?_)
    | with_reducible refine ws_bo (s_isThing _ _ _ _) (fun _ => ?_) (fun _ => ?_)
    | with_reducible refine ws_b (s_noSize (by assumption) _ _) (fun _ _ => ?_)
    | with_reducible refine ws_b (s_noEntry (by assumption) _ _ _) (fun _ _ => ?_)
    | with_reducible refine ws_b (s_sizeOf (by assumption) _ (by omega) (by omega)) (fun _ _ => ?_)
    | with_reducible refine ws_lt (fun _ => ?_) (fun _ => ?_)
    | with_reducible refine ws_le (fun _ => ?_) (fun _ => ?_)
    | with_reducible refine ws_ee (fun _ _ => ?_) (fun _ => ?_)
    | with_reducible refine ws_g (by decide) (by decide) ?_
    | with_reducible refine ws_g (by omega) (by omega) ?_)
  all_goals first
    | exact hJ _ (fun h => absurd h (by decide))
    | exact hJ _ (fun _ => by omega)
    | (refine hJ _ (fun h => ?_); rename_i q; have := q h; omega)
theorem s_trusted_L (n : Nat) {τ : ms_T} (hR : RI τ) (a1 a2 : Int32) : ∀ (k : Nat) (x v : Int32), 0 ≤ v.toInt → v.toInt ≤ 4 → 5 - v.toInt ≤ (k : Int) → ws (f_X12_trusted_L31 n k τ a1 a2 x v) (PK τ) := by
  intro k
  induction k with
  | zero => intro x v g0 g1 g2; omega
  | succ k ih =>
    intro x v g0 g1 g2
    have L := lits
    rw [f_X12_trusted_L31.eq_2]
    have hJ : v.toInt < 4 → ∀ x y, ws (f_X12_trusted_J65 n (f_X12_trusted_L31 n k) τ a1 a2 v x y) (PK τ) := by
      intro hv x y
      unfold f_X12_trusted_J65
      exact ws_l (ws_l (ih _ (v + 1) (by (try simp only [iw_add, iw_sub, iw_mul, t_m1, lt0, lt1, t_2, t_3, t_4, t_5, t_6, t_8, t_9, t_10, t_16, t_20, t_24, t_26, t_30, t_31, t_48, t_64, t_72, t_76, t_92, t_101, t_252, t_444, t_512, t_900, t_1980, t_65521, t_99999, t_mil]) <;> omega) (by (try simp only [iw_add, iw_sub, iw_mul, t_m1, lt0, lt1, t_2, t_3, t_4, t_5, t_6, t_8, t_9, t_10, t_16, t_20, t_24, t_26, t_30, t_31, t_48, t_64, t_72, t_76, t_92, t_101, t_252, t_444, t_512, t_900, t_1980, t_65521, t_99999, t_mil]) <;> omega) (by (try simp only [iw_add, iw_sub, iw_mul, t_m1, lt0, lt1, t_2, t_3, t_4, t_5, t_6, t_8, t_9, t_10, t_16, t_20, t_24, t_26, t_30, t_31, t_48, t_64, t_72, t_76, t_92, t_101, t_252, t_444, t_512, t_900, t_1980, t_65521, t_99999, t_mil]) <;> omega)))
    exact ws_le (fun _ => ws_s (PKr hR _)) (fun _ => ws_b (s_trust hR.2 v 0 g0 (by omega) (by decide) (by decide)) (fun _ _ => ws_i (fun _ => ws_b (s_trust hR.2 v 1 g0 (by omega) (by decide) (by decide)) (fun _ _ => ws_i (fun _ => hJ (by omega) _ _) (fun _ => hJ (by omega) _ _))) (fun _ => hJ (by omega) _ _)))
theorem s_trusted (n : Nat) (hn : 70000 ≤ n) (σ : ms_T) (hR : RI σ) (a1 a2 : Int32) : ws (f_X12_trusted n σ a1 a2) (PK σ) := by
  have hC := hR.2
  have hJ : ∀ w : Int32, (w = 0 → (0 : Int) = 0) → ws (f_X12_trusted_J18 n σ a1 a2 w) (PK σ) := by
    intro w hw
    unfold f_X12_trusted_J18
    exact ws_isP hR (fun e τ hτ hE hf => s_trusted_L n hτ a1 a2 n 0 0 (by decide) (by decide) (by rw [lt0]; omega))
  unfold f_X12_trusted
  repeat' (first
    | with_reducible refine ws_bo (s_isRecord (by assumption) _) (fun _ => ?_) (fun _ => ?_)
    | with_reducible refine ws_bo (s_isMark (by assumption) _) (fun _ => ?_) (fun _ => ?_)
    | with_reducible refine ws_bo (s_isIn _ _ _ _) (fun _ => ?_) (fun _ => ?_)
    | with_reducible refine ws_bo (s_isWatcher _ _) (fun _ => ?_) (fun _ => ?_)
    | with_reducible refine ws_bo (s_isThing _ _ _ _) (fun _ => ?_) (fun _ => ?_)
    | with_reducible refine ws_b (s_noSize (by assumption) _ _) (fun _ _ => ?_)
    | with_reducible refine ws_b (s_noEntry (by assumption) _ _ _) (fun _ _ => ?_)
    | with_reducible refine ws_b (s_sizeOf (by assumption) _ (by omega) (by omega)) (fun _ _ => ?_)
    | with_reducible refine ws_lt (fun _ => ?_) (fun _ => ?_)
    | with_reducible refine ws_le (fun _ => ?_) (fun _ => ?_)
    | with_reducible refine ws_ee (fun _ _ => ?_) (fun _ => ?_)
    | with_reducible refine ws_g (by decide) (by decide) ?_
    | with_reducible refine ws_g (by omega) (by omega) ?_)
  all_goals first
    | exact hJ _ (fun h => absurd h (by decide))
    | exact hJ _ (fun _ => by omega)
    | (refine hJ _ (fun h => ?_); rename_i q; have := q h; omega)
theorem s_who_L (n : Nat) (hn : 70000 ≤ n) {τ : ms_T} (hR : RI τ) (a1 a2 : Int32) (h1 : 0 ≤ a1.toInt) : ∀ (k : Nat) (x v : Int32), 0 ≤ v.toInt → v.toInt ≤ 4 → 5 - v.toInt ≤ (k : Int) → ws (f_X12_who_L31 n k τ a1 a2 x v) (PK τ) := by
  intro k
  induction k with
  | zero => intro x v g0 g1 g2; omega
  | succ k ih =>
    intro x v g0 g1 g2
    have L := lits
    have h4 := hR.2.1
    rw [f_X12_who_L31.eq_2, c0]
    have hJ : v.toInt < 4 → ∀ x y, ws (f_X12_who_J62 n (f_X12_who_L31 n k) τ a1 a2 v x y) (PK τ) := by
      intro hv x y
      unfold f_X12_who_J62
      exact ws_l (ws_l (ih _ (v + 1) (by (try simp only [iw_add, iw_sub, iw_mul, t_m1, lt0, lt1, t_2, t_3, t_4, t_5, t_6, t_8, t_9, t_10, t_16, t_20, t_24, t_26, t_30, t_31, t_48, t_64, t_72, t_76, t_92, t_101, t_252, t_444, t_512, t_900, t_1980, t_65521, t_99999, t_mil]) <;> omega) (by (try simp only [iw_add, iw_sub, iw_mul, t_m1, lt0, lt1, t_2, t_3, t_4, t_5, t_6, t_8, t_9, t_10, t_16, t_20, t_24, t_26, t_30, t_31, t_48, t_64, t_72, t_76, t_92, t_101, t_252, t_444, t_512, t_900, t_1980, t_65521, t_99999, t_mil]) <;> omega) (by (try simp only [iw_add, iw_sub, iw_mul, t_m1, lt0, lt1, t_2, t_3, t_4, t_5, t_6, t_8, t_9, t_10, t_16, t_20, t_24, t_26, t_30, t_31, t_48, t_64, t_72, t_76, t_92, t_101, t_252, t_444, t_512, t_900, t_1980, t_65521, t_99999, t_mil]) <;> omega)))
    exact ws_g (by decide) (by decide) (ws_le (fun _ => ws_s (PKr hR _)) (fun _ => ws_b (s_isHead n hn hR.2 v a1 a2 g0 (by omega) h1) (fun _ _ => ws_i (fun _ => hJ (by omega) _ _) (fun _ => hJ (by omega) _ _))))
theorem s_who (n : Nat) (hn : 70000 ≤ n) (σ : ms_T) (hR : RI σ) (a1 a2 : Int32) : ws (f_X12_who n σ a1 a2) (PK σ) := by
  have L := lits
  have hC := hR.2
  have hJ : ∀ w : Int32, (w = 0 → 0 ≤ a1.toInt) → ws (f_X12_who_J18 n σ a1 a2 w) (PK σ) := by
    intro w hw
    unfold f_X12_who_J18
    exact ws_isP hR (fun e τ hτ hE hf => s_who_L n hn hτ a1 a2 (hw e) n 0 0 (by decide) (by decide) (by rw [lt0]; omega))
  unfold f_X12_who
  repeat' (first
    | with_reducible refine ws_bo (s_isRecord (by assumption) _) (fun _ => ?_) (fun _ => ?_)
    | with_reducible refine ws_bo (s_isMark (by assumption) _) (fun _ => ?_) (fun _ => ?_)
    | with_reducible refine ws_bo (s_isIn _ _ _ _) (fun _ => ?_) (fun _ => ?_)
    | with_reducible refine ws_bo (s_isWatcher _ _) (fun _ => ?_) (fun _ => ?_)
    | with_reducible refine ws_bo (s_isThing _ _ _ _) (fun _ => ?_) (fun _ => ?_)
    | with_reducible refine ws_b (s_noSize (by assumption) _ _) (fun _ _ => ?_)
    | with_reducible refine ws_b (s_noEntry (by assumption) _ _ _) (fun _ _ => ?_)
    | with_reducible refine ws_b (s_sizeOf (by assumption) _ (by omega) (by omega)) (fun _ _ => ?_)
    | with_reducible refine ws_lt (fun _ => ?_) (fun _ => ?_)
    | with_reducible refine ws_le (fun _ => ?_) (fun _ => ?_)
    | with_reducible refine ws_ee (fun _ _ => ?_) (fun _ => ?_)
    | with_reducible refine ws_g (by decide) (by decide) ?_
    | with_reducible refine ws_g (by omega) (by omega) ?_)
  all_goals first
    | exact hJ _ (fun h => absurd h (by decide))
    | exact hJ _ (fun _ => by omega)
    | (refine hJ _ (fun h => ?_); rename_i q; have := q h; omega)
