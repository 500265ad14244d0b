/-! ===== bundles, bits, trees, loops over what was frozen ===== -/
theorem and1 (x : Int32) : x &&& 1 = 0 ∨ x &&& 1 = 1 := by
  have h : (x &&& 1).toBitVec.toNat = x.toBitVec.toNat % 2 := by
    show (x.toBitVec &&& (1#32)).toNat = _
    rw [BitVec.toNat_and]; exact Nat.and_one_is_mod _
  have h2 := Nat.mod_lt x.toBitVec.toNat (show 2 > 0 by decide)
  rcases (show x.toBitVec.toNat % 2 = 0 ∨ x.toBitVec.toNat % 2 = 1 by omega) with e | e
  · left
    have q : (x &&& 1).toBitVec = (0 : Int32).toBitVec := BitVec.eq_of_toNat_eq (by rw [h, e]; rfl)
    exact Int32.toInt_inj.mp (congrArg BitVec.toInt q)
  · right
    have q : (x &&& 1).toBitVec = (1 : Int32).toBitVec := BitVec.eq_of_toNat_eq (by rw [h, e]; rfl)
    exact Int32.toInt_inj.mp (congrArg BitVec.toInt q)
theorem and63 (x : Int32) : 0 ≤ (x &&& 63).toInt ∧ (x &&& 63).toInt ≤ 63 := by
  have h : (x &&& 63).toBitVec.toNat ≤ 63 := by
    show (x.toBitVec &&& (63#32)).toNat ≤ _
    rw [BitVec.toNat_and]; exact Nat.and_le_right
  have e : (x &&& 63).toInt = (x &&& 63).toBitVec.toInt := rfl
  rw [e, BitVec.toInt_eq_toNat_cond]
  split <;> omega
theorem s_bitCount (n : Nat) (a : Int32) : ws (f_J6_bitCount_0f7a4 n a) (fun r => 0 ≤ r.toInt ∧ r.toInt ≤ 63) := by
  unfold f_J6_bitCount_0f7a4
  exact ws_l (ws_l (ws_l (ws_l (ws_l (ws_s (and63 _))))))
theorem s_bundleOfZ (n : Nat) (hn : 70000 ≤ n) (σ : ms_T) (s m : Int32) (h0 : 0 ≤ m.toInt) (h1 : m.toInt ≤ 48) : ws (f_X12_bundleOf n σ s m) (fun τ => ∃ w, wy 48 σ τ w ∧ w ≤ 58) := by
  by_cases hm : 1 ≤ m.toInt
  · refine ws_m (s_bundleOf n hn σ s m hm) (fun τ hτ => ?_)
    obtain ⟨w, hw, hl⟩ := hτ
    exact ⟨w, ⟨hw.1, hw.2.1, fun q hq => by have := hw.2.2 q hq; omega⟩, hl⟩
  · unfold f_X12_bundleOf
    refine ws_l ?_
    have h : ws (f_X12_bundlesIn n 40 (ms_sI σ 657 0) s 0 m) (fun τ => wy 48 σ τ 1) := by
      rw [f_X12_bundlesIn.eq_2]
      refine ws_b (s_hasAny n hn s 0 m) (fun r hr => ws_i (fun _ => ?_) (fun g => absurd (hr.2.2 rfl (by omega)) g))
      exact ws_b (s_asks n wy_0 (by omega) 0 m (by decide) h0 (by rw [lt0]; omega)) (fun υ hυ => ws_s hυ)
    exact ws_b h (fun υ hυ => ws_s ⟨1, hυ, by omega⟩)
theorem s_isBeyond_L (n : Nat) (s m : Int32) : ∀ (k : Nat) (v : Int32), 0 ≤ v.toInt → v.toInt ≤ 31 → 32 - v.toInt ≤ (k : Int) → ws (f_X12_isBeyond_L2 n k s m v) (fun r => r = 0 → ∀ u : Int32, v.toInt ≤ u.toInt → u.toInt < 31 → ((s >>> (u &&& 31)) &&& 1) = 1 → u.toInt < m.toInt) := by
  intro k
  induction k with
  | zero => intro v g0 g1 g2; omega
  | succ k ih =>
    intro v g0 g1 g2
    have L := lits
    rw [f_X12_isBeyond_L2.eq_2]
    have hJ : v.toInt < 31 → (((s >>> (v &&& 31)) &&& 1) = 1 → v.toInt < m.toInt) → ws (f_X12_isBeyond_J30 n (f_X12_isBeyond_L2 n k) s m v) (fun r => r = 0 → ∀ u : Int32, v.toInt ≤ u.toInt → u.toInt < 31 → ((s >>> (u &&& 31)) &&& 1) = 1 → u.toInt < m.toInt) := by
      intro hv hb
      unfold f_X12_isBeyond_J30
      have e1 : (v + 1).toInt = v.toInt + 1 := by (try simp only [iw_add, iw_sub, iw_mul, t_m1, lt0, lt1, t_2, t_3, t_4, t_5, t_6, t_8, t_9, t_10, t_16, t_20, t_24, t_26, t_30, t_31, t_48, t_64, t_72, t_76, t_92, t_101, t_252, t_444, t_512, t_900, t_1980, t_65521, t_99999, t_mil]) <;> omega
      refine ws_l (ws_m (ih (v + 1) (by omega) (by omega) (by omega)) (fun r hr e u h1 h2 h3 => ?_))
      by_cases hu : u.toInt = v.toInt
      · rw [Int32.toInt_inj.mp hu] at h3 ⊢
        exact hb h3
      · exact hr e u (by omega) h2 h3
    refine ws_le (fun _ => ws_s (fun _ u h1 h2 => by omega)) (fun _ => ws_i (fun b => ws_le (fun _ => ws_s (fun h => absurd h (by decide))) (fun c => ws_lt (fun _ => hJ (by omega) (fun _ => c)) (fun _ => ws_s (fun h => absurd h (by decide))))) (fun b => hJ (by omega) (fun h => absurd h b)))
theorem s_isBeyond (n : Nat) (hn : 70000 ≤ n) (s m : Int32) : ws (f_X12_isBeyond n s m) (fun r => r = 0 → ∀ u : Int32, 0 ≤ u.toInt → u.toInt < 31 → ((s >>> (u &&& 31)) &&& 1) = 1 → u.toInt < m.toInt) := by
  unfold f_X12_isBeyond
  exact s_isBeyond_L n s m n 0 (by decide) (by decide) (by rw [lt0]; omega)
theorem s_bundle (n : Nat) (hn : 70000 ≤ n) (σ : ms_T) (hR : RI σ) (a1 a2 a3 : Int32) : ws (f_X12_bundle n σ a1 a2 a3) (PK σ) := by
  have L := lits
  have hC := hR.2
  have hJ : ∀ w : Int32, (w = 0 → 0 ≤ a1.toInt ∧ a1.toInt ≤ 3 ∧ 0 ≤ a3.toInt ∧ a3.toInt ≤ 48) → ws (f_X12_bundle_J19 n σ a1 a2 a3 w) (PK σ) := by
    intro w hw
    unfold f_X12_bundle_J19
    refine ws_isP hR (fun e τ hτ hE hf => ?_)
    have := hw e
    refine ws_b (s_isBeyond n hn a2 a3) (fun _ _ => ws_i (fun _ => ws_b (s_bundleOfZ n hn τ a2 a3 (by omega) (by omega)) (fun υ hυ => ?_)) (fun _ => ws_rf hτ))
    obtain ⟨w, hw, hl⟩ := hυ
    exact ws_pk hτ hw.1 (by decide) (ws_c (s_pads n hn (RI_fr hτ hw.1 (by decide)) hw (by omega) (by omega) a1 (by omega) (by omega)) (fun a ρ hρ => ws_s hρ))
  unfold f_X12_bundle
  repeat' (first
    | with_reducible refine ws_bo (s_isRecord (by assumption) _) (fun _ => ?_) (fun _ => ?_)
    | with_reducible refine ws_bo (s_isMark (by assumption) _) (fun _ => ?_) (fun _ => ?_)
    | with_reducible refine ws_bo (s_isIn _ _ _ _) (fun _ => ?_) (fun _ => ?_)
    | with_reducible refine ws_bo (s_isWatcher _ _) (fun _ => ?_) (fun _ => ?_)
    | with_reducible refine ws_bo (s_isThing _ _ _ _) (fun _ => ?_) (fun _ => ?_)
    | with_reducible refine ws_b (s_noSize (by assumption) _ _) (fun _ _ => ?_)
    | with_reducible refine ws_b (s_noEntry (by assumption) _ _ _) (fun _ _ => ?_)
    | with_reducible refine ws_b (s_sizeOf (by assumption) _ (by omega) (by omega)) (fun _ _ => ?_)
    | with_reducible refine ws_lt (fun _ => ?_) (fun _ => ?_)
    | with_reducible refine ws_le (fun _ => ?_) (fun _ => ?_)
    | with_reducible refine ws_ee (fun _ _ => ?_) (fun _ => ?_)
    | with_reducible refine ws_g (by decide) (by decide) ?_
    | with_reducible refine ws_g (by omega) (by omega) ?_)
  all_goals first
    | exact hJ _ (fun h => absurd h (by decide))
    | exact hJ _ (fun _ => by omega)
    | (refine hJ _ (fun h => ?_); rename_i q; have := q h; omega)
theorem s_saves_L (n : Nat) (hn : 70000 ≤ n) (a1 a2 : Int32) (hb : ∀ u : Int32, 0 ≤ u.toInt → u.toInt < 31 → ((a1 >>> (u &&& 31)) &&& 1) = 1 → u.toInt < a2.toInt) : ∀ (k : Nat) (τ : ms_T) (x v : Int32), RI τ → 0 ≤ v.toInt → v.toInt ≤ 30 → 31 - v.toInt ≤ (k : Int) → ws (f_X12_saves_L31 n k τ a1 a2 x v) (PK τ) := by
  intro k
  induction k with
  | zero => intro τ x v hR g0 g1 g2; omega
  | succ k ih =>
    intro τ x v hR g0 g1 g2
    have L := lits
    rw [f_X12_saves_L31.eq_2]
    have hJ : v.toInt < 30 → ∀ ρ x, RI ρ → ws (f_X12_saves_J64 n (f_X12_saves_L31 n k) ρ a1 a2 x v) (PK ρ) := by
      intro hv ρ x hρ
      unfold f_X12_saves_J64
      exact ws_l (ih _ _ (v + 1) hρ (by (try simp only [iw_add, iw_sub, iw_mul, t_m1, lt0, lt1, t_2, t_3, t_4, t_5, t_6, t_8, t_9, t_10, t_16, t_20, t_24, t_26, t_30, t_31, t_48, t_64, t_72, t_76, t_92, t_101, t_252, t_444, t_512, t_900, t_1980, t_65521, t_99999, t_mil]) <;> omega) (by (try simp only [iw_add, iw_sub, iw_mul, t_m1, lt0, lt1, t_2, t_3, t_4, t_5, t_6, t_8, t_9, t_10, t_16, t_20, t_24, t_26, t_30, t_31, t_48, t_64, t_72, t_76, t_92, t_101, t_252, t_444, t_512, t_900, t_1980, t_65521, t_99999, t_mil]) <;> omega) (by (try simp only [iw_add, iw_sub, iw_mul, t_m1, lt0, lt1, t_2, t_3, t_4, t_5, t_6, t_8, t_9, t_10, t_16, t_20, t_24, t_26, t_30, t_31, t_48, t_64, t_72, t_76, t_92, t_101, t_252, t_444, t_512, t_900, t_1980, t_65521, t_99999, t_mil]) <;> omega))
    refine ws_le (fun _ => ?_) (fun _ => ws_i (fun _ => hJ (by omega) _ _ hR) (fun b => ?_))
    · by_cases hm : 1 ≤ a2.toInt
      · refine ws_b (s_bundleOf n hn τ a1 a2 hm) (fun υ hυ => ?_)
        obtain ⟨w, hw, hl⟩ := hυ
        exact ws_s (pk hR hw.1 (by decide) _)
      · exact ws_b (s_bundleOf0 n hn τ a1 a2 (by omega)) (fun υ hυ => ws_s (pk hR hυ.1 (by decide) _))
    · have hv := hb v g0 (by omega) ((and1 _).resolve_left b)
      refine ws_b (s_inclusion n hn τ v a2 g0 hv) (fun υ hυ => ?_)
      obtain ⟨w, hw, hl⟩ := hυ
      exact ws_pk hR hw.1 (by decide) (ws_l (hJ (by omega) _ _ (RI_fr hR hw.1 (by decide))))
theorem s_saves (n : Nat) (hn : 70000 ≤ n) (σ : ms_T) (hR : RI σ) (a1 a2 : Int32) : ws (f_X12_saves n σ a1 a2) (PK σ) := by
  have hJ : ∀ w : Int32, (w = 0 → ∀ u : Int32, 0 ≤ u.toInt → u.toInt < 31 → ((a1 >>> (u &&& 31)) &&& 1) = 1 → u.toInt < a2.toInt) → ws (f_X12_saves_J18 n σ a1 a2 w) (PK σ) := by
    intro w hw
    unfold f_X12_saves_J18
    exact ws_isP hR (fun e τ hτ hE hf => s_saves_L n hn a1 a2 (hw e) n τ 0 0 hτ (by decide) (by decide) (by rw [lt0]; omega))
  unfold f_X12_saves
  exact ws_i (fun _ => hJ _ (fun h => absurd h (by decide))) (fun _ => ws_b (s_isBeyond n hn a1 a2) (fun r hr => ws_i (fun e => hJ _ (fun _ => hr e)) (fun _ => hJ _ (fun h => absurd h (by decide)))))
theorem s_split_L (n : Nat) (hn : 70000 ≤ n) {τ : ms_T} (hR : RI τ) (a1 : Int32) : ∀ (k : Nat) (x y v : Int32), 0 ≤ v.toInt → v.toInt ≤ 4 → 5 - v.toInt ≤ (k : Int) → ws (f_X12_split_L30 n k τ a1 x y v) (PK τ) := by
  intro k
  induction k with
  | zero => intro x y v g0 g1 g2; omega
  | succ k ih =>
    intro x y v g0 g1 g2
    have L := lits
    have e1 : v.toInt < 4 → (v + 1).toInt = v.toInt + 1 := fun h => (by (try simp only [iw_add, iw_sub, iw_mul, t_m1, lt0, lt1, t_2, t_3, t_4, t_5, t_6, t_8, t_9, t_10, t_16, t_20, t_24, t_26, t_30, t_31, t_48, t_64, t_72, t_76, t_92, t_101, t_252, t_444, t_512, t_900, t_1980, t_65521, t_99999, t_mil]) <;> omega)
    have h42 : ∀ (j : Nat) (x y u : Int32), v.toInt < 4 → 0 ≤ u.toInt → u.toInt ≤ 4 → 5 - u.toInt ≤ (j : Int) → ws (f_X12_split_L42 n (f_X12_split_L30 n k) j τ a1 x y v u) (PK τ) := by
      intro j
      induction j with
      | zero => intro x y u hv q0 q1 q2; omega
      | succ j ih2 =>
        intro x y u hv q0 q1 q2
        have f1 := e1 hv
        rw [f_X12_split_L42.eq_2]
        have hJ : u.toInt < 4 → ∀ x y, ws (f_X12_split_J82 n (f_X12_split_L30 n k) (f_X12_split_L42 n (f_X12_split_L30 n k) j) τ a1 x y v u) (PK τ) := by
          intro hu x y
          unfold f_X12_split_J82
          exact ws_l (ih2 x y (u + 1) hv (by (try simp only [iw_add, iw_sub, iw_mul, t_m1, lt0, lt1, t_2, t_3, t_4, t_5, t_6, t_8, t_9, t_10, t_16, t_20, t_24, t_26, t_30, t_31, t_48, t_64, t_72, t_76, t_92, t_101, t_252, t_444, t_512, t_900, t_1980, t_65521, t_99999, t_mil]) <;> omega) (by (try simp only [iw_add, iw_sub, iw_mul, t_m1, lt0, lt1, t_2, t_3, t_4, t_5, t_6, t_8, t_9, t_10, t_16, t_20, t_24, t_26, t_30, t_31, t_48, t_64, t_72, t_76, t_92, t_101, t_252, t_444, t_512, t_900, t_1980, t_65521, t_99999, t_mil]) <;> omega) (by (try simp only [iw_add, iw_sub, iw_mul, t_m1, lt0, lt1, t_2, t_3, t_4, t_5, t_6, t_8, t_9, t_10, t_16, t_20, t_24, t_26, t_30, t_31, t_48, t_64, t_72, t_76, t_92, t_101, t_252, t_444, t_512, t_900, t_1980, t_65521, t_99999, t_mil]) <;> omega))
        refine ws_le (fun _ => ws_l (ih _ _ (v + 1) (by omega) (by omega) (by omega))) (fun _ => ?_)
        exact ws_b (s_isAgreed n hn hR.2 v u g0 (by omega) q0 (by omega)) (fun _ _ => ws_i (fun _ => ws_l (ws_i (fun _ => hJ (by omega) _ _) (fun _ => hJ (by omega) _ _))) (fun _ => hJ (by omega) _ _))
    rw [f_X12_split_L30.eq_2]
    refine ws_le (fun _ => ws_i (fun _ => ws_s (PKr hR _)) (fun _ => ws_i (fun _ => ws_s (PKr hR _)) (fun _ => ws_rf hR))) (fun _ => ws_l ?_)
    have f1 := e1 (by omega)
    exact h42 n x y (v + 1) (by omega) (by omega) (by omega) (by omega)
theorem s_split (n : Nat) (hn : 70000 ≤ n) (σ : ms_T) (hR : RI σ) (a1 : Int32) : ws (f_X12_split n σ a1) (PK σ) := by
  have hJ : ∀ w : Int32, (w = 0 → (0 : Int) = 0) → ws (f_X12_split_J15 n σ a1 w) (PK σ) := by
    intro w hw
    unfold f_X12_split_J15
    exact ws_isP hR (fun e τ hτ hE hf => s_split_L n hn hτ a1 n 0 (-1) 0 (by decide) (by decide) (by rw [lt0]; omega))
  unfold f_X12_split
  repeat' (first
    | with_reducible refine ws_bo (s_isRecord (by assumption) _) (fun _ => ?_) (fun _ => ?_)
    | with_reducible refine ws_bo (s_isMark (by assumption) _) (fun _ => ?_) (fun _ => ?_)
    | with_reducible refine ws_bo (s_isIn _ _ _ _) (fun _ => ?_) (fun _ => ?_)
    | with_reducible refine ws_bo (s_isWatcher _ _) (fun _ => ?_) (fun _ => ?_)
    | with_reducible refine ws_bo (s_isThing _ _ _ _) (fun _ => ?_) (fun _ => ?_)
    | with_reducible refine ws_b (s_noSize (by assumption) _ _) (fun _ _ => ?_)
    | with_reducible refine ws_b (s_noEntry (by assumption) _ _ _) (fun _ _ => ?_)
    | with_reducible refine ws_b (s_sizeOf (by assumption) _ (by omega) (by omega)) (fun _ _ => ?_)
    | with_reducible refine ws_lt (fun _ => ?_) (fun _ => ?_)
    | with_reducible refine ws_le (fun _ => ?_) (fun _ => ?_)
    | with_reducible refine ws_ee (fun _ _ => ?_) (fun _ => ?_)
    | with_reducible refine ws_g (by decide) (by decide) ?_
    | with_reducible refine ws_g (by omega) (by omega) ?_)
  all_goals first
    | exact hJ _ (fun h => absurd h (by decide))
    | exact hJ _ (fun _ => by omega)
    | (refine hJ _ (fun h => ?_); rename_i q; have := q h; omega)
theorem s_sick_L (n : Nat) {τ : ms_T} (hR : RI τ) (a1 : Int32) (h0 : 0 ≤ a1.toInt) (h1 : a1.toInt ≤ 15) {w : Nat} (hw : (ms_I τ 657).toInt = (w : Int)) (hl : w ≤ 31) : ∀ (k : Nat) (x v : Int32), 0 ≤ v.toInt → v.toInt ≤ 31 → 32 - v.toInt ≤ (k : Int) → ws (f_X12_sick_L56 n k τ a1 x v) (PK τ) := by
  intro k
  induction k with
  | zero => intro x v g0 g1 g2; omega
  | succ k ih =>
    intro x v g0 g1 g2
    rw [f_X12_sick_L56.eq_2]
    have hJ : v.toInt < 31 → ∀ x y, ws (f_X12_sick_J89 n (f_X12_sick_L56 n k) τ a1 v x y) (PK τ) := by
      intro hv x y
      unfold f_X12_sick_J89
      exact ws_l (ws_l (ih _ (v + 1) (by (try simp only [iw_add, iw_sub, iw_mul, t_m1, lt0, lt1, t_2, t_3, t_4, t_5, t_6, t_8, t_9, t_10, t_16, t_20, t_24, t_26, t_30, t_31, t_48, t_64, t_72, t_76, t_92, t_101, t_252, t_444, t_512, t_900, t_1980, t_65521, t_99999, t_mil]) <;> omega) (by (try simp only [iw_add, iw_sub, iw_mul, t_m1, lt0, lt1, t_2, t_3, t_4, t_5, t_6, t_8, t_9, t_10, t_16, t_20, t_24, t_26, t_30, t_31, t_48, t_64, t_72, t_76, t_92, t_101, t_252, t_444, t_512, t_900, t_1980, t_65521, t_99999, t_mil]) <;> omega) (by (try simp only [iw_add, iw_sub, iw_mul, t_m1, lt0, lt1, t_2, t_3, t_4, t_5, t_6, t_8, t_9, t_10, t_16, t_20, t_24, t_26, t_30, t_31, t_48, t_64, t_72, t_76, t_92, t_101, t_252, t_444, t_512, t_900, t_1980, t_65521, t_99999, t_mil]) <;> omega)))
    refine ws_le (fun _ => ws_s (PKr hR _)) (fun _ => ws_g g0 (by omega) ?_)
    have e1 : ((4 : Int32) + v).toInt = 4 + v.toInt := by (try simp only [iw_add, iw_sub, iw_mul, t_m1, lt0, lt1, t_2, t_3, t_4, t_5, t_6, t_8, t_9, t_10, t_16, t_20, t_24, t_26, t_30, t_31, t_48, t_64, t_72, t_76, t_92, t_101, t_252, t_444, t_512, t_900, t_1980, t_65521, t_99999, t_mil]) <;> omega
    exact ws_b (s_froze hR.2 a1 _ h0 h1 (by omega) (by omega)) (fun _ _ => ws_i (fun _ => hJ (by omega) _ _) (fun _ => hJ (by omega) _ _))
theorem s_sick (n : Nat) (hn : 70000 ≤ n) (σ : ms_T) (hR : RI σ) (a1 : Int32) : ws (f_X12_sick n σ a1) (PK σ) := by
  have L := lits
  have h16 := hR.2.2.2.2.1
  have hJ : ∀ w : Int32, (w = 0 → 0 ≤ a1.toInt ∧ a1.toInt ≤ 15) → ws (f_X12_sick_J24 n σ a1 w) (PK σ) := by
    intro w hw
    unfold f_X12_sick_J24
    refine ws_isP hR (fun e τ hτ hE hf => ?_)
    have := hw e
    refine ws_b (s_froze hτ.2 a1 1 (by omega) (by omega) (by decide) (by decide)) (fun r hr => ?_)
    have k1 := hr.2 rfl
    refine ws_b (s_peaksOf n hn τ r (by omega) (by omega)) (fun υ hυ => ?_)
    obtain ⟨w, hw, hl⟩ := hυ
    have hυR := RI_fr hτ hw.1 (by decide)
    refine ws_pk hτ hw.1 (by decide) (ws_b (s_froze hυR.2 a1 0 (by omega) (by omega) (by decide) (by decide)) (fun q hq => ?_))
    have k2 := hq.1 rfl
    refine ws_b (s_fetches n hn hυR.2 hw (by omega) (by omega) q (by omega) (by omega)) (fun ρ hρ => ?_)
    have hρR := RI_fr hυR hρ (by decide)
    exact ws_pk hυR hρ (by decide) (s_sick_L n hρR a1 (by omega) (by omega) (w := w) (by rw [hρ.1 657 (by simp)]; exact hw.2.1) hl n 0 0 (by decide) (by decide) (by rw [lt0]; omega))
  unfold f_X12_sick
  rw [c3]
  repeat' (first
    | with_reducible refine ws_bo (s_isRecord (by assumption) _) (fun _ => ?_) (fun _ => ?_)
    | with_reducible refine ws_bo (s_isMark (by assumption) _) (fun _ => ?_) (fun _ => ?_)
    | with_reducible refine ws_bo (s_isIn _ _ _ _) (fun _ => ?_) (fun _ => ?_)
    | with_reducible refine ws_bo (s_isWatcher _ _) (fun _ => ?_) (fun _ => ?_)
    | with_reducible refine ws_bo (s_isThing _ _ _ _) (fun _ => ?_) (fun _ => ?_)
    | with_reducible refine ws_b (s_noSize (by assumption) _ _) (fun _ _ => ?_)
    | with_reducible refine ws_b (s_noEntry (by assumption) _ _ _) (fun _ _ => ?_)
    | with_reducible refine ws_b (s_sizeOf (by assumption) _ (by omega) (by omega)) (fun _ _ => ?_)
    | with_reducible refine ws_lt (fun _ => ?_) (fun _ => ?_)
    | with_reducible refine ws_le (fun _ => ?_) (fun _ => ?_)
    | with_reducible refine ws_ee (fun _ _ => ?_) (fun _ => ?_)
    | with_reducible refine ws_g (by decide) (by decide) ?_
    | with_reducible refine ws_g (by omega) (by omega) ?_)
  all_goals first
    | exact hJ _ (fun h => absurd h (by decide))
    | exact hJ _ (fun _ => by omega)
    | (refine hJ _ (fun h => ?_); rename_i q; have := q h; omega)
theorem s_weak_L (n : Nat) (hn : 70000 ≤ n) (a2 a3 a4 a5 a6 : Int32) (h0 : 0 ≤ a2.toInt) (h1 : a2.toInt < a3.toInt) : ∀ (k : Nat) (τ : ms_T) (x y v : Int32), RI τ → -1 ≤ v.toInt → v.toInt + 1 < (k : Int) → ws (f_X12_weak_L73 n k τ a2 a3 a4 a5 a6 x y v) (PK τ) := by
  intro k
  induction k with
  | zero => intro τ x y v hR g0 g1; omega
  | succ k ih =>
    intro τ x y v hR g0 g1
    have L := lits
    rw [f_X12_weak_L73.eq_2]
    have hJ : 0 ≤ v.toInt → ∀ ρ x y, RI ρ → ws (f_X12_weak_J108 n (f_X12_weak_L73 n k) ρ a2 a3 a4 a5 a6 x y v) (PK ρ) := by
      intro hv ρ x y hρ
      have b := ib_hi v
      unfold f_X12_weak_J108
      refine ws_l ?_
      generalize hu : v + (-1) = u
      have e1 : u.toInt = v.toInt - 1 := by rw [← hu, iw_add, t_m1]; omega
      clear hu L hn
      exact ih _ _ _ _ hρ (by omega) (by omega)
    refine ws_lt (fun _ => ws_i (fun _ => ws_s (PKr hR _)) (fun _ => ws_i (fun _ => ws_s (PKr hR _)) (fun _ => ws_rf hR))) (fun _ => ws_i (fun _ => hJ (by omega) _ _ _ hR) (fun _ => ?_))
    refine ws_c (s_folded n hn τ hR.2 v a2 a3 h0 h1) (fun a ρ hρ => ?_)
    have hρR := RI_fr hR hρ (by decide)
    exact ws_pk hR hρ (by decide) (ws_i (fun _ => ws_l (hJ (by omega) _ _ _ hρR)) (fun _ => hJ (by omega) _ _ _ hρR))
theorem s_weak (n : Nat) (hn : 70000 ≤ n) (σ : ms_T) (hR : RI σ) (a1 a2 a3 a4 : Int32) : ws (f_X12_weak n σ a1 a2 a3 a4) (PK σ) := by
  have hC := hR.2
  have hJ : ∀ w : Int32, (w = 0 → 0 ≤ a1.toInt ∧ a1.toInt ≤ 3 ∧ 0 ≤ a2.toInt ∧ a2.toInt < a3.toInt ∧ a3.toInt ≤ 48) → ws (f_X12_weak_J22 n σ a1 a2 a3 a4 w) (PK σ) := by
    intro w hw
    unfold f_X12_weak_J22
    refine ws_isP hR (fun e τ hτ hE hf => ?_)
    have := hw e
    refine ws_b (s_inclusion n hn τ a2 a3 (by omega) (by omega)) (fun υ hυ => ?_)
    obtain ⟨w, hw, hl⟩ := hυ
    have hυR := RI_fr hτ hw.1 (by decide)
    refine ws_pk hτ hw.1 (by decide) (ws_b (s_fetches n hn hυR.2 hw (by omega) (by omega) a1 (by omega) (by omega)) (fun ρ hρ => ?_))
    have hρR := RI_fr hυR hρ (by decide)
    have h1 := hρR.2.2.1
    refine ws_pk hυR hρ (by decide) (ws_b (s_entryMark hn hρR.2 a1 a2 (by omega) (by omega) (by omega) (by omega)) (fun _ _ => ws_b (s_headOf n hn hρR.2 a1 a3 (by omega) (by omega) (by omega) (by omega)) (fun _ _ => ws_g (by decide) (by decide) (ws_l ?_))))
    rw [c1]
    have e1 : (ms_E ρ 40 1 - 1).toInt = (ms_E ρ 40 1).toInt - 1 := by (try simp only [iw_add, iw_sub, iw_mul, t_m1, lt0, lt1, t_2, t_3, t_4, t_5, t_6, t_8, t_9, t_10, t_16, t_20, t_24, t_26, t_30, t_31, t_48, t_64, t_72, t_76, t_92, t_101, t_252, t_444, t_512, t_900, t_1980, t_65521, t_99999, t_mil]) <;> omega
    exact s_weak_L n hn a2 a3 a4 _ _ (by omega) (by omega) n ρ _ _ _ hρR (by omega) (by omega)
  unfold f_X12_weak
  repeat' (first
    | with_reducible refine ws_bo (s_isRecord (by assumption) _) (fun _ => ?_) (fun _ => ?_)
    | with_reducible refine ws_bo (s_isMark (by assumption) _) (fun _ => ?_) (fun _ => ?_)
    | with_reducible refine ws_bo (s_isIn _ _ _ _) (fun _ => ?_) (fun _ => ?_)
    | with_reducible refine ws_bo (s_isWatcher _ _) (fun _ => ?_) (fun _ => ?_)
    | with_reducible refine ws_bo (s_isThing _ _ _ _) (fun _ => ?_) (fun _ => ?_)
    | with_reducible refine ws_b (s_noSize (by assumption) _ _) (fun _ _ => ?_)
    | with_reducible refine ws_b (s_noEntry (by assumption) _ _ _) (fun _ _ => ?_)
    | with_reducible refine ws_b (s_sizeOf (by assumption) _ (by omega) (by omega)) (fun _ _ => ?_)
    | with_reducible refine ws_lt (fun _ => ?_) (fun _ => ?_)
    | with_reducible refine ws_le (fun _ => ?_) (fun _ => ?_)
    | with_reducible refine ws_ee (fun _ _ => ?_) (fun _ => ?_)
    | with_reducible refine ws_g (by decide) (by decide) ?_
    | with_reducible refine ws_g (by omega) (by omega) ?_)
  all_goals first
    | exact hJ _ (fun h => absurd h (by decide))
    | exact hJ _ (fun _ => by omega)
    | (refine hJ _ (fun h => ?_); rename_i q; have := q h; omega)
