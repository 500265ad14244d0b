/-! ===== blame, tree, what was asked before, steps ===== -/
theorem s_blame_M (n : Nat) (hn : 70000 ≤ n) {τ : ms_T} (hR : RI τ) (a1 a2 a3 a4 : Int32) : ∀ (k : Nat) (x v : Int32), 0 ≤ v.toInt → v.toInt ≤ 16 → 17 - v.toInt ≤ (k : Int) → ws (f_X12_blame_L127 n k τ a1 a2 a3 a4 x v) (PK τ) := by
  intro k
  induction k with
  | zero => intro x v g0 g1 g2; omega
  | succ k ih =>
    intro x v g0 g1 g2
    have h16 := hR.2.2.2.2.1
    rw [f_X12_blame_L127.eq_2, c3]
    have hJ : v.toInt < 16 → ∀ x, ws (f_X12_blame_J190 n (f_X12_blame_L127 n k) τ a1 a2 a3 a4 x v) (PK τ) := by
      intro hv x
      unfold f_X12_blame_J190
      exact ws_l (ih _ (v + 1) (by (try simp only [iw_add, iw_sub, iw_mul, t_m1, lt0, lt1, t_2, t_3, t_4, t_5, t_6, t_8, t_9, t_10, t_16, t_20, t_24, t_26, t_30, t_31, t_48, t_64, t_72, t_76, t_92, t_101, t_252, t_444, t_512, t_900, t_1980, t_65521, t_99999, t_mil]) <;> omega) (by (try simp only [iw_add, iw_sub, iw_mul, t_m1, lt0, lt1, t_2, t_3, t_4, t_5, t_6, t_8, t_9, t_10, t_16, t_20, t_24, t_26, t_30, t_31, t_48, t_64, t_72, t_76, t_92, t_101, t_252, t_444, t_512, t_900, t_1980, t_65521, t_99999, t_mil]) <;> omega) (by (try simp only [iw_add, iw_sub, iw_mul, t_m1, lt0, lt1, t_2, t_3, t_4, t_5, t_6, t_8, t_9, t_10, t_16, t_20, t_24, t_26, t_30, t_31, t_48, t_64, t_72, t_76, t_92, t_101, t_252, t_444, t_512, t_900, t_1980, t_65521, t_99999, t_mil]) <;> omega))
    refine ws_g (by decide) (by decide) (ws_le (fun _ => ws_i (fun _ => ws_s (PKr hR _)) (fun _ => ws_i (fun _ => ws_s (PKr hR _)) (fun _ => ws_s (PKr hR _)))) (fun _ => ?_))
    have f1 := fun (x : Int32) (h : 0 ≤ x.toInt) (h' : x.toInt ≤ 128) => s_froze (n := n) hR.2 v x g0 (by omega) h h'
    refine ws_b (f1 0 (by decide) (by decide)) (fun _ _ => ws_i (fun _ => ?_) (fun _ => hJ (by omega) _))
    refine ws_b (s_isSound n hn hR.2 v g0 (by omega)) (fun _ _ => ws_i (fun _ => hJ (by omega) _) (fun _ => ?_))
    exact ws_b (f1 1 (by decide) (by decide)) (fun _ _ => ws_i (fun _ => hJ (by omega) _) (fun _ => ws_b (f1 1 (by decide) (by decide)) (fun _ _ => ws_i (fun _ => hJ (by omega) _) (fun _ => ws_b (f1 1 (by decide) (by decide)) (fun _ _ => hJ (by omega) _)))))
theorem s_blame_L (n : Nat) (hn : 70000 ≤ n) {τ : ms_T} (hR : RI τ) (a1 a2 : Int32) : ∀ (k : Nat) (x y v : Int32), 0 ≤ v.toInt → v.toInt ≤ 16 → 17 - v.toInt ≤ (k : Int) → ws (f_X12_blame_L43 n k τ a1 a2 x y v) (PK τ) := by
  intro k
  induction k with
  | zero => intro x y v g0 g1 g2; omega
  | succ k ih =>
    intro x y v g0 g1 g2
    have h16 := hR.2.2.2.2.1
    rw [f_X12_blame_L43.eq_2, c3]
    have hJ : v.toInt < 16 → ∀ x y, ws (f_X12_blame_J107 n (f_X12_blame_L43 n k) τ a1 a2 x y v) (PK τ) := by
      intro hv x y
      unfold f_X12_blame_J107
      exact ws_l (ih _ _ (v + 1) (by (try simp only [iw_add, iw_sub, iw_mul, t_m1, lt0, lt1, t_2, t_3, t_4, t_5, t_6, t_8, t_9, t_10, t_16, t_20, t_24, t_26, t_30, t_31, t_48, t_64, t_72, t_76, t_92, t_101, t_252, t_444, t_512, t_900, t_1980, t_65521, t_99999, t_mil]) <;> omega) (by (try simp only [iw_add, iw_sub, iw_mul, t_m1, lt0, lt1, t_2, t_3, t_4, t_5, t_6, t_8, t_9, t_10, t_16, t_20, t_24, t_26, t_30, t_31, t_48, t_64, t_72, t_76, t_92, t_101, t_252, t_444, t_512, t_900, t_1980, t_65521, t_99999, t_mil]) <;> omega) (by (try simp only [iw_add, iw_sub, iw_mul, t_m1, lt0, lt1, t_2, t_3, t_4, t_5, t_6, t_8, t_9, t_10, t_16, t_20, t_24, t_26, t_30, t_31, t_48, t_64, t_72, t_76, t_92, t_101, t_252, t_444, t_512, t_900, t_1980, t_65521, t_99999, t_mil]) <;> omega))
    have hM : ∀ x y w, ws (f_X12_blame_J122 n τ a1 a2 x y w) (PK τ) := by
      intro x y w
      unfold f_X12_blame_J122
      exact s_blame_M n hn hR a1 a2 x y n w 0 (by decide) (by decide) (by rw [lt0]; omega)
    refine ws_g (by decide) (by decide) (ws_le (fun _ => ws_i (fun _ => hM _ _ _) (fun _ => hM _ _ _)) (fun _ => ?_))
    have f1 := fun (x : Int32) (h : 0 ≤ x.toInt) (h' : x.toInt ≤ 128) => s_froze (n := n) hR.2 v x g0 (by omega) h h'
    have hJ9 : ∀ y, ws (f_X12_blame_J95 n (f_X12_blame_L43 n k) τ a1 a2 y v) (PK τ) := by
      intro y
      unfold f_X12_blame_J95
      exact ws_b (f1 1 (by decide) (by decide)) (fun _ _ => hJ (by omega) _ _)
    refine ws_b (f1 0 (by decide) (by decide)) (fun _ _ => ws_i (fun _ => ?_) (fun _ => hJ (by omega) _ _))
    refine ws_b (s_isSound n hn hR.2 v g0 (by omega)) (fun _ _ => ws_i (fun _ => ?_) (fun _ => hJ (by omega) _ _))
    exact ws_l (ws_i (fun _ => hJ9 _) (fun _ => ws_b (f1 1 (by decide) (by decide)) (fun _ _ => ws_i (fun _ => hJ (by omega) _ _) (fun _ => hJ9 _))))
theorem s_blame (n : Nat) (hn : 70000 ≤ n) (σ : ms_T) (hR : RI σ) (a1 a2 : Int32) : ws (f_X12_blame n σ a1 a2) (PK σ) := by
  have hC := hR.2
  have hJ : ∀ w : Int32, (w = 0 → (0 : Int) = 0) → ws (f_X12_blame_J27 n σ a1 a2 w) (PK σ) := by
    intro w hw
    unfold f_X12_blame_J27
    exact ws_isP hR (fun e τ hτ hE hf => s_blame_L n hn hτ a1 a2 n (-1) 0 0 (by decide) (by decide) (by rw [lt0]; omega))
  unfold f_X12_blame
  repeat' (first
    | with_reducible refine ws_bo (s_isRecord (by assumption) _) (fun _ => ?_) (fun _ => ?_)
    | with_reducible refine ws_bo (s_isMark (by assumption) _) (fun _ => ?_) (fun _ => ?_)
    | with_reducible refine ws_bo (s_isIn _ _ _ _) (fun _ => ?_) (fun _ => ?_)
    | with_reducible refine ws_bo (s_isWatcher _ _) (fun _ => ?_) (fun _ => ?_)
    | with_reducible refine ws_bo (s_isThing _ _ _ _) (fun _ => ?_) (fun _ => ?_)
    | with_reducible refine ws_b (s_noSize (by assumption) _ _) (fun _ _ => ?_)
    | with_reducible refine ws_b (s_noEntry (by assumption) _ _ _) (fun _ _ => ?_)
    | with_reducible refine ws_b (s_sizeOf (by assumption) _ (by omega) (by omega)) (fun _ _ => ?_)
    | with_reducible refine ws_lt (fun _ => ?_) (fun _ => ?_)
    | with_reducible refine ws_le (fun _ => ?_) (fun _ => ?_)
    | with_reducible refine ws_ee (fun _ _ => ?_) (fun _ => ?_)
    | with_reducible refine ws_g (by decide) (by decide) ?_
    | with_reducible refine ws_g (by omega) (by omega) ?_)
  all_goals first
    | exact hJ _ (fun h => absurd h (by decide))
    | exact hJ _ (fun _ => by omega)
    | (refine hJ _ (fun h => ?_); rename_i q; have := q h; omega)
/-- what seeks changes -/
def sk (σ0 σ : ms_T) : Prop := fr [683, 684, 685] [] σ0 σ ∧ (0 ≤ (ms_I σ 683).toInt ∨ (0 ≤ (ms_I σ 684).toInt ∧ 0 ≤ (ms_I σ 685).toInt ∧ (ms_I σ 684).toInt + (ms_I σ 685).toInt ≤ 48))
theorem s_seeksJ (n : Nat) (hn : 70000 ≤ n) (rc : ms_T → Int32 → Int32 → Option ms_T) {σ0 σ : ms_T} {k : Nat} (f m : Int32) (hf : fr [683, 684, 685] [] σ0 σ) (h3 : 0 ≤ (ms_I σ 683).toInt) (hv : (ms_I σ 683).toInt = 0 → 0 ≤ (ms_I σ 684).toInt ∧ 0 ≤ (ms_I σ 685).toInt ∧ (ms_I σ 684).toInt + (ms_I σ 685).toInt ≤ 48) (h0 : 0 ≤ f.toInt) (h1 : 1 ≤ m.toInt) (h2 : f.toInt + m.toInt ≤ 48) (hk : m.toInt ≤ p2 k) (hr : 2 ≤ m.toInt → ∃ k', k = k' + 1 ∧ ∀ (τ : ms_T) (g p : Int32), sk σ0 τ → 0 ≤ g.toInt → 0 ≤ p.toInt → g.toInt + p.toInt ≤ 48 → p.toInt ≤ p2 k' → ws (rc τ g p) (sk σ0)) : ws (f_X12_seeks_J29 n rc σ f m) (sk σ0) := by
  unfold f_X12_seeks_J29
  have e1 : (ms_I σ 683 - 1).toInt = (ms_I σ 683).toInt - 1 := by
    have := ib_hi (ms_I σ 683)
    rw [iw_sub, lt1]; omega
  have hs : sk σ0 (ms_sI σ 683 (ms_I σ 683 - 1)) := by
    refine ⟨fr_tr hf (fr_sI (by decide)), ?_⟩
    rw [mI_sI, if_pos rfl, mI_sI, if_neg (by decide), mI_sI, if_neg (by decide), e1]
    rcases Int.lt_or_le 0 (ms_I σ 683).toInt with q | q
    · exact Or.inl (by omega)
    · exact Or.inr (hv (by omega))
  refine ws_l (ws_e (fun _ => ws_s hs) (fun c => ?_))
  have h2m := ne1_2 h1 c
  obtain ⟨k', hk', hrec⟩ := hr h2m
  subst hk'
  refine ws_b (s_part0 n hn m h2m) (fun p hp => ?_)
  obtain ⟨j, hp⟩ := hp
  obtain ⟨q1, q2, q3, q4, q5⟩ := pt_k hp hk
  have e3 : (f + p).toInt = f.toInt + p.toInt := ii_add (by omega) (by omega)
  have e4 : (m - p).toInt = m.toInt - p.toInt := ii_sub (by omega) (by omega)
  exact ws_b (hrec _ f p hs h0 (by omega) (by omega) q1) (fun τ hτ => ws_b (hrec τ (f + p) (m - p) hτ (by omega) (by omega) (by omega) (by omega)) (fun υ hυ => ws_s hυ))
theorem s_seeks (n : Nat) (hn : 70000 ≤ n) : ∀ (k d : Nat) (σ0 σ : ms_T) (f m : Int32), k < d → sk σ0 σ → 0 ≤ f.toInt → 0 ≤ m.toInt → f.toInt + m.toInt ≤ 48 → m.toInt ≤ p2 k → ws (f_X12_seeks n d σ f m) (sk σ0) := by
  intro k
  induction k with
  | zero =>
    intro d σ0 σ f m hd hs h0 h1 h2 h3
    have : p2 0 = 1 := by decide
    have l0 := lt0
    obtain ⟨d, rfl⟩ : ∃ d', d = d' + 1 := ⟨d - 1, by omega⟩
    rw [f_X12_seeks.eq_2]
    refine ws_e (fun _ => ws_s hs) (fun c => ws_le (fun c1 => ws_e (fun c2 => ws_l (ws_l ?_)) (fun c2 => ?_)) (fun _ => ws_s hs))
    · refine s_seeksJ n hn _ f m (k := 0) (fr_tr hs.1 (fr_tr (fr_sI (by decide)) (fr_sI (by decide)))) ?_ (fun _ => ?_) h0 (by omega) h2 h3 (fun h => by omega)
      · rw [mI_sI, if_neg (by decide), mI_sI, if_neg (by decide)]; omega
      · rw [mI_sI, if_neg (by decide), mI_sI, if_pos rfl, mI_sI, if_pos rfl]; omega
    · exact s_seeksJ n hn _ f m (k := 0) hs.1 (by omega) (fun q => by omega) h0 (by omega) h2 h3 (fun h => by omega)
  | succ k ih =>
    intro d σ0 σ f m hd hs h0 h1 h2 h3
    have l0 := lt0
    obtain ⟨d, rfl⟩ : ∃ d', d = d' + 1 := ⟨d - 1, by omega⟩
    rw [f_X12_seeks.eq_2]
    refine ws_e (fun _ => ws_s hs) (fun c => ws_le (fun c1 => ws_e (fun c2 => ws_l (ws_l ?_)) (fun c2 => ?_)) (fun _ => ws_s hs))
    · refine s_seeksJ n hn _ f m (k := k + 1) (fr_tr hs.1 (fr_tr (fr_sI (by decide)) (fr_sI (by decide)))) ?_ (fun _ => ?_) h0 (by omega) h2 h3 (fun h => ⟨k, rfl, fun τ g p hτ p0 p1 p2 p3 => ih d σ0 τ g p (by omega) hτ p0 p1 p2 p3⟩)
      · rw [mI_sI, if_neg (by decide), mI_sI, if_neg (by decide)]; omega
      · rw [mI_sI, if_neg (by decide), mI_sI, if_pos rfl, mI_sI, if_pos rfl]; omega
    · exact s_seeksJ n hn _ f m (k := k + 1) hs.1 (by omega) (fun q => by omega) h0 (by omega) h2 h3 (fun h => ⟨k, rfl, fun τ g p hτ p0 p1 p2 p3 => ih d σ0 τ g p (by omega) hτ p0 p1 p2 p3⟩)
theorem s_tree (n : Nat) (hn : 70000 ≤ n) (σ : ms_T) (hR : RI σ) (a1 a2 a3 a4 : Int32) : ws (f_X12_tree n σ a1 a2 a3 a4) (PK σ) := by
  have L := lits
  have hC := hR.2
  have hJ : ∀ w : Int32, (w = 0 → 0 ≤ a3.toInt ∧ 0 ≤ a1.toInt ∧ a1.toInt ≤ 3 ∧ 0 ≤ a2.toInt ∧ a2.toInt ≤ 48) → ws (f_X12_tree_J25 n σ a1 a2 a3 a4 w) (PK σ) := by
    intro w hw
    unfold f_X12_tree_J25
    refine ws_isP hR (fun e τ hτ hE hf => ?_)
    have := hw e
    have hs : sk τ (ms_sI τ 683 a3) := ⟨fr_sI (by decide), Or.inl (by rw [mI_sI, if_pos rfl]; omega)⟩
    refine ws_l (ws_b (s_seeks n hn 6 40 τ _ 0 a2 (by omega) hs (by decide) (by omega) (by rw [lt0]; omega) (by have : p2 6 = 64 := (by decide); omega)) (fun υ hυ => ?_))
    have hυR := RI_fr hτ hυ.1 (by decide)
    refine ws_pk hτ hυ.1 (by decide) (ws_lt (fun c => ws_i (fun _ => ws_s (PKr hυR _)) (fun _ => ws_i (fun _ => ws_s (PKr hυR _)) (fun _ => ?_))) (fun _ => ws_rf hυR))
    have hv := hυ.2.resolve_left (by omega)
    exact ws_b (s_tree0 n hn hυR.2 a1 _ _ (by omega) (by omega) (by omega) (by omega) (by omega)) (fun _ _ => ws_s (PKr hυR _))
  unfold f_X12_tree
  repeat' (first
    | with_reducible refine ws_bo (s_isRecord (by assumption) _) (fun _ => ?_) (fun _ => ?_)
    | with_reducible refine ws_bo (s_isMark (by assumption) _) (fun _ => ?_) (fun _ => ?_)
    | with_reducible refine ws_bo (s_isIn _ _ _ _) (fun _ => ?_) (fun _ => ?_)
    | with_reducible refine ws_bo (s_isWatcher _ _) (fun _ => ?_) (fun _ => ?_)
    | with_reducible refine ws_bo (s_isThing _ _ _ _) (fun _ => ?_) (fun _ => ?_)
    | with_reducible refine ws_b (s_noSize (by assumption) _ _) (fun _ _ => ?_)
    | with_reducible refine ws_b (s_noEntry (by assumption) _ _ _) (fun _ _ => ?_)
    | with_reducible refine ws_b (s_sizeOf (by assumption) _ (by omega) (by omega)) (fun _ _ => ?_)
    | with_reducible refine ws_lt (fun _ => ?_) (fun _ => ?_)
    | with_reducible refine ws_le (fun _ => ?_) (fun _ => ?_)
    | with_reducible refine ws_ee (fun _ _ => ?_) (fun _ => ?_)
    | with_reducible refine ws_g (by decide) (by decide) ?_
    | with_reducible refine ws_g (by omega) (by omega) ?_)
  all_goals first
    | exact hJ _ (fun h => absurd h (by decide))
    | exact hJ _ (fun _ => by omega)
    | (refine hJ _ (fun h => ?_); rename_i q; have := q h; omega)
/-! had, notes, kept -/
theorem s_had_L (n : Nat) {σ : ms_T} (h0 : (ms_I σ 695).toInt ≤ 256) (a b : Int32) : ∀ (k : Nat) (v : Int32), 0 ≤ v.toInt → v.toInt ≤ 256 → 257 - v.toInt ≤ (k : Int) → ws (f_X12_had_L2 n σ k a b v) (fun _ => True) := by
  intro k
  induction k with
  | zero => intro v g0 g1 g2; omega
  | succ k ih =>
    intro v g0 g1 g2
    rw [f_X12_had_L2.eq_2]
    have hJ : v.toInt < 256 → ws (f_X12_had_J32 n σ (f_X12_had_L2 n σ k) a b v) (fun _ => True) := by
      intro hv
      unfold f_X12_had_J32
      exact ws_l (ih (v + 1) (by (try simp only [iw_add, iw_sub, iw_mul, t_m1, lt0, lt1, t_2, t_3, t_4, t_5, t_6, t_8, t_9, t_10, t_16, t_20, t_24, t_26, t_30, t_31, t_48, t_64, t_72, t_76, t_92, t_101, t_252, t_444, t_512, t_900, t_1980, t_65521, t_99999, t_mil]) <;> omega) (by (try simp only [iw_add, iw_sub, iw_mul, t_m1, lt0, lt1, t_2, t_3, t_4, t_5, t_6, t_8, t_9, t_10, t_16, t_20, t_24, t_26, t_30, t_31, t_48, t_64, t_72, t_76, t_92, t_101, t_252, t_444, t_512, t_900, t_1980, t_65521, t_99999, t_mil]) <;> omega) (by (try simp only [iw_add, iw_sub, iw_mul, t_m1, lt0, lt1, t_2, t_3, t_4, t_5, t_6, t_8, t_9, t_10, t_16, t_20, t_24, t_26, t_30, t_31, t_48, t_64, t_72, t_76, t_92, t_101, t_252, t_444, t_512, t_900, t_1980, t_65521, t_99999, t_mil]) <;> omega))
    exact ws_le (fun _ => ws_s trivial) (fun _ => ws_g g0 (by omega) (ws_i (fun _ => ws_g g0 (by omega) (ws_i (fun _ => ws_s trivial) (fun _ => hJ (by omega)))) (fun _ => hJ (by omega))))
theorem s_had (n : Nat) (hn : 70000 ≤ n) {σ : ms_T} (h0 : (ms_I σ 695).toInt ≤ 256) (a b : Int32) : ws (f_X12_had n σ a b) (fun _ => True) := by
  unfold f_X12_had
  exact s_had_L n h0 a b n 0 (by decide) (by decide) (by rw [lt0]; omega)
theorem s_notes_L (n : Nat) (hn : 70000 ≤ n) {w c : Nat} (hw : w ≤ 128) (hc : c + w ≤ 256) : ∀ (k : Nat) (σ0 σ : ms_T) (v : Int32), fr [695] [57, 58] σ0 σ → (ms_I σ0 657).toInt = (w : Int) → 0 ≤ (ms_I σ 695).toInt → (ms_I σ 695).toInt ≤ (c : Int) + v.toInt → 0 ≤ v.toInt → v.toInt ≤ (w : Int) → (w : Int) - v.toInt < (k : Int) → ws (f_X12_notes_L2 n k σ v) (fun τ => fr [695] [57, 58] σ0 τ ∧ 0 ≤ (ms_I τ 695).toInt ∧ (ms_I τ 695).toInt ≤ (c : Int) + w) := by
  intro k
  induction k with
  | zero => intro σ0 σ v hf hi g0 g1 g2 g3 g4; omega
  | succ k ih =>
    intro σ0 σ v hf hi g0 g1 g2 g3 g4
    rw [f_X12_notes_L2.eq_2]
    have eI : ms_I σ 657 = ms_I σ0 657 := hf.1 657 (by decide)
    rw [eI]
    refine ws_le (fun _ => ws_s ⟨hf, g0, by omega⟩) (fun _ => ?_)
    have ev : (v + 1).toInt = v.toInt + 1 := by (try simp only [iw_add, iw_sub, iw_mul, t_m1, lt0, lt1, t_2, t_3, t_4, t_5, t_6, t_8, t_9, t_10, t_16, t_20, t_24, t_26, t_30, t_31, t_48, t_64, t_72, t_76, t_92, t_101, t_252, t_444, t_512, t_900, t_1980, t_65521, t_99999, t_mil]) <;> omega
    have e1 : (ms_I σ 695 + 1).toInt = (ms_I σ 695).toInt + 1 := by rw [iw_add, lt1]; omega
    refine ws_g g2 (by omega) (ws_g g2 (by omega) (ws_b (s_had n hn (by omega) _ _) (fun _ _ => ws_i (fun _ => ?_) (fun _ => ?_))))
    · refine ws_g g2 (by omega) (ws_g g0 (by omega) (ws_l (ws_g g2 (by omega) (ws_g (by rw [mI_sE]; omega) (by rw [mI_sE]; omega) (ws_l (ws_l ?_))))))
      unfold f_X12_notes_J72
      refine ws_l (ih σ0 _ (v + 1) (fr_tr hf (fr_tr (fr_sE (by decide)) (fr_tr (fr_sE (by decide)) (fr_sI (by decide))))) hi ?_ ?_ (by omega) (by omega) (by omega))
      · rw [mI_sI, if_pos rfl, mI_sE, mI_sE, e1]; omega
      · rw [mI_sI, if_pos rfl, mI_sE, mI_sE, e1]; omega
    · unfold f_X12_notes_J72
      exact ws_l (ih σ0 _ (v + 1) hf hi g0 (by omega) (by omega) (by omega) (by omega))
theorem s_notes (n : Nat) (hn : 70000 ≤ n) {w c : Nat} (hw : w ≤ 128) (hc : c + w ≤ 256) {σ : ms_T} (hi : (ms_I σ 657).toInt = (w : Int)) (h0 : 0 ≤ (ms_I σ 695).toInt) (h1 : (ms_I σ 695).toInt ≤ (c : Int)) : ws (f_X12_notes n σ) (fun τ => fr [695] [57, 58] σ τ ∧ 0 ≤ (ms_I τ 695).toInt ∧ (ms_I τ 695).toInt ≤ (c : Int) + w) := by
  unfold f_X12_notes
  exact s_notes_L n hn hw hc n σ σ 0 fr_rf hi h0 (by rw [lt0]; omega) (by decide) (by rw [lt0]; omega) (by rw [lt0]; omega)
theorem s_kept_L (n : Nat) (hn : 70000 ≤ n) {τ : ms_T} (hR : RI τ) {w : Nat} (hw : (ms_I τ 657).toInt = (w : Int)) (hl : w ≤ 128) (h9 : (ms_I τ 695).toInt ≤ 256) : ∀ (k : Nat) (x v : Int32), 0 ≤ v.toInt → v.toInt ≤ 128 → 129 - v.toInt ≤ (k : Int) → ws (f_X12_kept_L55 n k τ x v) (PK τ) := by
  intro k
  induction k with
  | zero => intro x v g0 g1 g2; omega
  | succ k ih =>
    intro x v g0 g1 g2
    rw [f_X12_kept_L55.eq_2]
    have hJ : v.toInt < 128 → ∀ x y, ws (f_X12_kept_J92 n (f_X12_kept_L55 n k) τ v x y) (PK τ) := by
      intro hv x y
      unfold f_X12_kept_J92
      exact ws_l (ws_l (ih _ (v + 1) (by (try simp only [iw_add, iw_sub, iw_mul, t_m1, lt0, lt1, t_2, t_3, t_4, t_5, t_6, t_8, t_9, t_10, t_16, t_20, t_24, t_26, t_30, t_31, t_48, t_64, t_72, t_76, t_92, t_101, t_252, t_444, t_512, t_900, t_1980, t_65521, t_99999, t_mil]) <;> omega) (by (try simp only [iw_add, iw_sub, iw_mul, t_m1, lt0, lt1, t_2, t_3, t_4, t_5, t_6, t_8, t_9, t_10, t_16, t_20, t_24, t_26, t_30, t_31, t_48, t_64, t_72, t_76, t_92, t_101, t_252, t_444, t_512, t_900, t_1980, t_65521, t_99999, t_mil]) <;> omega) (by (try simp only [iw_add, iw_sub, iw_mul, t_m1, lt0, lt1, t_2, t_3, t_4, t_5, t_6, t_8, t_9, t_10, t_16, t_20, t_24, t_26, t_30, t_31, t_48, t_64, t_72, t_76, t_92, t_101, t_252, t_444, t_512, t_900, t_1980, t_65521, t_99999, t_mil]) <;> omega)))
    exact ws_le (fun _ => ws_s (PKr hR _)) (fun _ => ws_g g0 (by omega) (ws_g g0 (by omega) (ws_b (s_had n hn h9 _ _) (fun _ _ => ws_i (fun _ => hJ (by omega) _ _) (fun _ => hJ (by omega) _ _)))))
theorem s_kept (n : Nat) (hn : 70000 ≤ n) (σ : ms_T) (hR : RI σ) (a1 a2 a3 : Int32) : ws (f_X12_kept n σ a1 a2 a3) (PK σ) := by
  have L := lits
  have hJ : ∀ w : Int32, (w = 0 → 0 ≤ a1.toInt ∧ a1.toInt < a2.toInt ∧ a2.toInt ≤ a3.toInt) → ws (f_X12_kept_J20 n σ a1 a2 a3 w) (PK σ) := by
    intro w hw
    unfold f_X12_kept_J20
    refine ws_isP hR (fun e τ hτ hE hf => ?_)
    have := hw e
    have hf0 : fr [695] [57, 58] τ (ms_sI τ 695 0) := fr_sI (by decide)
    have hR0 := RI_fr hτ hf0 (by decide)
    refine ws_pk hτ hf0 (by decide) (ws_l (ws_b (s_inclusion n hn _ a1 a2 (by omega) (by omega)) (fun υ hυ => ?_)))
    obtain ⟨w, hw, hl⟩ := hυ
    have hR1 := RI_fr hR0 hw.1 (by decide)
    have e9 : ms_I υ 695 = 0 := by rw [hw.1.1 695 (by decide), mI_sI, if_pos rfl]
    refine ws_pk hR0 hw.1 (by decide) (ws_b (s_notes n hn (w := w) (c := 0) (by omega) (by omega) hw.2.1 (by rw [e9]; decide) (by rw [e9]; decide)) (fun ρ hρ => ?_))
    have hR2 := RI_fr hR1 hρ.1 (by decide)
    refine ws_pk hR1 hρ.1 (by decide) (ws_b (s_inclusion n hn _ a1 a3 (by omega) (by omega)) (fun φ hφ => ?_))
    obtain ⟨u, hu, hm⟩ := hφ
    refine ws_pk hR2 hu.1 (by decide) (s_kept_L n hn (RI_fr hR2 hu.1 (by decide)) hu.2.1 (by omega) (by rw [hu.1.1 695 (by decide)]; omega) n 0 0 (by decide) (by decide) (by rw [lt0]; omega))
  unfold f_X12_kept
  repeat' (first
    | with_reducible refine ws_bo (s_isRecord (by assumption) _) (fun _ => ?_) (fun _ => ?_)
    | with_reducible refine ws_bo (s_isMark (by assumption) _) (fun _ => ?_) (fun _ => ?_)
    | with_reducible refine ws_bo (s_isIn _ _ _ _) (fun _ => ?_) (fun _ => ?_)
    | with_reducible refine ws_bo (s_isWatcher _ _) (fun _ => ?_) (fun _ => ?_)
    | with_reducible refine ws_bo (s_isThing _ _ _ _) (fun _ => ?_) (fun _ => ?_)
    | with_reducible refine ws_b (s_noSize (by assumption) _ _) (fun _ _ => ?_)
    | with_reducible refine ws_b (s_noEntry (by assumption) _ _ _) (fun _ _ => ?_)
    | with_reducible refine ws_b (s_sizeOf (by assumption) _ (by omega) (by omega)) (fun _ _ => ?_)
    | with_reducible refine ws_lt (fun _ => ?_) (fun _ => ?_)
    | with_reducible refine ws_le (fun _ => ?_) (fun _ => ?_)
    | with_reducible refine ws_ee (fun _ _ => ?_) (fun _ => ?_)
    | with_reducible refine ws_g (by decide) (by decide) ?_
    | with_reducible refine ws_g (by omega) (by omega) ?_)
  all_goals first
    | exact hJ _ (fun h => absurd h (by decide))
    | exact hJ _ (fun _ => by omega)
    | (refine hJ _ (fun h => ?_); rename_i q; have := q h; omega)
