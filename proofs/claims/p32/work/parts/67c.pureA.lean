/-! ===== steps: clash, forge, trace; chains ===== -/
/-- what stepsIn changes -/
def sp (σ0 σ : ms_T) (w : Nat) : Prop := fr [689] [51, 52, 53] σ0 σ ∧ (ms_I σ 689).toInt = (w : Int)
theorem s_spJ102 (n : Nat) (rc : ms_T → Int32 → Int32 → Int32 → Option (Int32 × ms_T)) {σ0 σ : ms_T} {w : Nat} (hC : rC (ms_E σ0 40)) (h : sp σ0 σ w) (hw : w < 64) (x : Int32) : ws (f_X12_stepsIn_J102 n rc σ x (ms_I σ 689)) (fun q => sp σ0 q.2 (w + 1)) := by
  obtain ⟨hf, hi⟩ := h
  unfold f_X12_stepsIn_J102
  have e1 : (ms_I σ 689 + 1).toInt = (w : Int) + 1 := by rw [iw_add, lt1]; omega
  have e2 : (ms_I σ 689 + 1 - 1).toInt = (w : Int) := by rw [iw_sub, lt1, e1]; omega
  have hf1 : fr [689] [51, 52, 53] σ0 (ms_sE σ 52 (ms_I σ 689).toNatClampNeg x) := fr_tr hf (fr_sE (by decide))
  refine ws_g (by omega) (by omega) (ws_l (ws_g (by rw [mI_sE]; omega) (by rw [mI_sE]; omega) (ws_g (by rw [mI_sE]; omega) (by rw [mI_sE]; omega) (ws_b (s_both (rC_fr hC hf1 (by decide)) _ _) (fun y _ => ws_g (by rw [mI_sE]; omega) (by rw [mI_sE]; omega) (ws_l (ws_l ?_)))))))
  refine ws_g ?_ ?_ (ws_s ⟨fr_tr hf1 (fr_tr (fr_sE (by decide)) (fr_sI (by decide))), ?_⟩)
  · rw [mI_sI, if_pos rfl, mI_sE, mI_sE]; omega
  · rw [mI_sI, if_pos rfl, mI_sE, mI_sE]; omega
  · show (ms_I (ms_sI _ 689 _) 689).toInt = _
    rw [mI_sI, if_pos rfl, mI_sE, mI_sE, e1]; omega
theorem s_spJ43 (n : Nat) (rc : ms_T → Int32 → Int32 → Int32 → Option (Int32 × ms_T)) {σ0 σ : ms_T} {w : Nat} (hC : rC (ms_E σ0 40)) (h : sp σ0 σ w) (hw : w < 64) (a b x : Int32) : ws (f_X12_stepsIn_J43 n rc σ a b x) (fun q => sp σ0 q.2 (w + 1)) := by
  have hi := h.2
  have hJ : ∀ y z, ws (f_X12_stepsIn_J73 n rc σ a b y z (ms_I σ 689)) (fun q => sp σ0 q.2 (w + 1)) := by
    intro y z
    unfold f_X12_stepsIn_J73
    have h2 : sp σ0 (ms_sE σ 51 (ms_I σ 689).toNatClampNeg z) w := ⟨fr_tr h.1 (fr_sE (by decide)), hi⟩
    have h3 := h2.2
    exact ws_g (by omega) (by omega) (ws_l (ws_i (fun _ => s_spJ102 n rc hC h2 hw _) (fun _ => ws_g (by omega) (by omega) (s_spJ102 n rc hC h2 hw _))))
  unfold f_X12_stepsIn_J43
  exact ws_i (fun _ => ws_g (by omega) (by omega) (hJ _ _)) (fun _ => hJ _ _)
theorem s_stepsIn (n : Nat) (hn : 70000 ≤ n) : ∀ (k d w : Nat) (σ0 σ : ms_T) (x i m : Int32), k < d → rC (ms_E σ0 40) → sp σ0 σ w → w + k ≤ 63 → 0 ≤ i.toInt → i.toInt < m.toInt → m.toInt ≤ p2 k → ws (f_X12_stepsIn n d σ x i m) (fun q => ∃ w', sp σ0 q.2 w' ∧ w' ≤ w + k) := by
  intro k
  induction k with
  | zero =>
    intro d w σ0 σ x i m hd hC hs hk h0 h1 h2
    have : p2 0 = 1 := by decide
    obtain ⟨d, rfl⟩ : ∃ d', d = d' + 1 := ⟨d - 1, by omega⟩
    rw [f_X12_stepsIn.eq_2]
    exact ws_e (fun c => ws_s ⟨w, hs, by omega⟩) (fun c => by rw [lt1] at c; omega)
  | succ k ih =>
    intro d w σ0 σ x i m hd hC hs hk h0 h1 h2
    obtain ⟨d, rfl⟩ : ∃ d', d = d' + 1 := ⟨d - 1, by omega⟩
    rw [f_X12_stepsIn.eq_2]
    refine ws_e (fun c => ws_s ⟨w, hs, by omega⟩) (fun c => ?_)
    have h2m := ne1_2 (a := m) (by omega) c
    refine ws_b (s_part0 n hn m h2m) (fun p hp => ?_)
    obtain ⟨j, hp⟩ := hp
    obtain ⟨q1, q2, q3, q4, q5⟩ := pt_k hp h2
    have bm := ib_hi m
    have bi := ib_hi i
    have e2 : (m - p).toInt = m.toInt - p.toInt := ii_sub (by omega) (by omega)
    refine ws_le (fun c => ?_) (fun c => ?_)
    · have e3 : (i - p).toInt = i.toInt - p.toInt := ii_sub (by omega) (by omega)
      refine ws_c (ih d w σ0 σ x (i - p) (m - p) (by omega) hC hs (by omega) (by omega) (by omega) (by omega)) (fun a τ hτ => ?_)
      obtain ⟨w', hw', hl⟩ := hτ
      exact ws_m (s_spJ43 n _ hC hw' (by omega) _ _ _) (fun q hq => ⟨w' + 1, hq, by omega⟩)
    · refine ws_c (ih d w σ0 σ x i p (by omega) hC hs (by omega) h0 c q1) (fun a τ hτ => ?_)
      obtain ⟨w', hw', hl⟩ := hτ
      exact ws_m (s_spJ43 n _ hC hw' (by omega) _ _ _) (fun q hq => ⟨w' + 1, hq, by omega⟩)
theorem s_steps0 (n : Nat) (hn : 70000 ≤ n) {τ : ms_T} (hR : RI τ) (x i m : Int32) (h0 : 0 ≤ i.toInt) (h1 : i.toInt < m.toInt) : ws (f_X12_stepsIn n 40 (ms_sI τ 689 0) x i m) (fun q => ∃ w', sp τ q.2 w' ∧ w' ≤ 31) := by
  have b := ib_hi m
  refine ws_m (s_stepsIn n hn 31 40 0 τ _ x i m (by omega) hR.2 ⟨fr_sI (by decide), by rw [mI_sI, if_pos rfl]; rfl⟩ (by omega) h0 h1 (by rw [p2_31]; omega)) (fun q hq => ?_)
  obtain ⟨w', h, hl⟩ := hq
  exact ⟨w', h, by omega⟩
theorem s_trace_L (n : Nat) (hn : 70000 ≤ n) (a1 a2 a3 a4 : Int32) {w : Nat} (hl : w ≤ 31) (h0 : 0 ≤ a2.toInt) (h1 : a2.toInt < a3.toInt) (h2 : 0 ≤ a4.toInt) (h3 : a4.toInt ≤ (w : Int)) : ∀ (k : Nat) (τ : ms_T) (v : Int32), RI τ → (ms_I τ 657).toInt = (w : Int) → 0 ≤ v.toInt → v.toInt ≤ 64 → 65 - v.toInt ≤ (k : Int) → ws (f_X12_trace_L72 n k τ a1 a2 a3 a4 v) (PK τ) := by
  intro k
  induction k with
  | zero => intro τ v hR hw g0 g1 g2; omega
  | succ k ih =>
    intro τ v hR hw g0 g1 g2
    have l0 := lt0
    rw [f_X12_trace_L72.eq_2]
    refine ws_le (fun _ => ws_l (ws_c (s_steps0 n hn hR a1 a2 a3 h0 h1) (fun x υ hυ => ?_))) (fun _ => ?_)
    · obtain ⟨w', hw', hl'⟩ := hυ
      have hp := fun r => pk hR hw'.1 (by decide) r
      refine ws_e (fun _ => ws_s (hp _)) (fun c => ?_)
      have e1 : (a4 - 1).toInt = a4.toInt - 1 := by (try simp only [iw_add, iw_sub, iw_mul, t_m1, lt0, lt1, t_2, t_3, t_4, t_5, t_6, t_8, t_9, t_10, t_16, t_20, t_24, t_26, t_30, t_31, t_48, t_64, t_72, t_76, t_92, t_101, t_252, t_444, t_512, t_900, t_1980, t_65521, t_99999, t_mil]) <;> omega
      exact ws_g (by omega) (by omega) (ws_s (hp _))
    · have hf : fr [] [44] τ (ms_sE τ 44 v.toNatClampNeg 0) := fr_sE (by decide)
      exact ws_g g0 (by omega) (ws_pk hR hf (by decide) (ws_l (ws_l (ih _ (v + 1) (RI_fr hR hf (by decide)) hw (by (try simp only [iw_add, iw_sub, iw_mul, t_m1, lt0, lt1, t_2, t_3, t_4, t_5, t_6, t_8, t_9, t_10, t_16, t_20, t_24, t_26, t_30, t_31, t_48, t_64, t_72, t_76, t_92, t_101, t_252, t_444, t_512, t_900, t_1980, t_65521, t_99999, t_mil]) <;> omega) (by (try simp only [iw_add, iw_sub, iw_mul, t_m1, lt0, lt1, t_2, t_3, t_4, t_5, t_6, t_8, t_9, t_10, t_16, t_20, t_24, t_26, t_30, t_31, t_48, t_64, t_72, t_76, t_92, t_101, t_252, t_444, t_512, t_900, t_1980, t_65521, t_99999, t_mil]) <;> omega) (by (try simp only [iw_add, iw_sub, iw_mul, t_m1, lt0, lt1, t_2, t_3, t_4, t_5, t_6, t_8, t_9, t_10, t_16, t_20, t_24, t_26, t_30, t_31, t_48, t_64, t_72, t_76, t_92, t_101, t_252, t_444, t_512, t_900, t_1980, t_65521, t_99999, t_mil]) <;> omega)))))
theorem s_trace (n : Nat) (hn : 70000 ≤ n) (σ : ms_T) (hR : RI σ) (a1 a2 a3 a4 : Int32) : ws (f_X12_trace n σ a1 a2 a3 a4) (PK σ) := by
  have L := lits
  have hC := hR.2
  have hJ : ∀ w : Int32, (w = 0 → 0 ≤ a2.toInt ∧ a2.toInt < a3.toInt ∧ 0 ≤ a4.toInt) → ws (f_X12_trace_J28 n σ a1 a2 a3 a4 w) (PK σ) := by
    intro w hw
    unfold f_X12_trace_J28 f_X12_trace_J60
    refine ws_isP hR (fun e τ hτ hE hf => ?_)
    have := hw e
    refine ws_b (s_inclusion n hn τ a2 a3 (by omega) (by omega)) (fun υ hυ => ?_)
    obtain ⟨w, hw, hl⟩ := hυ
    have hυR := RI_fr hτ hw.1 (by decide)
    have hi := hw.2.1
    refine ws_pk hτ hw.1 (by decide) (ws_lt (fun _ => ws_rf hυR) (fun _ => ws_c (s_fromPad n hn υ hυR.2) (fun a ρ hρ => ?_)))
    have hρR := RI_fr hυR hρ.1 (by decide)
    refine ws_pk hυR hρ.1 (by decide) (ws_i (fun _ => ws_c (s_fromPad n hn ρ hρR.2) (fun b φ hφ => ?_)) (fun _ => ws_rf hρR))
    have hφR := RI_fr hρR hφ.1 (by decide)
    have hb := hφ.2
    have h64 : 0 ≤ (ms_E ρ 40 2).toInt ∧ (ms_E ρ 40 2).toInt ≤ 64 := hρR.2.2.2.1
    have hb2 : b = ms_E ρ 40 2 := hb
    have hi2 : (ms_I φ 657).toInt = (w : Int) := by rw [hφ.1.1 657 (by decide), hρ.1.1 657 (by decide)]; exact hi
    exact ws_pk hρR hφ.1 (by decide) (s_trace_L n hn a1 a2 a3 a4 hl (by omega) (by omega) (by omega) (by omega) n φ b hφR hi2 (by rw [hb2]; omega) (by rw [hb2]; omega) (by rw [hb2]; omega))
  unfold f_X12_trace
  repeat' (first
    | with_reducible refine ws_bo (s_isRecord (by assumption) _) (fun _ => ?_) (fun _ => ?_)
    | with_reducible refine ws_bo (s_isMark (by assumption) _) (fun _ => ?_) (fun _ => ?_)
    | with_reducible refine ws_bo (s_isIn _ _ _ _) (fun _ => ?_) (fun _ => ?_)
    | with_reducible refine ws_bo (s_isWatcher _ _) (fun _ => ?_) (fun _ => ?_)
    | with_reducible refine ws_bo (s_isThing _ _ _ _) (fun _ => ?_) (fun _ => ?_)
    | with_reducible refine ws_b (s_noSize (by assumption) _ _) (fun _ _ => ?_)
    | with_reducible refine ws_b (s_noEntry (by assumption) _ _ _) (fun _ _ => ?_)
    | with_reducible refine ws_b (s_sizeOf (by assumption) _ (by omega) (by omega)) (fun _ _ => ?_)
    | with_reducible refine ws_lt (fun _ => ?_) (fun _ => ?_)
    | with_reducible refine ws_le (fun _ => ?_) (fun _ => ?_)
    | with_reducible refine ws_ee (fun _ _ => ?_) (fun _ => ?_)
    | with_reducible refine ws_g (by decide) (by decide) ?_
    | with_reducible refine ws_g (by omega) (by omega) ?_)
  all_goals first
    | exact hJ _ (fun h => absurd h (by decide))
    | exact hJ _ (fun _ => by omega)
    | (refine hJ _ (fun h => ?_); rename_i q; have := q h; omega)
theorem s_forge_L (n : Nat) (hn : 70000 ≤ n) (a1 a2 a3 a4 a5 : Int32) (h0 : 0 ≤ a2.toInt) (h1 : a2.toInt < a3.toInt) (h2 : 0 ≤ a5.toInt) (h3 : a5.toInt < 128) : ∀ (k : Nat) (τ : ms_T) (v : Int32), RI τ → 0 ≤ v.toInt → v.toInt ≤ 65521 → 65522 - v.toInt ≤ (k : Int) → ws (f_X12_forge_L80 n k τ a1 a2 a3 a4 a5 v) (PK τ) := by
  intro k
  induction k with
  | zero => intro τ v hR g0 g1 g2; omega
  | succ k ih =>
    intro τ v hR g0 g1 g2
    have hm := hR.2.2.1
    rw [f_X12_forge_L80.eq_2, c1]
    refine ws_g (by decide) (by decide) (ws_le (fun _ => ws_rf hR) (fun _ => ?_))
    have hf : fr [] [44] τ (ms_sE τ 44 a5.toNatClampNeg v) := fr_sE (by decide)
    have hR1 := RI_fr hR hf (by decide)
    refine ws_g h2 (by omega) (ws_pk hR hf (by decide) (ws_l (ws_c (s_folded n hn _ hR1.2 a1 a2 a3 h0 h1) (fun x ρ hρ => ?_))))
    have hρR := RI_fr hR1 hρ (by decide)
    exact ws_pk hR1 hρ (by decide) (ws_i (fun _ => ws_s (PKr hρR _)) (fun _ => ws_l (ih ρ (v + 1) hρR (by (try simp only [iw_add, iw_sub, iw_mul, t_m1, lt0, lt1, t_2, t_3, t_4, t_5, t_6, t_8, t_9, t_10, t_16, t_20, t_24, t_26, t_30, t_31, t_48, t_64, t_72, t_76, t_92, t_101, t_252, t_444, t_512, t_900, t_1980, t_65521, t_99999, t_mil]) <;> omega) (by (try simp only [iw_add, iw_sub, iw_mul, t_m1, lt0, lt1, t_2, t_3, t_4, t_5, t_6, t_8, t_9, t_10, t_16, t_20, t_24, t_26, t_30, t_31, t_48, t_64, t_72, t_76, t_92, t_101, t_252, t_444, t_512, t_900, t_1980, t_65521, t_99999, t_mil]) <;> omega) (by (try simp only [iw_add, iw_sub, iw_mul, t_m1, lt0, lt1, t_2, t_3, t_4, t_5, t_6, t_8, t_9, t_10, t_16, t_20, t_24, t_26, t_30, t_31, t_48, t_64, t_72, t_76, t_92, t_101, t_252, t_444, t_512, t_900, t_1980, t_65521, t_99999, t_mil]) <;> omega))))
theorem s_forge (n : Nat) (hn : 70000 ≤ n) (σ : ms_T) (hR : RI σ) (a1 a2 a3 a4 a5 : Int32) : ws (f_X12_forge n σ a1 a2 a3 a4 a5) (PK σ) := by
  have L := lits
  have hC := hR.2
  have hJ : ∀ w : Int32, (w = 0 → 0 ≤ a2.toInt ∧ a2.toInt < a3.toInt ∧ 0 ≤ a5.toInt) → ws (f_X12_forge_J37 n σ a1 a2 a3 a4 a5 w) (PK σ) := by
    intro w hw
    unfold f_X12_forge_J37 f_X12_forge_J71
    refine ws_isP hR (fun e τ hτ hE hf => ?_)
    have := hw e
    refine ws_b (s_inclusion n hn τ a2 a3 (by omega) (by omega)) (fun υ hυ => ?_)
    obtain ⟨w, hw, hl⟩ := hυ
    have hυR := RI_fr hτ hw.1 (by decide)
    have hi := hw.2.1
    refine ws_pk hτ hw.1 (by decide) (ws_c (s_fromPad n hn υ hυR.2) (fun a ρ hρ => ?_))
    have hρR := RI_fr hυR hρ.1 (by decide)
    have hi2 : (ms_I ρ 657).toInt = (w : Int) := by rw [hρ.1.1 657 (by decide)]; exact hi
    refine ws_pk hυR hρ.1 (by decide) (ws_i (fun _ => ws_lt (fun _ => ?_) (fun _ => ws_rf hρR)) (fun _ => ws_rf hρR))
    exact s_forge_L n hn a1 a2 a3 a4 a5 (by omega) (by omega) (by omega) (by omega) n ρ 0 hρR (by decide) (by decide) (by rw [lt0]; omega)
  unfold f_X12_forge
  repeat' (first
    | with_reducible refine ws_bo (s_isRecord (by assumption) _) (fun _ => ?_) (fun _ => ?_)
    | with_reducible refine ws_bo (s_isMark (by assumption) _) (fun _ => ?_) (fun _ => ?_)
    | with_reducible refine ws_bo (s_isIn _ _ _ _) (fun _ => ?_) (fun _ => ?_)
    | with_reducible refine ws_bo (s_isWatcher _ _) (fun _ => ?_) (fun _ => ?_)
    | with_reducible refine ws_bo (s_isThing _ _ _ _) (fun _ => ?_) (fun _ => ?_)
    | with_reducible refine ws_b (s_noSize (by assumption) _ _) (fun _ _ => ?_)
    | with_reducible refine ws_b (s_noEntry (by assumption) _ _ _) (fun _ _ => ?_)
    | with_reducible refine ws_b (s_sizeOf (by assumption) _ (by omega) (by omega)) (fun _ _ => ?_)
    | with_reducible refine ws_lt (fun _ => ?_) (fun _ => ?_)
    | with_reducible refine ws_le (fun _ => ?_) (fun _ => ?_)
    | with_reducible refine ws_ee (fun _ _ => ?_) (fun _ => ?_)
    | with_reducible refine ws_g (by decide) (by decide) ?_
    | with_reducible refine ws_g (by omega) (by omega) ?_)
  all_goals first
    | exact hJ _ (fun h => absurd h (by decide))
    | exact hJ _ (fun _ => by omega)
    | (refine hJ _ (fun h => ?_); rename_i q; have := q h; omega)
theorem s_clash_M (n : Nat) {τ : ms_T} (hR : RI τ) (a5 : Int32) {w : Nat} (hw : (ms_I τ 689).toInt = (w : Int)) (hl : w ≤ 31) : ∀ (k : Nat) (v : Int32), 0 ≤ v.toInt → v.toInt ≤ 31 → 32 - v.toInt ≤ (k : Int) → ws (f_X12_clash_L172 n k τ a5 v) (PK τ) := by
  intro k
  induction k with
  | zero => intro v g0 g1 g2; omega
  | succ k ih =>
    intro v g0 g1 g2
    rw [f_X12_clash_L172.eq_2]
    have hJ : v.toInt < 31 → ws (f_X12_clash_J301 n (f_X12_clash_L172 n k) τ a5 v) (PK τ) := by
      intro hv
      unfold f_X12_clash_J301
      exact ws_l (ih (v + 1) (by (try simp only [iw_add, iw_sub, iw_mul, t_m1, lt0, lt1, t_2, t_3, t_4, t_5, t_6, t_8, t_9, t_10, t_16, t_20, t_24, t_26, t_30, t_31, t_48, t_64, t_72, t_76, t_92, t_101, t_252, t_444, t_512, t_900, t_1980, t_65521, t_99999, t_mil]) <;> omega) (by (try simp only [iw_add, iw_sub, iw_mul, t_m1, lt0, lt1, t_2, t_3, t_4, t_5, t_6, t_8, t_9, t_10, t_16, t_20, t_24, t_26, t_30, t_31, t_48, t_64, t_72, t_76, t_92, t_101, t_252, t_444, t_512, t_900, t_1980, t_65521, t_99999, t_mil]) <;> omega) (by (try simp only [iw_add, iw_sub, iw_mul, t_m1, lt0, lt1, t_2, t_3, t_4, t_5, t_6, t_8, t_9, t_10, t_16, t_20, t_24, t_26, t_30, t_31, t_48, t_64, t_72, t_76, t_92, t_101, t_252, t_444, t_512, t_900, t_1980, t_65521, t_99999, t_mil]) <;> omega))
    have hK : ws (f_X12_clash_J235 n τ a5 v) (PK τ) := by
      unfold f_X12_clash_J235
      exact ws_i (fun _ => ws_s (PKr hR _)) (fun _ => ws_i (fun _ => ws_g g0 (by omega) (ws_s (PKr hR _))) (fun _ => ws_i (fun _ => ws_g g0 (by omega) (ws_s (PKr hR _))) (fun _ => ws_i (fun _ => ws_g g0 (by omega) (ws_s (PKr hR _))) (fun _ => ws_g g0 (by omega) (ws_s (PKr hR _))))))
    exact ws_le (fun _ => ws_rf hR) (fun _ => ws_g g0 (by omega) (ws_g g0 (by omega) (ws_i (fun _ => ws_g g0 (by omega) (ws_g g0 (by omega) (ws_i (fun _ => ws_g g0 (by omega) (ws_g g0 (by omega) (ws_i (fun _ => hJ (by omega)) (fun _ => hK)))) (fun _ => hK)))) (fun _ => hJ (by omega)))))
theorem s_clash_L (n : Nat) (hn : 70000 ≤ n) (a1 a2 a3 a5 : Int32) (h0 : 0 ≤ a1.toInt) (h1 : a1.toInt ≤ 3) (h2 : 0 ≤ a2.toInt) (h3 : a2.toInt < a3.toInt) (h4 : a3.toInt ≤ 48) {w : Nat} (hl : w ≤ 31) : ∀ (k : Nat) (τ : ms_T) (v : Int32), RI τ → (ms_I τ 689).toInt = (w : Int) → 0 ≤ v.toInt → v.toInt ≤ 31 → 32 - v.toInt ≤ (k : Int) → ws (f_X12_clash_L83 n k τ a1 a2 a3 a5 v) (PK τ) := by
  intro k
  induction k with
  | zero => intro τ v hR hw g0 g1 g2; omega
  | succ k ih =>
    intro τ v hR hw g0 g1 g2
    rw [f_X12_clash_L83.eq_2]
    refine ws_le (fun _ => ?_) (fun _ => ?_)
    · refine ws_b (s_inclusion n hn τ a2 a3 h2 h3) (fun υ hυ => ?_)
      obtain ⟨u, hu, hm⟩ := hυ
      have hυR := RI_fr hR hu.1 (by decide)
      refine ws_pk hR hu.1 (by decide) (ws_b (s_fetches n hn hυR.2 hu (by omega) (by omega) a1 h0 h1) (fun ρ hρ => ?_))
      have hρR := RI_fr hυR hρ (by decide)
      have hf0 : fr [689] [] ρ (ms_sI ρ 689 0) := fr_sI (by decide)
      have hR0 := RI_fr hρR hf0 (by decide)
      refine ws_pk hυR hρ (by decide) (ws_l (ws_b (s_entryMark hn hR0.2 a1 a2 h0 h1 h2 (by omega)) (fun x _ => ws_c (s_steps0 n hn hρR x a2 a3 h2 h3) (fun y φ hφ => ?_))))
      obtain ⟨w', hw', hl'⟩ := hφ
      exact ws_pk hρR hw'.1 (by decide) (s_clash_M n (RI_fr hρR hw'.1 (by decide)) a5 hw'.2 hl' n 0 (by decide) (by decide) (by rw [lt0]; omega))
    · refine ws_g g0 (by omega) (ws_g g0 (by omega) (ws_l (ws_g g0 (by omega) (ws_g g0 (by omega) (ws_l (ws_g g0 (by omega) (ws_g g0 (by omega) (ws_l (ws_l ?_)))))))))
      generalize hρ : ms_sE (ms_sE (ms_sE τ 54 v.toNatClampNeg (ms_E τ 51 v.toNatClampNeg)) 55 v.toNatClampNeg _) 56 v.toNatClampNeg _ = ρ
      have hf : fr [] [54, 55, 56] τ ρ := by rw [← hρ]; exact fr_tr (fr_sE (by decide)) (fr_tr (fr_sE (by decide)) (fr_sE (by decide)))
      exact ws_pk hR hf (by decide) (ih ρ (v + 1) (RI_fr hR hf (by decide)) (by rw [hf.1 689 (by simp)]; exact hw) (by (try simp only [iw_add, iw_sub, iw_mul, t_m1, lt0, lt1, t_2, t_3, t_4, t_5, t_6, t_8, t_9, t_10, t_16, t_20, t_24, t_26, t_30, t_31, t_48, t_64, t_72, t_76, t_92, t_101, t_252, t_444, t_512, t_900, t_1980, t_65521, t_99999, t_mil]) <;> omega) (by (try simp only [iw_add, iw_sub, iw_mul, t_m1, lt0, lt1, t_2, t_3, t_4, t_5, t_6, t_8, t_9, t_10, t_16, t_20, t_24, t_26, t_30, t_31, t_48, t_64, t_72, t_76, t_92, t_101, t_252, t_444, t_512, t_900, t_1980, t_65521, t_99999, t_mil]) <;> omega) (by (try simp only [iw_add, iw_sub, iw_mul, t_m1, lt0, lt1, t_2, t_3, t_4, t_5, t_6, t_8, t_9, t_10, t_16, t_20, t_24, t_26, t_30, t_31, t_48, t_64, t_72, t_76, t_92, t_101, t_252, t_444, t_512, t_900, t_1980, t_65521, t_99999, t_mil]) <;> omega))
theorem s_clash (n : Nat) (hn : 70000 ≤ n) (σ : ms_T) (hR : RI σ) (a1 a2 a3 a4 a5 : Int32) : ws (f_X12_clash n σ a1 a2 a3 a4 a5) (PK σ) := by
  have L := lits
  have hC := hR.2
  have hJ : ∀ w : Int32, (w = 0 → 0 ≤ a1.toInt ∧ a1.toInt ≤ 3 ∧ 0 ≤ a2.toInt ∧ a2.toInt < a3.toInt ∧ a3.toInt ≤ 48) → ws (f_X12_clash_J31 n σ a1 a2 a3 a4 a5 w) (PK σ) := by
    intro w hw
    unfold f_X12_clash_J31
    refine ws_isP hR (fun e τ hτ hE hf => ?_)
    have := hw e
    refine ws_c (s_fromPad n hn τ hτ.2) (fun a υ hυ => ?_)
    have hυR := RI_fr hτ hυ.1 (by decide)
    refine ws_pk hτ hυ.1 (by decide) (ws_b (s_headOf n hn hυR.2 a1 a3 (by omega) (by omega) (by omega) (by omega)) (fun x _ => ws_c (s_whyIn n hn υ hυR.2 a a4 a2 a3 x (by omega) (by omega)) (fun b ρ hρ => ?_)))
    have hρR := RI_fr hυR hρ (by decide)
    refine ws_pk hυR hρ (by decide) (ws_i (fun _ => ws_l (ws_c (s_steps0 n hn hρR a4 a2 a3 (by omega) (by omega)) (fun y φ hφ => ?_))) (fun _ => ws_rf hρR))
    obtain ⟨w', hw', hl'⟩ := hφ
    exact ws_pk hρR hw'.1 (by decide) (s_clash_L n hn a1 a2 a3 a5 (by omega) (by omega) (by omega) (by omega) (by omega) hl' n φ 0 (RI_fr hρR hw'.1 (by decide)) hw'.2 (by decide) (by decide) (by rw [lt0]; omega))
  unfold f_X12_clash
  repeat' (first
    | with_reducible refine ws_bo (s_isRecord (by assumption) _) (fun _ => ?_) (fun _ => ?_)
    | with_reducible refine ws_bo (s_isMark (by assumption) _) (fun _ => ?_) (fun _ => ?_)
    | with_reducible refine ws_bo (s_isIn _ _ _ _) (fun _ => ?_) (fun _ => ?_)
    | with_reducible refine ws_bo (s_isWatcher _ _) (fun _ => ?_) (fun _ => ?_)
    | with_reducible refine ws_bo (s_isThing _ _ _ _) (fun _ => ?_) (fun _ => ?_)
    | with_reducible refine ws_b (s_noSize (by assumption) _ _) (fun _ _ => ?_)
    | with_reducible refine ws_b (s_noEntry (by assumption) _ _ _) (fun _ _ => ?_)
    | with_reducible refine ws_b (s_sizeOf (by assumption) _ (by omega) (by omega)) (fun _ _ => ?_)
    | with_reducible refine ws_lt (fun _ => ?_) (fun _ => ?_)
    | with_reducible refine ws_le (fun _ => ?_) (fun _ => ?_)
    | with_reducible refine ws_ee (fun _ _ => ?_) (fun _ => ?_)
    | with_reducible refine ws_g (by decide) (by decide) ?_
    | with_reducible refine ws_g (by omega) (by omega) ?_)
  all_goals first
    | exact hJ _ (fun h => absurd h (by decide))
    | exact hJ _ (fun _ => by omega)
    | (refine hJ _ (fun h => ?_); rename_i q; have := q h; omega)
/-! chains -/
theorem s_growth7 (n : Nat) (hn : 70000 ≤ n) (σ : ms_T) (i m : Int32) (hm : m.toInt ≤ 48) : ws (f_X12_growth n σ i m) (fun τ => ∃ w, wy m.toInt σ τ w ∧ w ≤ 7) := by
  unfold f_X12_growth
  have b := ib_hi m
  refine ws_l (ws_le (fun c => ws_s ⟨0, wy_0, by omega⟩) (fun c => ws_le (fun g => ws_s ⟨0, wy_0, by omega⟩) (fun g => ?_)))
  rw [lt0] at c
  refine ws_b (s_growsIn n hn b 6 40 0 σ _ 0 i m 1 (by omega) wy_0 (by omega) (by decide) (by omega) (by omega) (by rw [lt0]; omega) (by have : p2 6 = 64 := (by decide); omega)) (fun τ hτ => ?_)
  obtain ⟨w, hw, hl⟩ := hτ
  exact ws_s ⟨w, hw, by omega⟩
def ct (g : Nat → Int) (v : Int) : Nat → Nat
  | 0 => 0
  | k + 1 => ct g v k + (if v < g k then 1 else 0)
theorem ct_le (g : Nat → Int) (v : Int) : ∀ k, ct g v k ≤ k := by
  intro k
  induction k with
  | zero => exact Nat.le_refl _
  | succ k ih => unfold ct; split <;> omega
theorem ct_mono (g : Nat → Int) {v u : Int} (h : v ≤ u) : ∀ k, ct g u k ≤ ct g v k := by
  intro k
  induction k with
  | zero => exact Nat.le_refl _
  | succ k ih =>
    unfold ct
    by_cases q : u < g k
    · rw [if_pos q, if_pos (by omega)]; omega
    · rw [if_neg q]; omega
theorem ct_lt (g : Nat → Int) {v u : Int} (h : v < u) : ∀ k j, j < k → g j = u → ct g u k < ct g v k := by
  intro k
  induction k with
  | zero => intro j hj; omega
  | succ k ih =>
    intro j hj hg
    unfold ct
    by_cases e : j = k
    · subst e
      have := ct_mono g (show v ≤ u by omega) j
      rw [if_neg (by omega), if_pos (by omega)]; omega
    · have := ih j (by omega) hg
      by_cases q : u < g k
      · rw [if_pos q, if_pos (by omega)]; omega
      · rw [if_neg q]; omega
/-- the size of what was frozen as the j-th -/
def fz (σ : ms_T) (j : Nat) : Int := (ms_E σ 40 (93 + 10 * j)).toInt
def sab (σ : ms_T) (v r : Int32) : Prop := r = -1 ∨ (v.toInt < r.toInt ∧ 0 ≤ r.toInt ∧ r.toInt ≤ 48 ∧ ∃ j, j < 16 ∧ fz σ j = r.toInt)
theorem s_sizeAbove_L (n : Nat) {σ : ms_T} (hC : rC (ms_E σ 40)) (a u : Int32) : ∀ (k : Nat) (x v : Int32), sab σ u x → 0 ≤ v.toInt → v.toInt ≤ 16 → 17 - v.toInt ≤ (k : Int) → ws (f_X12_sizeAbove_L5 n σ k a u x v) (sab σ u) := by
  intro k
  induction k with
  | zero => intro x v hx g0 g1 g2; omega
  | succ k ih =>
    intro x v hx g0 g1 g2
    have h16 := hC.2.2.2.1
    rw [f_X12_sizeAbove_L5.eq_2, c3]
    have hJ : v.toInt < 16 → ∀ x, sab σ u x → ws (f_X12_sizeAbove_J61 n σ (f_X12_sizeAbove_L5 n σ k) a u x v) (sab σ u) := by
      intro hv x hx
      unfold f_X12_sizeAbove_J61
      exact ws_l (ih _ (v + 1) hx (by (try simp only [iw_add, iw_sub, iw_mul, t_m1, lt0, lt1, t_2, t_3, t_4, t_5, t_6, t_8, t_9, t_10, t_16, t_20, t_24, t_26, t_30, t_31, t_48, t_64, t_72, t_76, t_92, t_101, t_252, t_444, t_512, t_900, t_1980, t_65521, t_99999, t_mil]) <;> omega) (by (try simp only [iw_add, iw_sub, iw_mul, t_m1, lt0, lt1, t_2, t_3, t_4, t_5, t_6, t_8, t_9, t_10, t_16, t_20, t_24, t_26, t_30, t_31, t_48, t_64, t_72, t_76, t_92, t_101, t_252, t_444, t_512, t_900, t_1980, t_65521, t_99999, t_mil]) <;> omega) (by (try simp only [iw_add, iw_sub, iw_mul, t_m1, lt0, lt1, t_2, t_3, t_4, t_5, t_6, t_8, t_9, t_10, t_16, t_20, t_24, t_26, t_30, t_31, t_48, t_64, t_72, t_76, t_92, t_101, t_252, t_444, t_512, t_900, t_1980, t_65521, t_99999, t_mil]) <;> omega))
    refine ws_g (by decide) (by decide) (ws_le (fun _ => ws_s hx) (fun _ => ?_))
    have f1 : ws (f_X12_froze n σ v 1) (fun r => r = ms_E σ 40 (93 + 10 * v.toInt.toNat)) := by
      unfold f_X12_froze
      have e1 : ((92 : Int32) + 10 * v).toInt = 92 + 10 * v.toInt := by (try simp only [iw_add, iw_sub, iw_mul, t_m1, lt0, lt1, t_2, t_3, t_4, t_5, t_6, t_8, t_9, t_10, t_16, t_20, t_24, t_26, t_30, t_31, t_48, t_64, t_72, t_76, t_92, t_101, t_252, t_444, t_512, t_900, t_1980, t_65521, t_99999, t_mil]) <;> omega
      have e2 : ((92 : Int32) + 10 * v + 1).toInt = 93 + 10 * v.toInt := by rw [iw_add, e1, lt1]; omega
      refine ws_g (by omega) (by omega) (ws_s ?_)
      rw [cl_n (i := (92 : Int32) + 10 * v + 1) (k := 93 + 10 * v.toInt.toNat) (by omega)]
    have hz := hC.2.2.2.2.2.2.2.1 v.toInt.toNat (by omega)
    have hJ5 : u.toInt < (ms_E σ 40 (93 + 10 * v.toInt.toNat)).toInt → ws (f_X12_sizeAbove_J53 n σ (f_X12_sizeAbove_L5 n σ k) a u v) (sab σ u) := by
      intro hu
      unfold f_X12_sizeAbove_J53
      refine ws_b f1 (fun r hr => hJ (by omega) r (Or.inr ?_))
      rw [hr]
      exact ⟨hu, hz.1, hz.2, v.toInt.toNat, by omega, rfl⟩
    refine ws_b (s_froze hC v 0 g0 (by omega) (by decide) (by decide)) (fun _ _ => ws_i (fun _ => ?_) (fun _ => hJ (by omega) _ hx))
    refine ws_b f1 (fun r hr => ws_le (fun _ => hJ (by omega) _ hx) (fun hu => ?_))
    rw [hr] at hu
    exact ws_i (fun _ => hJ5 hu) (fun _ => ws_b f1 (fun s hs => ws_i (fun _ => hJ (by omega) _ hx) (fun _ => hJ5 hu)))
theorem s_sizeAbove (n : Nat) (hn : 70000 ≤ n) {σ : ms_T} (hC : rC (ms_E σ 40)) (a u : Int32) : ws (f_X12_sizeAbove n σ a u) (sab σ u) := by
  unfold f_X12_sizeAbove
  exact s_sizeAbove_L n hC a u n (-1) 0 (Or.inl rfl) (by decide) (by decide) (by rw [lt0]; omega)
theorem s_chain_L (n : Nat) (hn : 70000 ≤ n) (a1 a2 : Int32) : ∀ (k M : Nat) (τ : ms_T) (x y u v : Int32), RI τ → 0 ≤ (ms_I τ 695).toInt → (v.toInt < 0 ∨ (v.toInt ≤ 48 ∧ M = ct (fz τ) v.toInt 16 ∧ (ms_I τ 695).toInt + 8 * (M + 1) ≤ 136 ∧ M + 1 < k)) → 1 ≤ k → ws (f_X12_chain_L56 n k τ a1 a2 x y u v) (PK τ) := by
  intro k
  induction k with
  | zero => intro M τ x y u v hR h0 hv hk; omega
  | succ k ih =>
    intro M τ x y u v hR h0 hv hk
    have l0 := lt0
    rw [f_X12_chain_L56.eq_2]
    refine ws_lt (fun _ => ws_i (fun _ => ws_s (PKr hR _)) (fun _ => ws_i (fun _ => ws_s (PKr hR _)) (fun _ => ws_s (PKr hR _)))) (fun hv0 => ?_)
    obtain ⟨v1, hM, hc, hk1⟩ := hv.resolve_left (by omega)
    have hJ : ∀ (ρ : ms_T) (w : Nat) (x y : Int32), fr [657] [42, 43] τ ρ → (ms_I ρ 657).toInt = (w : Int) → w ≤ 7 → ws (f_X12_chain_J82 n (f_X12_chain_L56 n k) ρ a1 a2 x y v) (PK τ) := by
      intro ρ w x y hf hw hl
      unfold f_X12_chain_J82
      have hρR := RI_fr hR hf (by decide)
      have e9 : ms_I ρ 695 = ms_I τ 695 := hf.1 695 (by decide)
      refine ws_pk hR hf (by decide) (ws_l (ws_b (s_notes n hn (w := w) (c := (ms_I τ 695).toInt.toNat) (by omega) (by omega) hw (by rw [e9]; omega) (by rw [e9]; omega)) (fun φ hφ => ?_)))
      have hφR := RI_fr hρR hφ.1 (by decide)
      have h1 := hφ.2
      refine ws_pk hρR hφ.1 (by decide) (ws_b (s_sizeAbove n hn hφR.2 a1 v) (fun r hr => ?_))
      rcases hr with hr | ⟨r1, r2, r3, j, r4, r5⟩
      · exact ih 0 φ _ _ _ r hφR h1.1 (Or.inl (by rw [hr]; decide)) (by omega)
      · have ez : fz φ = fz τ := by
          funext i
          show (ms_E φ 40 _).toInt = (ms_E τ 40 _).toInt
          rw [hφ.1.2 40 (by decide), hf.2 40 (by decide)]
        have hlt := ct_lt (fz φ) r1 16 j r4 r5
        rw [ez] at hlt
        refine ih (ct (fz φ) r.toInt 16) φ _ _ _ r hφR h1.1 (Or.inr ⟨r3, rfl, ?_, ?_⟩) (by omega)
        · rw [ez]; omega
        · rw [ez]; omega
    refine ws_l (ws_l (ws_i (fun _ => hJ _ 0 _ _ (fr_sI (by decide)) (by rw [mI_sI, if_pos rfl]; rfl) (by omega)) (fun _ => ?_)))
    refine ws_b (s_growth7 n hn _ u v v1) (fun ρ hρ => ?_)
    obtain ⟨w, hw, hl⟩ := hρ
    exact hJ ρ w _ _ (fr_tr (fr_sI (by decide)) hw.1) hw.2.1 hl
theorem s_chain (n : Nat) (hn : 70000 ≤ n) (σ : ms_T) (hR : RI σ) (a1 a2 : Int32) : ws (f_X12_chain n σ a1 a2) (PK σ) := by
  have hC := hR.2
  have hJ : ∀ w : Int32, (w = 0 → (0 : Int) = 0) → ws (f_X12_chain_J27 n σ a1 a2 w) (PK σ) := by
    intro w hw
    unfold f_X12_chain_J27
    refine ws_isP hR (fun e τ hτ hE hf => ?_)
    have hf0 : fr [695] [] τ (ms_sI τ 695 0) := fr_sI (by decide)
    have hR0 := RI_fr hτ hf0 (by decide)
    have e9 : ms_I (ms_sI τ 695 0) 695 = 0 := by rw [mI_sI, if_pos rfl]
    refine ws_pk hτ hf0 (by decide) (ws_l (ws_b (s_sizeAbove n hn hR0.2 a1 (-1)) (fun r hr => ?_)))
    have hct := ct_le (fz (ms_sI τ 695 0)) r.toInt 16
    refine s_chain_L n hn a1 a2 n (ct (fz (ms_sI τ 695 0)) r.toInt 16) _ 0 0 (-1) r hR0 (by rw [e9]; decide) ?_ (by omega)
    rcases hr with hr | ⟨r1, r2, r3, j, r4, r5⟩
    · exact Or.inl (by rw [hr]; decide)
    · exact Or.inr ⟨r3, rfl, by rw [e9, lt0]; omega, by omega⟩
  unfold f_X12_chain
  repeat' (first
    | with_reducible refine ws_bo (s_isRecord (by assumption) _) (fun _ => ?_) (fun _ => ?_)
    | with_reducible refine ws_bo (s_isMark (by assumption) _) (fun _ => ?_) (fun _ => ?_)
    | with_reducible refine ws_bo (s_isIn _ _ _ _) (fun _ => ?_) (fun _ => ?_)
    | with_reducible refine ws_bo (s_isWatcher _ _) (fun _ => ?_) (fun _ => ?_)
    | with_reducible refine ws_bo (s_isThing _ _ _ _) (fun _ => ?_) (fun _ => ?_)
    | with_reducible refine ws_b (s_noSize (by assumption) _ _) (fun _ _ => ?_)
    | with_reducible refine ws_b (s_noEntry (by assumption) _ _ _) (fun _ _ => ?_)
    | with_reducible refine ws_b (s_sizeOf (by assumption) _ (by omega) (by omega)) (fun _ _ => ?_)
    | with_reducible refine ws_lt (fun _ => ?_) (fun _ => ?_)
    | with_reducible refine ws_le (fun _ => ?_) (fun _ => ?_)
    | with_reducible refine ws_ee (fun _ _ => ?_) (fun _ => ?_)
    | with_reducible refine ws_g (by decide) (by decide) ?_
    | with_reducible refine ws_g (by omega) (by omega) ?_)
  all_goals first
    | exact hJ _ (fun h => absurd h (by decide))
    | exact hJ _ (fun _ => by omega)
    | (refine hJ _ (fun h => ?_); rename_i q; have := q h; omega)
