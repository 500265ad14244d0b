/-! ===== freeze, show, meet, feed ===== -/
theorem s_peaks6_L (n : Nat) : ∀ (k j w : Nat) (σ0 σ : ms_T) (a f v : Int32), j + 1 < k → v.toInt = p2 j → wy 48 σ0 σ w → (6 ≤ j → w = 0) → (j ≤ 5 → w + j + 1 ≤ 6) → 0 ≤ a.toInt → a.toInt ≤ 48 → j ≤ 30 → 0 ≤ f.toInt → f.toInt + a.toInt % (2 * p2 j) ≤ 48 → ws (f_X12_peaksOf_L10 n k σ a f v) (fun τ => ∃ w', wy 48 σ0 τ w' ∧ w' ≤ 6) := by
  intro k
  induction k with
  | zero => intro j w σ0 σ a f v h0; omega
  | succ k ih =>
    intro j w σ0 σ a f v h0 hv hw hk6 hk5 ha ha2 hj30 hf hs
    have hp := p2_p j
    have l2 : (2 : Int32).toInt = 2 := rfl
    have hda : (a / v).toInt = a.toInt / p2 j := by rw [ii_div ha (by omega), hv]
    have hq0 : 0 ≤ a.toInt / p2 j := Int.ediv_nonneg ha (by omega)
    have hrem : ((a / v) - (a / v) / 2 * 2).toInt = (a.toInt / p2 j) % 2 := by rw [ii_rem (x := a / v) (y := 2) (by omega) (by decide), hda, l2]
    have hmm : a.toInt % (2 * p2 j) = a.toInt % p2 j + p2 j * ((a.toInt / p2 j) % 2) := by
      obtain ⟨A, hA⟩ := Int.eq_ofNat_of_zero_le ha
      have h := Nat.mod_mul (a := 2 ^ j) (b := 2) (x := A)
      unfold p2
      rw [hA, Int.mul_comm 2]
      exact_mod_cast h
    have hm0 := Int.emod_nonneg a.toInt (show p2 j ≠ 0 by omega)
    rw [f_X12_peaksOf_L10.eq_2]
    refine ws_le (fun c => by rw [lt0, hv] at c; omega) (fun c => ws_n (fun q => by have := il_eq q; rw [lt0] at this; omega) ?_)
    have hJ : ∀ (w' : Nat) (τ : ms_T) (g : Int32), wy 48 σ0 τ w' → (7 ≤ j → w' = 0) → (j ≤ 6 → w' + j ≤ 6) → 0 ≤ g.toInt → g.toInt + a.toInt % p2 j ≤ 48 → ws (f_X12_peaksOf_J35 n (f_X12_peaksOf_L10 n k) τ a g v) (fun τ => ∃ w', wy 48 σ0 τ w' ∧ w' ≤ 6) := by
      intro w' τ g hw' hk' hk'' hg hs'
      unfold f_X12_peaksOf_J35
      refine ws_l ?_
      cases j with
      | zero =>
        have hz : (v / 2).toInt = 0 := by
          rw [ii_div (by omega) (by decide), hv, l2]
          decide
        obtain ⟨k, rfl⟩ : ∃ k', k = k' + 1 := ⟨k - 1, by omega⟩
        rw [f_X12_peaksOf_L10.eq_2]
        exact ws_le (fun _ => ws_s ⟨w', hw', by omega⟩) (fun c => by rw [lt0] at c; omega)
      | succ j =>
        refine ih j w' σ0 τ a g (v / 2) (by omega) (p2_half hv) hw' (fun _ => hk' (by omega)) (fun _ => by omega) ha ha2 (by omega) hg ?_
        rw [← p2_s]; exact hs'
    refine ws_i (fun q => ?_) (fun q => ?_)
    · have q1 := il_eq q
      rw [hrem, lt0] at q1
      rw [q1] at hmm
      exact hJ w σ f hw (fun _ => hk6 (by omega)) (fun _ => by omega) hf (by omega)
    · have q1 := il_ne q
      rw [hrem, lt0] at q1
      have q2 : (a.toInt / p2 j) % 2 = 1 := by omega
      rw [q2] at hmm
      have hj6 : j ≤ 5 := by
        rcases Nat.lt_or_ge 5 j with h | h
        · have h64 : p2 6 = 64 := by decide
          have := p2_m (show 6 ≤ j by omega)
          rw [Int.ediv_eq_zero_of_lt ha (by omega)] at q2
          omega
        · exact h
      have := hk5 hj6
      have e3 : (f + v).toInt = f.toInt + v.toInt := ii_add (by omega) (by omega)
      refine ws_b (s_asks n hw (by omega) f v hf (by omega) (by omega)) (fun υ hυ => ws_l ?_)
      exact hJ (w + 1) υ (f + v) hυ (fun _ => by omega) (fun _ => by omega) (by omega) (by omega)
theorem s_peaks6 (n : Nat) (hn : 70000 ≤ n) (σ : ms_T) (a : Int32) (h0 : 0 ≤ a.toInt) (h1 : a.toInt ≤ 48) : ws (f_X12_peaksOf n σ a) (fun τ => ∃ w, wy 48 σ τ w ∧ w ≤ 6) := by
  unfold f_X12_peaksOf
  refine ws_l (s_peaks6_L n n 30 0 σ _ a 0 1073741824 (by omega) (by decide) wy_0 (fun _ => rfl) (fun _ => by omega) h0 h1 (by omega) (by decide) ?_)
  have h30 : p2 30 = 1073741824 := by decide
  have hm : a.toInt % (2 * p2 30) ≤ a.toInt := by rw [h30]; omega
  rw [lt0]
  omega
def stF (σ : ms_T) (q : Int32 × ms_T) : Prop := st [652, 653, 657, 658, 659, 660] [40, 42, 43, 44] σ q
theorem s_freezes_L (n : Nat) (x : Int32) (c w : Nat) (hc : c ≤ 15) (hx : x.toInt = 92 + 10 * (c : Int)) (hw6 : w ≤ 6) : ∀ (k : Nat) (σ0 σ : ms_T) (v : Int32), fr [652, 653, 657, 658, 659, 660] [40, 42, 43, 44] σ0 σ → rC (ms_E σ 40) → (ms_E σ 40 3).toInt = (c : Int) → (ms_I σ 657).toInt = (w : Int) → 0 ≤ v.toInt → v.toInt ≤ 6 → 7 - v.toInt ≤ (k : Int) → ws (f_X12_freezes_L98 n k σ x v) (stF σ0) := by
  intro k
  induction k with
  | zero => intro σ0 σ v hf hC hz hw g0 g1 g2; omega
  | succ k ih =>
    intro σ0 σ v hf hC hz hw g0 g1 g2
    rw [f_X12_freezes_L98.eq_2, c3, c4]
    refine ws_le (fun _ => ?_) (fun _ => ?_)
    · have e1 : (ms_E σ 40 3 + 1).toInt = (c : Int) + 1 := by rw [iw_add, lt1]; omega
      refine ws_g (by decide) (by decide) (ws_g (by decide) (by decide) (ws_l (ws_g (by decide) (by decide) (ws_g (by decide) (by decide) (ws_l (ws_g (by decide) (by decide) (ws_s ?_)))))))
      exact ⟨fr_tr hf (fr_tr (fr_sE (by decide)) (fr_sE (by decide))), rC_sE (rC_sE hC ⟨fun _ => by omega, fun _ => by omega, fun _ => by omega, fun _ => by omega, fun _ _ _ => by omega, fun _ _ _ => by omega, fun _ _ _ => by omega, fun _ _ _ => by omega, fun _ _ _ => by omega⟩) (rc_f (by omega))⟩
    · have e1 : (x + 4).toInt = 96 + 10 * (c : Int) := by rw [iw_add, hx, t_4]; omega
      have e2 : (x + 4 + v).toInt = 96 + 10 * (c : Int) + v.toInt := by rw [iw_add, e1]; omega
      have ec := cl_n (i := x + 4 + v) (k := 96 + 10 * c + v.toInt.toNat) (by omega)
      refine ws_g g0 (by omega) (ws_g (by omega) (by omega) ?_)
      rw [ec]
      refine ws_l (ws_l (ih σ0 _ (v + 1) (fr_tr hf (fr_sE (by decide))) (rC_sE hC ⟨fun _ => by omega, fun _ => by omega, fun _ => by omega, fun _ => by omega, fun _ _ _ => by omega, fun _ _ _ => by omega, fun _ _ _ => by omega, fun _ _ _ => by omega, fun _ _ _ => by omega⟩) ?_ hw (by (try simp only [iw_add, iw_sub, iw_mul, t_m1, lt0, lt1, t_2, t_3, t_4, t_5, t_6, t_8, t_9, t_10, t_16, t_20, t_24, t_26, t_30, t_31, t_48, t_64, t_72, t_76, t_92, t_101, t_252, t_444, t_512, t_900, t_1980, t_65521, t_99999, t_mil]) <;> omega) (by (try simp only [iw_add, iw_sub, iw_mul, t_m1, lt0, lt1, t_2, t_3, t_4, t_5, t_6, t_8, t_9, t_10, t_16, t_20, t_24, t_26, t_30, t_31, t_48, t_64, t_72, t_76, t_92, t_101, t_252, t_444, t_512, t_900, t_1980, t_65521, t_99999, t_mil]) <;> omega) (by (try simp only [iw_add, iw_sub, iw_mul, t_m1, lt0, lt1, t_2, t_3, t_4, t_5, t_6, t_8, t_9, t_10, t_16, t_20, t_24, t_26, t_30, t_31, t_48, t_64, t_72, t_76, t_92, t_101, t_252, t_444, t_512, t_900, t_1980, t_65521, t_99999, t_mil]) <;> omega)))
      rw [mE_sE, if_neg (fun e => by omega)]
      exact hz
theorem s_freezes (n : Nat) (hn : 70000 ≤ n) (σ : ms_T) (hC : rC (ms_E σ 40)) (a : Int32) (h0 : 0 ≤ a.toInt) (h1 : a.toInt ≤ 3) : ws (f_X12_freezes n σ a) (stF σ) := by
  unfold f_X12_freezes
  rw [c3, c4]
  have h16 := hC.2.2.2.1
  have t16 := t_16
  refine ws_g (by decide) (by decide) (ws_e (fun _ => ws_c (s_refuse n σ _) (fun x τ h => ws_s ⟨fr_sb h.1 (by decide) (by decide), rC_fr hC h.1 (by decide)⟩)) (fun c => ws_g (by decide) (by decide) ?_))
  obtain ⟨C, hC3⟩ : ∃ C : Nat, (ms_E σ 40 3).toInt = (C : Int) := ⟨(ms_E σ 40 3).toInt.toNat, by omega⟩
  have e1 : ((10 : Int32) * ms_E σ 40 3).toInt = 10 * (C : Int) := by rw [iw_mul, t_10, hC3]; omega
  have e2 : ((92 : Int32) + 10 * ms_E σ 40 3).toInt = 92 + 10 * (C : Int) := by rw [iw_add, e1, t_92]; omega
  refine ws_l ?_
  generalize (92 : Int32) + 10 * ms_E σ 40 3 = x at e2 ⊢
  have hCl : C ≤ 15 := by omega
  have x1 : (x + 1).toInt = 93 + 10 * (C : Int) := by rw [iw_add, e2, lt1]; omega
  have x2 : (x + 2).toInt = 94 + 10 * (C : Int) := by rw [iw_add, e2, t_2]; omega
  have x3 : (x + 3).toInt = 95 + 10 * (C : Int) := by rw [iw_add, e2, t_3]; omega
  rw [cl_n (i := x) (k := 92 + 10 * C) (by omega), cl_n (i := x + 1) (k := 93 + 10 * C) (by omega), cl_n (i := x + 2) (k := 94 + 10 * C) (by omega), cl_n (i := x + 3) (k := 95 + 10 * C) (by omega)]
  refine ws_g (by omega) (by omega) (ws_ln (fun σ1 hs1 => ?_))
  have hC1 : rC (ms_E σ1 40) := by rw [hs1]; exact rC_sE hC ⟨fun _ => by omega, fun _ => by omega, fun _ => by omega, fun _ => by omega, fun _ _ _ => by omega, fun _ _ _ => by omega, fun _ _ _ => by omega, fun _ _ _ => by omega, fun _ _ _ => by omega⟩
  have f1 : fr [652, 653, 657, 658, 659, 660] [40, 42, 43, 44] σ σ1 := by rw [hs1]; exact fr_sE (by decide)
  have z1 : ms_E σ1 40 3 = ms_E σ 40 3 := by rw [hs1, mE_sE, if_neg (fun e => by omega)]
  refine ws_b (s_sizeOf hC1 a h0 h1) (fun r hr => ws_g (by omega) (by omega) (ws_ln (fun σ2 hs2 => ?_)))
  have hC2 : rC (ms_E σ2 40) := by rw [hs2]; exact rC_sE hC1 ⟨fun _ => by omega, fun _ => by omega, fun _ => by omega, fun _ => by omega, fun _ _ _ => by omega, fun _ _ _ => by omega, fun _ _ _ => by omega, fun _ _ _ => by omega, fun _ _ _ => by omega⟩
  have f2 : fr [652, 653, 657, 658, 659, 660] [40, 42, 43, 44] σ σ2 := by rw [hs2]; exact fr_tr f1 (fr_sE (by decide))
  have z2 : ms_E σ2 40 3 = ms_E σ 40 3 := by rw [hs2, mE_sE, if_neg (fun e => by omega), z1]
  refine ws_b (s_sizeOf hC2 a h0 h1) (fun r2 hr2 => ws_b (s_headOf n hn hC2 a r2 h0 h1 hr2.2.1 hr2.2.2) (fun hd _ => ws_g (by omega) (by omega) (ws_ln (fun σ3 hs3 => ?_))))
  have hC3' : rC (ms_E σ3 40) := by rw [hs3]; exact rC_sE hC2 ⟨fun _ => by omega, fun _ => by omega, fun _ => by omega, fun _ => by omega, fun _ _ _ => by omega, fun _ _ _ => by omega, fun _ _ _ => by omega, fun _ _ _ => by omega, fun _ _ _ => by omega⟩
  have f3 : fr [652, 653, 657, 658, 659, 660] [40, 42, 43, 44] σ σ3 := by rw [hs3]; exact fr_tr f2 (fr_sE (by decide))
  have z3 : ms_E σ3 40 3 = ms_E σ 40 3 := by rw [hs3, mE_sE, if_neg (fun e => by omega), z2]
  refine ws_g (by decide) (by decide) (ws_g (by omega) (by omega) (ws_ln (fun σ4 hs4 => ?_)))
  have hC4 : rC (ms_E σ4 40) := by rw [hs4]; exact rC_sE hC3' ⟨fun _ => by omega, fun _ => by omega, fun _ => by omega, fun _ => by omega, fun _ _ _ => by omega, fun _ _ _ => by omega, fun _ _ _ => by omega, fun _ _ _ => by omega, fun _ _ _ => by omega⟩
  have f4 : fr [652, 653, 657, 658, 659, 660] [40, 42, 43, 44] σ σ4 := by rw [hs4]; exact fr_tr f3 (fr_sE (by decide))
  have z4 : ms_E σ4 40 3 = ms_E σ 40 3 := by rw [hs4, mE_sE, if_neg (fun e => by omega), z3]
  refine ws_b (s_sizeOf hC4 a h0 h1) (fun r3 hr3 => ws_b (s_peaks6 n hn σ4 r3 hr3.2.1 hr3.2.2) (fun σ5 h5 => ?_))
  obtain ⟨w, hw, hl⟩ := h5
  have hC5 := rC_fr hC4 hw.1 (by decide)
  refine ws_b (s_fetches n hn hC5 hw (by omega) (by omega) a h0 h1) (fun σ6 h6 => ?_)
  have hC6 := rC_fr hC5 h6 (by decide)
  have f6 : fr [652, 653, 657, 658, 659, 660] [40, 42, 43, 44] σ σ6 := fr_tr f4 (fr_tr (fr_sb hw.1 (by decide) (by decide)) (fr_sb h6 (by decide) (by decide)))
  have z6 : (ms_E σ6 40 3).toInt = (C : Int) := by rw [h6.2 40 (by decide), hw.1.2 40 (by decide), z4, hC3]
  exact s_freezes_L n x C w hCl e2 hl n σ σ6 0 f6 hC6 z6 (by rw [h6.1 657 (by simp)]; exact hw.2.1) (by decide) (by decide) (by rw [lt0]; omega)
theorem s_freeze (n : Nat) (hn : 70000 ≤ n) (σ : ms_T) (hR : RI σ) (a1 : Int32) : ws (f_X12_freeze n σ a1) (PK σ) := by
  have L := lits
  have hC := hR.2
  have h4 := hC.1
  have hJ : ∀ w : Int32, (w = 0 → 0 ≤ a1.toInt ∧ a1.toInt ≤ 3) → ws (f_X12_freeze_J14 n σ a1 w) (PK σ) := by
    intro w hw
    unfold f_X12_freeze_J14
    refine ws_isP hR (fun e τ hτ hE hf => ?_)
    have := hw e
    exact ws_c (s_freezes n hn τ hτ.2 a1 (by omega) (by omega)) (fun x ρ hρ => ws_s (pk_st hτ hρ (by decide)))
  unfold f_X12_freeze
  repeat' (first
    | with_reducible refine ws_bo (s_isRecord (by assumption) _) (fun _ => ?_) (fun _ => ?_)
    | with_reducible refine ws_bo (s_isMark (by assumption) _) (fun _ => ?_) (fun _ => ?_)
    | with_reducible refine ws_bo (s_isIn _ _ _ _) (fun _ => ?_) (fun _ => ?_)
    | with_reducible refine ws_bo (s_isWatcher _ _) (fun _ => ?_) (fun _ => ?_)
    | with_reducible refine ws_bo (s_isThing _ _ _ _) (fun _ => ?_) (fun _ => ?_)
    | with_reducible refine ws_b (s_noSize (by assumption) _ _) (fun _ _ => ?_)
    | with_reducible refine ws_b (s_noEntry (by assumption) _ _ _) (fun _ _ => ?_)
    | with_reducible refine ws_b (s_sizeOf (by assumption) _ (by omega) (by omega)) (fun _ _ => ?_)
    | with_reducible refine ws_lt (fun _ => ?_) (fun _ => ?_)
    | with_reducible refine ws_le (fun _ => ?_) (fun _ => ?_)
    | with_reducible refine ws_ee (fun _ _ => ?_) (fun _ => ?_)
    | with_reducible refine ws_g (by decide) (by decide) ?_
    | with_reducible refine ws_g (by omega) (by omega) ?_)
  all_goals first
    | exact hJ _ (fun h => absurd h (by decide))
    | exact hJ _ (fun _ => by omega)
    | (refine hJ _ (fun h => ?_); rename_i q; have := q h; omega)
theorem s_trusts (n : Nat) {σ : ms_T} (hC : rC (ms_E σ 40)) (a m h : Int32) (h0 : 0 ≤ a.toInt) (h1 : a.toInt ≤ 3) (h2 : 0 ≤ m.toInt) (h3 : m.toInt ≤ 48) : ws (f_X12_trusts n σ a m h) (fun τ => fr [] [40] σ τ ∧ rC (ms_E τ 40)) := by
  unfold f_X12_trusts
  have e1 : ((76 : Int32) + 4 * a).toInt = 76 + 4 * a.toInt := by (try simp only [iw_add, iw_sub, iw_mul, t_m1, lt0, lt1, t_2, t_3, t_4, t_5, t_6, t_8, t_9, t_10, t_16, t_20, t_24, t_26, t_30, t_31, t_48, t_64, t_72, t_76, t_92, t_101, t_252, t_444, t_512, t_900, t_1980, t_65521, t_99999, t_mil]) <;> omega
  have e2 : ((76 : Int32) + 4 * a + 1).toInt = 77 + 4 * a.toInt := by rw [iw_add, e1, lt1]; omega
  rw [cl_n (i := (76 : Int32) + 4 * a) (k := 76 + 4 * a.toInt.toNat) (by omega), cl_n (i := (76 : Int32) + 4 * a + 1) (k := 77 + 4 * a.toInt.toNat) (by omega)]
  refine ws_g (by omega) (by omega) (ws_l (ws_g (by omega) (by omega) (ws_l (ws_s ⟨fr_tr (fr_sE (by decide)) (fr_sE (by decide)), rC_sE (rC_sE hC ⟨fun _ => by omega, fun _ => by omega, fun _ => by omega, fun _ => by omega, fun _ _ _ => by omega, fun _ _ _ => by omega, fun _ _ _ => by omega, fun _ _ _ => by omega, fun _ _ _ => by omega⟩) ⟨fun _ => by omega, fun _ => by omega, fun _ => by omega, fun _ => by omega, fun _ _ _ => by omega, fun _ _ _ => by omega, fun _ _ _ => by omega, fun _ _ _ => by omega, fun _ _ _ => by omega⟩⟩))))
theorem s_shows (n : Nat) (hn : 70000 ≤ n) (σ : ms_T) (hC : rC (ms_E σ 40)) (a1 a2 a3 : Int32) (h0 : 0 ≤ a1.toInt) (h1 : a1.toInt ≤ 3) (h2 : 0 ≤ a2.toInt) (h3 : a2.toInt ≤ 3) (h4 : 0 ≤ a3.toInt) (h5 : a3.toInt ≤ 48) : ws (f_X12_shows n σ a1 a2 a3) (stF σ) := by
  have e1 : ((76 : Int32) + 4 * a1).toInt = 76 + 4 * a1.toInt := by (try simp only [iw_add, iw_sub, iw_mul, t_m1, lt0, lt1, t_2, t_3, t_4, t_5, t_6, t_8, t_9, t_10, t_16, t_20, t_24, t_26, t_30, t_31, t_48, t_64, t_72, t_76, t_92, t_101, t_252, t_444, t_512, t_900, t_1980, t_65521, t_99999, t_mil]) <;> omega
  have e2 : ((76 : Int32) + 4 * a1 + 2).toInt = 78 + 4 * a1.toInt := by rw [iw_add, e1, t_2]; omega
  have e3 : ((76 : Int32) + 4 * a1 + 3).toInt = 79 + 4 * a1.toInt := by rw [iw_add, e1, t_3]; omega
  have q2 := cl_n (i := (76 : Int32) + 4 * a1 + 2) (k := 78 + 4 * a1.toInt.toNat) (by omega)
  have q3 := cl_n (i := (76 : Int32) + 4 * a1 + 3) (k := 79 + 4 * a1.toInt.toNat) (by omega)
  have hJ1 : ∀ (τ : ms_T) (x : Int32), fr [652, 653, 657, 658, 659, 660] [40, 42, 43, 44] σ τ → rC (ms_E τ 40) → ws (f_X12_shows_J117 n τ a1 x) (stF σ) := by
    intro τ x hf hc
    unfold f_X12_shows_J117
    refine ws_l (ws_g (by omega) (by omega) (ws_g (by omega) (by omega) (ws_l (ws_g (by decide) (by decide) (ws_g (by decide) (by decide) (ws_l (ws_s ?_)))))))
    rw [q3, c4]
    exact ⟨fr_tr hf (fr_tr (fr_sE (by decide)) (fr_sE (by decide))), rC_sE (rC_sE hc ⟨fun _ => by omega, fun _ => by omega, fun _ => by omega, fun _ => by omega, fun _ _ _ => by omega, fun _ _ _ => by omega, fun _ _ _ => by omega, fun _ _ _ => by omega, fun _ _ _ => by omega⟩) (rc_f (by omega))⟩
  have hJ2 : ∀ (τ : ms_T) (x : Int32), fr [652, 653, 657, 658, 659, 660] [40, 42, 43, 44] σ τ → rC (ms_E τ 40) → ws (f_X12_shows_J92 n τ a1 x) (stF σ) := by
    intro τ x hf hc
    unfold f_X12_shows_J92
    refine ws_i (fun _ => hJ1 τ x hf hc) (fun _ => ws_i (fun _ => hJ1 τ x hf hc) (fun _ => ws_g (by omega) (by omega) (ws_l ?_)))
    rw [q2]
    exact hJ1 _ x (fr_tr hf (fr_sE (by decide))) (rC_sE hc ⟨fun _ => by omega, fun _ => by omega, fun _ => by omega, fun _ => by omega, fun _ _ _ => by omega, fun _ _ _ => by omega, fun _ _ _ => by omega, fun _ _ _ => by omega, fun _ _ _ => by omega⟩)
  have hJ3 : ∀ (τ : ms_T) (x y z : Int32), fr [652, 653, 657, 658, 659, 660] [40, 42, 43, 44] σ τ → rC (ms_E τ 40) → ws (f_X12_shows_J71 n τ a1 a3 x y z) (stF σ) := by
    intro τ x y z hf hc
    unfold f_X12_shows_J71
    exact ws_i (fun _ => ws_i (fun _ => hJ2 τ _ hf hc) (fun _ => ws_b (s_trusts n hc a1 a3 y h0 h1 h4 h5) (fun υ hυ => hJ2 υ _ (fr_tr hf (fr_sb hυ.1 (by decide) (by decide))) hυ.2))) (fun _ => hJ2 τ _ hf hc)
  unfold f_X12_shows
  refine ws_b (s_trust hC a1 0 h0 h1 (by decide) (by decide)) (fun r hr => ws_b (s_headOf n hn hC a2 a3 h2 h3 h4 h5) (fun hd _ => ?_))
  have hr0 := hr rfl
  refine ws_le (fun c => ?_) (fun c => ws_b (s_sizeOf hC a2 h2 h3) (fun s hs => ws_le (fun g => ?_) (fun _ => hJ3 σ _ _ _ fr_rf hC)))
  · refine ws_b (s_trust hC a1 1 h0 h1 (by decide) (by decide)) (fun t _ => ws_c (s_whyByRecord n hn σ hC a2 r t a3 hd h2 h3 (by omega) c h5) (fun x τ hτ => ?_))
    exact hJ3 τ _ _ _ (fr_sb hτ (by decide) (by decide)) (rC_fr hC hτ (by decide))
  · refine ws_b (s_trust hC a1 1 h0 h1 (by decide) (by decide)) (fun t _ => ws_c (s_whyByRecord n hn σ hC a2 a3 hd r t h2 h3 h4 (by omega) (by omega)) (fun x τ hτ => ?_))
    exact hJ3 τ _ _ _ (fr_sb hτ (by decide) (by decide)) (rC_fr hC hτ (by decide))
theorem s_show (n : Nat) (hn : 70000 ≤ n) (σ : ms_T) (hR : RI σ) (a1 a2 a3 : Int32) : ws (f_X12_show n σ a1 a2 a3) (PK σ) := by
  have L := lits
  have hC := hR.2
  have h4 := hC.1
  have hJ : ∀ w : Int32, (w = 0 → 0 ≤ a1.toInt ∧ a1.toInt ≤ 3 ∧ 0 ≤ a2.toInt ∧ a2.toInt ≤ 3 ∧ 0 ≤ a3.toInt ∧ a3.toInt ≤ 48) → ws (f_X12_show_J42 n σ a1 a2 a3 w) (PK σ) := by
    intro w hw
    unfold f_X12_show_J42
    refine ws_isP hR (fun e τ hτ hE hf => ?_)
    have := hw e
    exact ws_c (s_shows n hn τ hτ.2 a1 a2 a3 (by omega) (by omega) (by omega) (by omega) (by omega) (by omega)) (fun x ρ hρ => ws_s (pk_st hτ hρ (by decide)))
  unfold f_X12_show
  repeat' (first
    | with_reducible refine ws_bo (s_isRecord (by assumption) _) (fun _ => ?_) (fun _ => ?_)
    | with_reducible refine ws_bo (s_isMark (by assumption) _) (fun _ => ?_) (fun _ => ?_)
    | with_reducible refine ws_bo (s_isIn _ _ _ _) (fun _ => ?_) (fun _ => ?_)
    | with_reducible refine ws_bo (s_isWatcher _ _) (fun _ => ?_) (fun _ => ?_)
    | with_reducible refine ws_bo (s_isThing _ _ _ _) (fun _ => ?_) (fun _ => ?_)
    | with_reducible refine ws_b (s_noSize (by assumption) _ _) (fun _ _ => ?_)
    | with_reducible refine ws_b (s_noEntry (by assumption) _ _ _) (fun _ _ => ?_)
    | with_reducible refine ws_b (s_sizeOf (by assumption) _ (by omega) (by omega)) (fun _ _ => ?_)
    | with_reducible refine ws_lt (fun _ => ?_) (fun _ => ?_)
    | with_reducible refine ws_le (fun _ => ?_) (fun _ => ?_)
    | with_reducible refine ws_ee (fun _ _ => ?_) (fun _ => ?_)
    | with_reducible refine ws_g (by decide) (by decide) ?_
    | with_reducible refine ws_g (by omega) (by omega) ?_)
  all_goals first
    | exact hJ _ (fun h => absurd h (by decide))
    | exact hJ _ (fun _ => by omega)
    | (refine hJ _ (fun h => ?_); rename_i q; have := q h; omega)
theorem s_meet (n : Nat) (hn : 70000 ≤ n) (σ : ms_T) (hR : RI σ) (a1 a2 a3 : Int32) : ws (f_X12_meet n σ a1 a2 a3) (PK σ) := by
  have L := lits
  have hC := hR.2
  have h4 := hC.1
  have hJ : ∀ w : Int32, (w = 0 → 0 ≤ a1.toInt ∧ a1.toInt ≤ 3 ∧ 0 ≤ a2.toInt ∧ a2.toInt ≤ 3 ∧ 0 ≤ a3.toInt ∧ a3.toInt ≤ 3) → ws (f_X12_meet_J28 n σ a1 a2 a3 w) (PK σ) := by
    intro w hw
    unfold f_X12_meet_J28
    refine ws_isP hR (fun e τ hτ hE hf => ?_)
    have H := hw e
    have hCτ := hτ.2
    have ea : ∀ y : Int32, 0 ≤ y.toInt → y.toInt ≤ 3 → ((76 : Int32) + 4 * y + 2).toInt = 78 + 4 * y.toInt := by
      intro y y0 y1
      have e1 : ((76 : Int32) + 4 * y).toInt = 76 + 4 * y.toInt := by (try simp only [iw_add, iw_sub, iw_mul, t_m1, lt0, lt1, t_2, t_3, t_4, t_5, t_6, t_8, t_9, t_10, t_16, t_20, t_24, t_26, t_30, t_31, t_48, t_64, t_72, t_76, t_92, t_101, t_252, t_444, t_512, t_900, t_1980, t_65521, t_99999, t_mil]) <;> omega
      rw [iw_add, e1, t_2]; omega
    have j196 : ∀ (ρ : ms_T) (x : Int32), fr [652, 653, 657, 658, 659, 660] [40, 42, 43, 44] τ ρ → rC (ms_E ρ 40) → ws (f_X12_meet_J196 n ρ x) (PK τ) := by
      intro ρ x hf hc
      unfold f_X12_meet_J196
      refine ws_g (by decide) (by decide) (ws_g (by decide) (by decide) (ws_l (ws_s (pk_st hτ (wI := [652, 653, 657, 658, 659, 660]) (wE := [40, 42, 43, 44]) ⟨fr_tr hf (fr_sE (by decide)), ?_⟩ (by decide)))))
      rw [c4]
      exact rC_sE hc (rc_f (by omega))
    have j155 : ∀ (ρ : ms_T) (x y z : Int32), 0 ≤ x.toInt → x.toInt ≤ 3 → 0 ≤ y.toInt → y.toInt ≤ 3 → fr [652, 653, 657, 658, 659, 660] [40, 42, 43, 44] τ ρ → rC (ms_E ρ 40) → ws (f_X12_meet_J155 n ρ x y z) (PK τ) := by
      intro ρ x y z x0 x1 y0 y1 hf hc
      have q1 := ea x x0 x1
      have q2 := ea y y0 y1
      unfold f_X12_meet_J155
      refine ws_i (fun _ => j196 ρ _ hf hc) (fun _ => ws_i (fun _ => j196 ρ _ hf hc) (fun _ => ws_g (by omega) (by omega) (ws_l (ws_g (by omega) (by omega) (ws_l ?_)))))
      rw [cl_n (i := (76 : Int32) + 4 * x + 2) (k := 78 + 4 * x.toInt.toNat) (by omega), cl_n (i := (76 : Int32) + 4 * y + 2) (k := 78 + 4 * y.toInt.toNat) (by omega)]
      exact j196 _ _ (fr_tr hf (fr_tr (fr_sE (by decide)) (fr_sE (by decide)))) (rC_sE (rC_sE hc ⟨fun _ => by omega, fun _ => by omega, fun _ => by omega, fun _ => by omega, fun _ _ _ => by omega, fun _ _ _ => by omega, fun _ _ _ => by omega, fun _ _ _ => by omega, fun _ _ _ => by omega⟩) ⟨fun _ => by omega, fun _ => by omega, fun _ => by omega, fun _ => by omega, fun _ _ _ => by omega, fun _ _ _ => by omega, fun _ _ _ => by omega, fun _ _ _ => by omega, fun _ _ _ => by omega⟩)
    have j133 : ∀ (ρ : ms_T) (x y m z : Int32), 0 ≤ x.toInt → x.toInt ≤ 3 → 0 ≤ y.toInt → y.toInt ≤ 3 → 0 ≤ m.toInt → m.toInt ≤ 48 → fr [652, 653, 657, 658, 659, 660] [40, 42, 43, 44] τ ρ → rC (ms_E ρ 40) → ws (f_X12_meet_J133 n ρ x y m z) (PK τ) := by
      intro ρ x y m z x0 x1 y0 y1 m0 m1 hf hc
      unfold f_X12_meet_J133
      exact ws_i (fun _ => ws_b (s_trust hc y 1 y0 y1 (by decide) (by decide)) (fun t _ => ws_b (s_trusts n hc x m t x0 x1 m0 m1) (fun υ hυ => j155 υ _ _ _ x0 x1 y0 y1 (fr_tr hf (fr_sb hυ.1 (by decide) (by decide))) hυ.2))) (fun _ => j155 ρ _ _ _ x0 x1 y0 y1 hf hc)
    have j80 : ∀ (x y : Int32), 0 ≤ x.toInt → x.toInt ≤ 3 → 0 ≤ y.toInt → y.toInt ≤ 3 → (∀ r s, f_X12_trust n τ x 0 = some r → f_X12_trust n τ y 0 = some s → r.toInt ≤ s.toInt) → ws (f_X12_meet_J80 n τ a3 x y) (PK τ) := by
      intro x y x0 x1 y0 y1 hle
      unfold f_X12_meet_J80
      obtain ⟨r, er, hr⟩ := s_trust (n := n) hCτ x 0 x0 x1 (by decide) (by decide)
      obtain ⟨s, es, hs⟩ := s_trust (n := n) hCτ y 0 y0 y1 (by decide) (by decide)
      have hrs := hle r s er es
      have hr0 := hr rfl
      have hs0 := hs rfl
      refine ws_b (S := fun q => q = s) ⟨s, es, rfl⟩ (fun _ g1 => ?_)
      subst g1
      refine ws_b (s_sizeOf hCτ a3 (by omega) (by omega)) (fun z hz => ws_le (fun c => ?_) (fun _ => j133 τ _ _ _ _ x0 x1 y0 y1 hs0.1 hs0.2 fr_rf hCτ))
      refine ws_b (S := fun q => q = r) ⟨r, er, rfl⟩ (fun _ g2 => ?_)
      subst g2
      refine ws_b (s_trust hCτ x 1 x0 x1 (by decide) (by decide)) (fun t _ => ws_b (s_trust hCτ y 1 y0 y1 (by decide) (by decide)) (fun u _ => ?_))
      refine ws_c (s_whyByRecord n hn τ hCτ a3 _ t _ u (by omega) (by omega) hr0.1 hrs hs0.2) (fun p ρ hρ => ?_)
      exact j133 ρ _ _ _ _ x0 x1 y0 y1 hs0.1 hs0.2 (fr_sb hρ (by decide) (by decide)) (rC_fr hCτ hρ (by decide))
    obtain ⟨r, er, hr⟩ := s_trust (n := n) hCτ a1 0 (by omega) (by omega) (by decide) (by decide)
    obtain ⟨s, es, hs⟩ := s_trust (n := n) hCτ a2 0 (by omega) (by omega) (by decide) (by decide)
    refine ws_b (S := fun q => q = r) ⟨r, er, rfl⟩ (fun _ g1 => ws_b (S := fun q => q = s) ⟨s, es, rfl⟩ (fun _ g2 => ?_))
    subst g1
    subst g2
    refine ws_lt (fun c => ?_) (fun c => ?_)
    · unfold f_X12_meet_J56 f_X12_meet_J68
      refine ws_i (fun _ => ws_i (fun _ => j80 a2 a1 (by omega) (by omega) (by omega) (by omega) (fun p q hp hq => ?_)) (fun g => absurd rfl g)) (fun g => absurd rfl g)
      rw [es] at hp; rw [er] at hq; cases hp; cases hq; omega
    · unfold f_X12_meet_J56 f_X12_meet_J68
      refine ws_i (fun g => absurd g (by decide)) (fun _ => ws_i (fun g => absurd g (by decide)) (fun _ => j80 a1 a2 (by omega) (by omega) (by omega) (by omega) (fun p q hp hq => ?_)))
      rw [er] at hp; rw [es] at hq; cases hp; cases hq; omega
  unfold f_X12_meet
  repeat' (first
    | with_reducible refine ws_bo (s_isRecord (by assumption) _) (fun _ => ?_) (fun _ => ?_)
    | with_reducible refine ws_bo (s_isMark (by assumption) _) (fun _ => ?_) (fun _ => ?_)
    | with_reducible refine ws_bo (s_isIn _ _ _ _) (fun _ => ?_) (fun _ => ?_)
    | with_reducible refine ws_bo (s_isWatcher _ _) (fun _ => ?_) (fun _ => ?_)
    | with_reducible refine ws_bo (s_isThing _ _ _ _) (fun _ => ?_) (fun _ => ?_)
    | with_reducible refine ws_b (s_noSize (by assumption) _ _) (fun _ _ => ?_)
    | with_reducible refine ws_b (s_noEntry (by assumption) _ _ _) (fun _ _ => ?_)
    | with_reducible refine ws_b (s_sizeOf (by assumption) _ (by omega) (by omega)) (fun _ _ => ?_)
    | with_reducible refine ws_lt (fun _ => ?_) (fun _ => ?_)
    | with_reducible refine ws_le (fun _ => ?_) (fun _ => ?_)
    | with_reducible refine ws_ee (fun _ _ => ?_) (fun _ => ?_)
    | with_reducible refine ws_g (by decide) (by decide) ?_
    | with_reducible refine ws_g (by omega) (by omega) ?_)
  all_goals first
    | exact hJ _ (fun h => absurd h (by decide))
    | exact hJ _ (fun _ => by omega)
    | (refine hJ _ (fun h => ?_); rename_i q; have := q h; omega)
theorem s_puts_L (n : Nat) (a : Int32) : ∀ (j k c : Nat) (σ0 σ : ms_T) (v : Int32), v.toInt = 8 * (j : Int) - 8 → j < k → fr [667, 653] [47] σ0 σ → (ms_I σ 667).toInt = (c : Int) → c + j ≤ 900 → ws (f_X12_puts_L3 n k σ a v) (fun τ => fr [667, 653] [47] σ0 τ ∧ (ms_I τ 667).toInt = ((c + j : Nat) : Int)) := by
  intro j
  induction j with
  | zero =>
    intro k c σ0 σ v hv hk hf hc hl
    obtain ⟨k, rfl⟩ : ∃ k', k = k' + 1 := ⟨k - 1, by omega⟩
    rw [f_X12_puts_L3.eq_2]
    exact ws_lt (fun _ => ws_s ⟨hf, hc⟩) (fun c => by rw [lt0] at c; omega)
  | succ j ih =>
    intro k c σ0 σ v hv hk hf hc hl
    obtain ⟨k, rfl⟩ : ∃ k', k = k' + 1 := ⟨k - 1, by omega⟩
    rw [f_X12_puts_L3.eq_2]
    have l0 := lt0
    have m8 : (-8 : Int32).toInt = -8 := by decide
    refine ws_lt (fun _ => by omega) (fun _ => ws_g (by omega) (by omega) (ws_l (ws_l (ws_l ?_))))
    generalize hu : v + (-8) = u
    have e1 : u.toInt = v.toInt - 8 := by
      have := ib_hi v
      rw [← hu, iw_add, m8]; omega
    clear hu
    have e2 : (ms_I σ 667 + 1).toInt = (c : Int) + 1 := by rw [iw_add, lt1]; omega
    refine ws_m (ih k (c + 1) σ0 _ u (by omega) (by omega) (fr_tr hf (fr_tr (fr_sE (by decide)) (fr_sI (by decide)))) (by rw [mI_sI, if_pos rfl, mI_sE, e2]; omega) (by omega)) (fun τ hτ => ⟨hτ.1, by rw [hτ.2]; omega⟩)
theorem s_puts (n : Nat) (hn : 70000 ≤ n) (a : Int32) {c : Nat} {σ0 σ : ms_T} (hf : fr [667, 653] [47] σ0 σ) (hc : (ms_I σ 667).toInt = (c : Int)) (hl : c + 4 ≤ 900) : ws (f_X12_puts n σ a) (fun τ => fr [667, 653] [47] σ0 τ ∧ (ms_I τ 667).toInt = ((c + 4 : Nat) : Int)) := by
  unfold f_X12_puts
  exact s_puts_L n a 4 n c σ0 σ 24 (by decide) (by omega) hf hc hl
theorem RI_667 {wE : List Nat} {σ τ : ms_T} (h : RI σ) (f : fr [667, 653] wE σ τ) (k : 40 ∉ wE) (h0 : 0 ≤ (ms_I τ 667).toInt) (h1 : (ms_I τ 667).toInt ≤ 900) : RI τ := by
  refine ⟨⟨?_, ⟨h0, h1⟩, ?_, ?_⟩, rC_fr h.2 f k⟩
  · rw [f.1 664 (by decide)]; exact h.1.1
  · rw [f.1 682 (by decide)]; exact h.1.2.2.1
  · rw [f.1 697 (by decide)]; exact h.1.2.2.2
theorem s_feed (n : Nat) (hn : 70000 ≤ n) (σ : ms_T) (hR : RI σ) (a1 a2 a3 a4 a5 : Int32) : ws (f_X12_feed n σ a1 a2 a3 a4 a5) (fun res => RI res.2 ∧ fd_M σ res) := by
  unfold f_X12_feed
  have h9 := hR.1.2.1
  have t9 := t_900
  obtain ⟨c, hc⟩ : ∃ c : Nat, (ms_I σ 667).toInt = (c : Int) := ⟨(ms_I σ 667).toInt.toNat, by omega⟩
  have e0 : ms_I (ms_sI σ 653 0) 667 = ms_I σ 667 := by rw [mI_sI, if_neg (by decide)]
  have f0 : fr [667, 653] [47] σ (ms_sI σ 653 0) := fr_sI (by decide)
  have e20 : (ms_I σ 667 + 20).toInt = (c : Int) + 20 := by rw [iw_add, t_20, hc]; omega
  refine ws_l ?_
  rw [e0]
  refine ws_le (fun g => ?_) (fun g => ws_s ⟨RI_667 hR f0 (by decide) (by rw [e0]; omega) (by rw [e0]; omega), Or.inl ⟨by omega, rfl, e0⟩⟩)
  refine ws_b (s_puts n hn a1 f0 (c := c) (by rw [e0]; exact hc) (by omega)) (fun t1 h1 => ?_)
  refine ws_b (s_puts n hn a2 h1.1 h1.2 (by omega)) (fun t2 h2 => ?_)
  refine ws_b (s_puts n hn a3 h2.1 h2.2 (by omega)) (fun t3 h3 => ?_)
  refine ws_b (s_puts n hn a4 h3.1 h3.2 (by omega)) (fun t4 h4 => ?_)
  refine ws_b (s_puts n hn a5 h4.1 h4.2 (by omega)) (fun t5 h5 => ?_)
  have h6 := h5.2
  have hRI : RI t5 := RI_667 hR h5.1 (by decide) (by omega) (by omega)
  refine ws_s ⟨hRI, Or.inr ⟨by omega, rfl, ?_⟩⟩
  show (ms_I t5 667).toInt = _
  omega
