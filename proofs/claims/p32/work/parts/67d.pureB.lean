/-! ===== what stores: type, add, fork, freeze, show, meet, feed ===== -/
theorem RI_664 {τ : ms_T} {v : Int32} (h : RI τ) (h0 : 0 ≤ v.toInt) (h1 : v.toInt ≤ 8) : RI (ms_sI τ 664 v) :=
  ⟨⟨by rw [mI_sI, if_pos rfl]; exact ⟨h0, h1⟩, by rw [mI_sI, if_neg (by decide)]; exact h.1.2.1, by rw [mI_sI, if_neg (by decide)]; exact h.1.2.2.1, by rw [mI_sI, if_neg (by decide)]; exact h.1.2.2.2⟩, h.2⟩
theorem s_type_C (n : Nat) (m : Int32) (h0 : 0 ≤ m.toInt) (h1 : m.toInt ≤ 8) : ∀ (k : Nat) (τ : ms_T) (v : Int32), RI τ → 0 ≤ v.toInt → v.toInt ≤ 8 → 9 - v.toInt ≤ (k : Int) → ws (f_X12_type_L102 n k τ m v) (PK τ) := by
  intro k
  induction k with
  | zero => intro τ v hR g0 g1 g2; omega
  | succ k ih =>
    intro τ v hR g0 g1 g2
    rw [f_X12_type_L102.eq_2]
    refine ws_le (fun _ => ws_l (ws_s (PKs (RI_664 hR h0 h1) (by rw [mI_sI, if_neg (by decide)]) _))) (fun _ => ?_)
    have hf : fr [] [45] τ (ms_sE τ 45 v.toNatClampNeg (ms_E τ 46 v.toNatClampNeg)) := fr_sE (by decide)
    exact ws_g g0 (by omega) (ws_g g0 (by omega) (ws_pk hR hf (by decide) (ws_l (ws_l (ih _ (v + 1) (RI_fr hR hf (by decide)) (by (try simp only [iw_add, iw_sub, iw_mul, t_m1, lt0, lt1, t_2, t_3, t_4, t_5, t_6, t_8, t_9, t_10, t_16, t_20, t_24, t_26, t_30, t_31, t_48, t_64, t_72, t_76, t_92, t_101, t_252, t_444, t_512, t_900, t_1980, t_65521, t_99999, t_mil]) <;> omega) (by (try simp only [iw_add, iw_sub, iw_mul, t_m1, lt0, lt1, t_2, t_3, t_4, t_5, t_6, t_8, t_9, t_10, t_16, t_20, t_24, t_26, t_30, t_31, t_48, t_64, t_72, t_76, t_92, t_101, t_252, t_444, t_512, t_900, t_1980, t_65521, t_99999, t_mil]) <;> omega) (by (try simp only [iw_add, iw_sub, iw_mul, t_m1, lt0, lt1, t_2, t_3, t_4, t_5, t_6, t_8, t_9, t_10, t_16, t_20, t_24, t_26, t_30, t_31, t_48, t_64, t_72, t_76, t_92, t_101, t_252, t_444, t_512, t_900, t_1980, t_65521, t_99999, t_mil]) <;> omega))))))
theorem s_type_L (n : Nat) (hn : 70000 ≤ n) (a1 a2 : Int32) : ∀ (k : Nat) (τ : ms_T) (x y v : Int32), RI τ → 0 ≤ x.toInt → x.toInt ≤ v.toInt → v.toInt ≤ 8 → 9 - v.toInt ≤ (k : Int) → ws (f_X12_type_L13 n k τ a1 a2 x y v) (PK τ) := by
  intro k
  induction k with
  | zero => intro τ x y v hR g0 g1 g2 g3; omega
  | succ k ih =>
    intro τ x y v hR g0 g1 g2 g3
    have L := lits
    rw [f_X12_type_L13.eq_2]
    have h9 : ws (f_X12_type_J99 n τ x) (PK τ) := by
      unfold f_X12_type_J99
      exact s_type_C n x g0 (by omega) n τ 0 hR (by decide) (by decide) (by rw [lt0]; omega)
    have hJ : v.toInt < 8 → ∀ w, ws (f_X12_type_J37 n (f_X12_type_L13 n k) τ a1 a2 x v w) (PK τ) := by
      intro hv w
      have h69 : ∀ (l u : Int32), ws (f_X12_type_J69 n (f_X12_type_L13 n k) τ a1 a2 x v l u) (PK τ) := by
        intro l u
        unfold f_X12_type_J69 f_X12_type_J91
        have hf : fr [] [46] τ (ms_sE τ 46 v.toNatClampNeg l) := fr_sE (by decide)
        have hR1 := RI_fr hR hf (by decide)
        refine ws_g (by omega) (by omega) (ws_pk hR hf (by decide) (ws_l (ws_i (fun _ => ws_l (ws_l ?_)) (fun _ => ws_l (ws_l ?_)))))
        · exact ih _ (x + 0) _ (v + 1) hR1 (by (try simp only [iw_add, iw_sub, iw_mul, t_m1, lt0, lt1, t_2, t_3, t_4, t_5, t_6, t_8, t_9, t_10, t_16, t_20, t_24, t_26, t_30, t_31, t_48, t_64, t_72, t_76, t_92, t_101, t_252, t_444, t_512, t_900, t_1980, t_65521, t_99999, t_mil]) <;> omega) (by (try simp only [iw_add, iw_sub, iw_mul, t_m1, lt0, lt1, t_2, t_3, t_4, t_5, t_6, t_8, t_9, t_10, t_16, t_20, t_24, t_26, t_30, t_31, t_48, t_64, t_72, t_76, t_92, t_101, t_252, t_444, t_512, t_900, t_1980, t_65521, t_99999, t_mil]) <;> omega) (by (try simp only [iw_add, iw_sub, iw_mul, t_m1, lt0, lt1, t_2, t_3, t_4, t_5, t_6, t_8, t_9, t_10, t_16, t_20, t_24, t_26, t_30, t_31, t_48, t_64, t_72, t_76, t_92, t_101, t_252, t_444, t_512, t_900, t_1980, t_65521, t_99999, t_mil]) <;> omega) (by (try simp only [iw_add, iw_sub, iw_mul, t_m1, lt0, lt1, t_2, t_3, t_4, t_5, t_6, t_8, t_9, t_10, t_16, t_20, t_24, t_26, t_30, t_31, t_48, t_64, t_72, t_76, t_92, t_101, t_252, t_444, t_512, t_900, t_1980, t_65521, t_99999, t_mil]) <;> omega)
        · exact ih _ (x + 1) _ (v + 1) hR1 (by (try simp only [iw_add, iw_sub, iw_mul, t_m1, lt0, lt1, t_2, t_3, t_4, t_5, t_6, t_8, t_9, t_10, t_16, t_20, t_24, t_26, t_30, t_31, t_48, t_64, t_72, t_76, t_92, t_101, t_252, t_444, t_512, t_900, t_1980, t_65521, t_99999, t_mil]) <;> omega) (by (try simp only [iw_add, iw_sub, iw_mul, t_m1, lt0, lt1, t_2, t_3, t_4, t_5, t_6, t_8, t_9, t_10, t_16, t_20, t_24, t_26, t_30, t_31, t_48, t_64, t_72, t_76, t_92, t_101, t_252, t_444, t_512, t_900, t_1980, t_65521, t_99999, t_mil]) <;> omega) (by (try simp only [iw_add, iw_sub, iw_mul, t_m1, lt0, lt1, t_2, t_3, t_4, t_5, t_6, t_8, t_9, t_10, t_16, t_20, t_24, t_26, t_30, t_31, t_48, t_64, t_72, t_76, t_92, t_101, t_252, t_444, t_512, t_900, t_1980, t_65521, t_99999, t_mil]) <;> omega) (by (try simp only [iw_add, iw_sub, iw_mul, t_m1, lt0, lt1, t_2, t_3, t_4, t_5, t_6, t_8, t_9, t_10, t_16, t_20, t_24, t_26, t_30, t_31, t_48, t_64, t_72, t_76, t_92, t_101, t_252, t_444, t_512, t_900, t_1980, t_65521, t_99999, t_mil]) <;> omega)
      unfold f_X12_type_J37
      exact ws_ln (fun l _ => ws_i (fun _ => ws_i (fun _ => h69 _ _) (fun _ => h69 _ _)) (fun _ => ws_s (PKr hR _)))
    exact ws_le (fun _ => h9) (fun _ => ws_i (fun _ => h9) (fun _ => ws_i (fun _ => hJ (by omega) _) (fun _ => hJ (by omega) _)))
theorem s_type (n : Nat) (hn : 70000 ≤ n) (σ : ms_T) (hR : RI σ) (a1 a2 : Int32) : ws (f_X12_type n σ a1 a2) (PK σ) := by
  unfold f_X12_type
  have hf : fr [653] [] σ (ms_sI σ 653 0) := fr_sI (by decide)
  exact ws_pk hR hf (by decide) (ws_l (s_type_L n hn a1 a2 n _ 0 1 0 (RI_fr hR hf (by decide)) (by decide) (by decide) (by decide) (by rw [lt0]; omega)))
theorem s_hand_L (n : Nat) : ∀ (k : Nat) (σ0 σ : ms_T) (v : Int32), fr [] [46] σ0 σ → (ms_I σ0 664).toInt ≤ 8 → 0 ≤ v.toInt → v.toInt ≤ 8 → 9 - v.toInt ≤ (k : Int) → ws (f_X12_hand_L2 n k σ v) (fun τ => fr [665] [46] σ0 τ ∧ ms_I τ 665 = ms_I σ0 664) := by
  intro k
  induction k with
  | zero => intro σ0 σ v hf h8 g0 g1 g2; omega
  | succ k ih =>
    intro σ0 σ v hf h8 g0 g1 g2
    rw [f_X12_hand_L2.eq_2]
    have e4 : ms_I σ 664 = ms_I σ0 664 := hf.1 664 (by simp)
    rw [e4]
    refine ws_le (fun _ => ws_l (ws_s ⟨fr_tr (fr_sb hf (by decide) (by decide)) (fr_sI (by decide)), by rw [mI_sI, if_pos rfl]⟩)) (fun _ => ?_)
    exact ws_g g0 (by omega) (ws_g g0 (by omega) (ws_l (ws_l (ih σ0 _ (v + 1) (fr_tr hf (fr_sE (by decide))) h8 (by (try simp only [iw_add, iw_sub, iw_mul, t_m1, lt0, lt1, t_2, t_3, t_4, t_5, t_6, t_8, t_9, t_10, t_16, t_20, t_24, t_26, t_30, t_31, t_48, t_64, t_72, t_76, t_92, t_101, t_252, t_444, t_512, t_900, t_1980, t_65521, t_99999, t_mil]) <;> omega) (by (try simp only [iw_add, iw_sub, iw_mul, t_m1, lt0, lt1, t_2, t_3, t_4, t_5, t_6, t_8, t_9, t_10, t_16, t_20, t_24, t_26, t_30, t_31, t_48, t_64, t_72, t_76, t_92, t_101, t_252, t_444, t_512, t_900, t_1980, t_65521, t_99999, t_mil]) <;> omega) (by (try simp only [iw_add, iw_sub, iw_mul, t_m1, lt0, lt1, t_2, t_3, t_4, t_5, t_6, t_8, t_9, t_10, t_16, t_20, t_24, t_26, t_30, t_31, t_48, t_64, t_72, t_76, t_92, t_101, t_252, t_444, t_512, t_900, t_1980, t_65521, t_99999, t_mil]) <;> omega)))))
theorem s_hand (n : Nat) (hn : 70000 ≤ n) (σ : ms_T) (h : (ms_I σ 664).toInt ≤ 8) : ws (f_X12_hand n σ) (fun τ => fr [665] [46] σ τ ∧ ms_I τ 665 = ms_I σ 664) := by
  unfold f_X12_hand
  exact s_hand_L n n σ σ 0 fr_rf h (by decide) (by decide) (by rw [lt0]; omega)
/-- what stores into the cells leaves -/
def st (wI wE : List Nat) (σ : ms_T) (q : Int32 × ms_T) : Prop := fr wI wE σ q.2 ∧ rC (ms_E q.2 40)
theorem s_adds_L (n : Nat) (a q : Int32) (h0 : 0 ≤ a.toInt) (h1 : a.toInt ≤ 3) (h2 : 0 ≤ q.toInt) (h3 : q.toInt ≤ 191) : ∀ (k : Nat) (σ0 σ : ms_T) (v : Int32), fr [652, 653] [40] σ0 σ → rC (ms_E σ 40) → (ms_E σ 40 (72 + a.toInt.toNat)).toInt ≤ 47 → (ms_I σ0 665).toInt ≤ 8 → 0 ≤ v.toInt → v.toInt ≤ 8 → 9 - v.toInt ≤ (k : Int) → ws (f_X12_adds_L43 n k σ a q v) (st [652, 653] [40] σ0) := by
  intro k
  induction k with
  | zero => intro σ0 σ v hf hC hz h8 g0 g1 g2; omega
  | succ k ih =>
    intro σ0 σ v hf hC hz h8 g0 g1 g2
    rw [f_X12_adds_L43.eq_2]
    have e5 : ms_I σ 665 = ms_I σ0 665 := hf.1 665 (by decide)
    rw [e5]
    have e7 : ((72 : Int32) + a).toInt = 72 + a.toInt := by (try simp only [iw_add, iw_sub, iw_mul, t_m1, lt0, lt1, t_2, t_3, t_4, t_5, t_6, t_8, t_9, t_10, t_16, t_20, t_24, t_26, t_30, t_31, t_48, t_64, t_72, t_76, t_92, t_101, t_252, t_444, t_512, t_900, t_1980, t_65521, t_99999, t_mil]) <;> omega
    have ec := cl_n (i := (72 : Int32) + a) (k := 72 + a.toInt.toNat) (by omega)
    have hr := hC.2.2.2.2.1 a.toInt.toNat (by omega)
    refine ws_le (fun _ => ?_) (fun _ => ?_)
    · have e8 : (ms_E σ 40 (72 + a.toInt.toNat) + 1).toInt = (ms_E σ 40 (72 + a.toInt.toNat)).toInt + 1 := by rw [iw_add, lt1]; omega
      refine ws_ln (fun x hx => ?_)
      subst hx
      refine ws_g (by omega) (by omega) (ws_g (by omega) (by omega) ?_)
      rw [ec, c4]
      have hC1 : rC (ms_E (ms_sE σ 40 (72 + a.toInt.toNat) (ms_E σ 40 (72 + a.toInt.toNat) + 1)) 40) := rC_sE hC ⟨fun _ => by omega, fun _ => by omega, fun _ => by omega, fun _ => by omega, fun _ _ _ => by omega, fun _ _ _ => by omega, fun _ _ _ => by omega, fun _ _ _ => by omega, fun _ _ _ => by omega⟩
      refine ws_l (ws_g (by decide) (by decide) (ws_g (by decide) (by decide) (ws_l ?_)))
      have hC2 := rC_sE (j := 4) (v := ms_E (ms_sE σ 40 (72 + a.toInt.toNat) (ms_E σ 40 (72 + a.toInt.toNat) + 1)) 40 4 + 1) hC1 (rc_f (by omega))
      exact ws_b (s_sizeOf hC2 a h0 h1) (fun _ _ => ws_s ⟨fr_tr hf (fr_tr (fr_sE (by decide)) (fr_sE (by decide))), hC2⟩)
    · have e8 : ((8 : Int32) * q).toInt = 8 * q.toInt := by (try simp only [iw_add, iw_sub, iw_mul, t_m1, lt0, lt1, t_2, t_3, t_4, t_5, t_6, t_8, t_9, t_10, t_16, t_20, t_24, t_26, t_30, t_31, t_48, t_64, t_72, t_76, t_92, t_101, t_252, t_444, t_512, t_900, t_1980, t_65521, t_99999, t_mil]) <;> omega
      have e9 : ((444 : Int32) + 8 * q).toInt = 444 + 8 * q.toInt := by rw [iw_add, e8, t_444]; omega
      have e10 : ((444 : Int32) + 8 * q + v).toInt = 444 + 8 * q.toInt + v.toInt := by rw [iw_add, e9]; omega
      have ec2 := cl_n (i := (444 : Int32) + 8 * q + v) (k := (444 + 8 * q.toInt + v.toInt).toNat) (by omega)
      refine ws_g g0 (by omega) (ws_g (by omega) (by omega) ?_)
      rw [ec2]
      refine ws_l (ws_l (ih σ0 _ (v + 1) (fr_tr hf (fr_sE (by decide))) (rC_sE hC (rc_f (by omega))) ?_ h8 (by (try simp only [iw_add, iw_sub, iw_mul, t_m1, lt0, lt1, t_2, t_3, t_4, t_5, t_6, t_8, t_9, t_10, t_16, t_20, t_24, t_26, t_30, t_31, t_48, t_64, t_72, t_76, t_92, t_101, t_252, t_444, t_512, t_900, t_1980, t_65521, t_99999, t_mil]) <;> omega) (by (try simp only [iw_add, iw_sub, iw_mul, t_m1, lt0, lt1, t_2, t_3, t_4, t_5, t_6, t_8, t_9, t_10, t_16, t_20, t_24, t_26, t_30, t_31, t_48, t_64, t_72, t_76, t_92, t_101, t_252, t_444, t_512, t_900, t_1980, t_65521, t_99999, t_mil]) <;> omega) (by (try simp only [iw_add, iw_sub, iw_mul, t_m1, lt0, lt1, t_2, t_3, t_4, t_5, t_6, t_8, t_9, t_10, t_16, t_20, t_24, t_26, t_30, t_31, t_48, t_64, t_72, t_76, t_92, t_101, t_252, t_444, t_512, t_900, t_1980, t_65521, t_99999, t_mil]) <;> omega)))
      rw [mE_sE, if_neg (fun e => by omega)]
      exact hz
theorem s_adds (n : Nat) (hn : 70000 ≤ n) (σ : ms_T) (hC : rC (ms_E σ 40)) (h50 : 0 ≤ (ms_I σ 665).toInt) (h58 : (ms_I σ 665).toInt ≤ 8) (a : Int32) (h0 : 0 ≤ a.toInt) (h1 : a.toInt ≤ 3) : ws (f_X12_adds n σ a) (st [652, 653] [40] σ) := by
  unfold f_X12_adds
  refine ws_b (s_sizeOf hC a h0 h1) (fun r hr => ws_e (fun _ => ws_c (s_refuse n σ _) (fun x τ h => ws_s ⟨fr_sb h.1 (by decide) (by decide), rC_fr hC h.1 (by decide)⟩)) (fun c => ws_b (s_sizeOf hC a h0 h1) (fun s hs => ?_)))
  rw [t_48, hr.1, ← hs.1] at c
  have e1 : ((48 : Int32) * a).toInt = 48 * a.toInt := by (try simp only [iw_add, iw_sub, iw_mul, t_m1, lt0, lt1, t_2, t_3, t_4, t_5, t_6, t_8, t_9, t_10, t_16, t_20, t_24, t_26, t_30, t_31, t_48, t_64, t_72, t_76, t_92, t_101, t_252, t_444, t_512, t_900, t_1980, t_65521, t_99999, t_mil]) <;> omega
  have e2 : ((48 : Int32) * a + s).toInt = 48 * a.toInt + s.toInt := by rw [iw_add, e1]; omega
  have e3 : ((252 : Int32) + (48 * a + s)).toInt = 252 + 48 * a.toInt + s.toInt := by rw [iw_add, e2, t_252]; omega
  have ec := cl_n (i := (252 : Int32) + (48 * a + s)) (k := (252 + 48 * a.toInt + s.toInt).toNat) (by omega)
  refine ws_ln (fun x hx => ?_)
  subst hx
  refine ws_g (by omega) (by omega) ?_
  rw [ec]
  refine ws_l (s_adds_L n a _ h0 h1 (by omega) (by omega) n σ _ 0 (fr_sE (by decide)) (rC_sE hC ⟨fun _ => by omega, fun _ => by omega, fun _ => by omega, fun _ => by omega, fun _ _ _ => by omega, fun _ _ _ => by omega, fun _ _ _ => by omega, fun _ _ _ => by omega, fun _ _ _ => by omega⟩) ?_ h58 (by decide) (by decide) (by rw [lt0]; omega))
  rw [mE_sE, if_neg (fun e => by omega), ← hs.1]
  omega
theorem RI_st {wI wE : List Nat} {σ τ : ms_T} (h : RI σ) (f : fr wI wE σ τ) (k : fk wI [] = true) (hC : rC (ms_E τ 40)) : RI τ := by
  simp only [fk, Bool.and_eq_true] at k
  obtain ⟨⟨⟨⟨k1, k2⟩, k3⟩, k4⟩, k5⟩ := k
  have e1 := f.1 664 (by simpa using k1)
  have e2 := f.1 667 (by simpa using k2)
  have e3 := f.1 682 (by simpa using k3)
  have e4 := f.1 697 (by simpa using k4)
  refine ⟨?_, hC⟩
  unfold rI
  rw [e1, e2, e3, e4]
  exact h.1
theorem pk_st {wI wE : List Nat} {σ : ms_T} {q : Int32 × ms_T} (h : RI σ) (f : st wI wE σ q) (k : fk wI [] = true) : PK σ q := by
  refine ⟨RI_st h f.1 k f.2, f.1.1 667 ?_⟩
  simp only [fk, Bool.and_eq_true] at k
  simpa using k.1.1.1.2
theorem s_add (n : Nat) (hn : 70000 ≤ n) (σ : ms_T) (hR : RI σ) (a1 : Int32) : ws (f_X12_add n σ a1) (PK σ) := by
  have L := lits
  have hC := hR.2
  have h4 := hC.1
  have hJ : ∀ w : Int32, (w = 0 → 0 ≤ a1.toInt ∧ a1.toInt ≤ 3) → ws (f_X12_add_J14 n σ a1 w) (PK σ) := by
    intro w hw
    unfold f_X12_add_J14
    refine ws_isP hR (fun e τ hτ hE hf => ?_)
    have := hw e
    have h8 := hτ.1.1
    refine ws_b (s_hand n hn τ h8.2) (fun υ hυ => ?_)
    have hυR := RI_fr hτ hυ.1 (by decide)
    exact ws_pk hτ hυ.1 (by decide) (ws_c (s_adds n hn υ hυR.2 (by rw [hυ.2]; omega) (by rw [hυ.2]; omega) a1 (by omega) (by omega)) (fun x ρ hρ => ws_s (pk_st hυR hρ (by decide))))
  unfold f_X12_add
  repeat' (first
    | with_reducible refine ws_bo (s_isRecord (by assumption) _) (fun _ => ?_) (fun _ => ?_)
    | with_reducible refine ws_bo (s_isMark (by assumption) _) (fun _ => ?_) (fun _ => ?_)
    | with_reducible refine ws_bo (s_isIn _ _ _ _) (fun _ => ?_) (fun _ => ?_)
    | with_reducible refine ws_bo (s_isWatcher _ _) (fun _ => ?_) (fun _ => ?_)
    | with_reducible refine ws_bo (s_isThing _ _ _ _) (fun _ => ?_) (fun _ => ?_)
    | with_reducible refine ws_b (s_noSize (by assumption) _ _) (fun _ _ => ?_)
    | with_reducible refine ws_b (s_noEntry (by assumption) _ _ _) (fun _ _ => ?_)
    | with_reducible refine ws_b (s_sizeOf (by assumption) _ (by omega) (by omega)) (fun _ _ => ?_)
    | with_reducible refine ws_lt (fun _ => ?_) (fun _ => ?_)
    | with_reducible refine ws_le (fun _ => ?_) (fun _ => ?_)
    | with_reducible refine ws_ee (fun _ _ => ?_) (fun _ => ?_)
    | with_reducible refine ws_g (by decide) (by decide) ?_
    | with_reducible refine ws_g (by omega) (by omega) ?_)
  all_goals first
    | exact hJ _ (fun h => absurd h (by decide))
    | exact hJ _ (fun _ => by omega)
    | (refine hJ _ (fun h => ?_); rename_i q; have := q h; omega)
/-! forks -/
theorem s_forks_L (n : Nat) (hn : 70000 ≤ n) (a m x : Int32) (h0 : 0 ≤ a.toInt) (h1 : a.toInt ≤ 3) (h2 : 0 ≤ m.toInt) (h3 : m.toInt ≤ 48) (h4 : 0 ≤ x.toInt) (h5 : x.toInt ≤ 3) : ∀ (k : Nat) (σ0 σ : ms_T) (v : Int32), fr [652, 653] [40] σ0 σ → rC (ms_E σ 40) → (ms_E σ 40 0).toInt ≤ 3 → 0 ≤ v.toInt → v.toInt ≤ 48 → 49 - v.toInt ≤ (k : Int) → ws (f_X12_forks_L41 n k σ a m x v) (fun q => st [652, 653] [40] σ0 q ∧ q.1 = x) := by
  intro k
  induction k with
  | zero => intro σ0 σ v hf hC hz g0 g1 g2; omega
  | succ k ih =>
    intro σ0 σ v hf hC hz g0 g1 g2
    have hL : v.toInt < 48 → ∀ (j : Nat) (τ : ms_T) (u : Int32), fr [652, 653] [40] σ0 τ → rC (ms_E τ 40) → (ms_E τ 40 0).toInt ≤ 3 → 0 ≤ u.toInt → u.toInt ≤ 8 → 9 - u.toInt ≤ (j : Int) → ws (f_X12_forks_L82 n (f_X12_forks_L41 n k) j τ a m x v u) (fun q => st [652, 653] [40] σ0 q ∧ q.1 = x) := by
      intro hv j
      induction j with
      | zero => intro τ u f1 f2 f3 p0 p1 p2; omega
      | succ j ih2 =>
        intro τ u f1 f2 f3 p0 p1 p2
        have t8 := t_8
        rw [f_X12_forks_L82.eq_2]
        have ea : ∀ y : Int32, 0 ≤ y.toInt → y.toInt ≤ 3 → u.toInt ≤ 7 → ((444 : Int32) + 8 * (48 * y + v) + u).toInt = 444 + 384 * y.toInt + 8 * v.toInt + u.toInt := by
          intro y y0 y1 u7
          have e1 : ((48 : Int32) * y).toInt = 48 * y.toInt := by (try simp only [iw_add, iw_sub, iw_mul, t_m1, lt0, lt1, t_2, t_3, t_4, t_5, t_6, t_8, t_9, t_10, t_16, t_20, t_24, t_26, t_30, t_31, t_48, t_64, t_72, t_76, t_92, t_101, t_252, t_444, t_512, t_900, t_1980, t_65521, t_99999, t_mil]) <;> omega
          have e2 : ((48 : Int32) * y + v).toInt = 48 * y.toInt + v.toInt := by rw [iw_add, e1]; omega
          have e4 : ((8 : Int32) * (48 * y + v)).toInt = 384 * y.toInt + 8 * v.toInt := by rw [iw_mul, e2, t_8]; omega
          have e5 : ((444 : Int32) + 8 * (48 * y + v)).toInt = 444 + 384 * y.toInt + 8 * v.toInt := by rw [iw_add, e4, t_444]; omega
          rw [iw_add, e5]; omega
        refine ws_le (fun _ => ws_l (ih σ0 τ (v + 1) f1 f2 f3 (by (try simp only [iw_add, iw_sub, iw_mul, t_m1, lt0, lt1, t_2, t_3, t_4, t_5, t_6, t_8, t_9, t_10, t_16, t_20, t_24, t_26, t_30, t_31, t_48, t_64, t_72, t_76, t_92, t_101, t_252, t_444, t_512, t_900, t_1980, t_65521, t_99999, t_mil]) <;> omega) (by (try simp only [iw_add, iw_sub, iw_mul, t_m1, lt0, lt1, t_2, t_3, t_4, t_5, t_6, t_8, t_9, t_10, t_16, t_20, t_24, t_26, t_30, t_31, t_48, t_64, t_72, t_76, t_92, t_101, t_252, t_444, t_512, t_900, t_1980, t_65521, t_99999, t_mil]) <;> omega) (by (try simp only [iw_add, iw_sub, iw_mul, t_m1, lt0, lt1, t_2, t_3, t_4, t_5, t_6, t_8, t_9, t_10, t_16, t_20, t_24, t_26, t_30, t_31, t_48, t_64, t_72, t_76, t_92, t_101, t_252, t_444, t_512, t_900, t_1980, t_65521, t_99999, t_mil]) <;> omega))) (fun _ => ?_)
        have q1 := ea a h0 h1 (by omega)
        have q2 := ea x h4 h5 (by omega)
        have ec := cl_n (i := (444 : Int32) + 8 * (48 * x + v) + u) (k := (444 + 384 * x.toInt + 8 * v.toInt + u.toInt).toNat) (by omega)
        refine ws_g (by omega) (by omega) (ws_g (by omega) (by omega) ?_)
        rw [ec]
        refine ws_l (ws_l (ih2 _ (u + 1) (fr_tr f1 (fr_sE (by decide))) (rC_sE f2 (rc_f (by omega))) ?_ (by (try simp only [iw_add, iw_sub, iw_mul, t_m1, lt0, lt1, t_2, t_3, t_4, t_5, t_6, t_8, t_9, t_10, t_16, t_20, t_24, t_26, t_30, t_31, t_48, t_64, t_72, t_76, t_92, t_101, t_252, t_444, t_512, t_900, t_1980, t_65521, t_99999, t_mil]) <;> omega) (by (try simp only [iw_add, iw_sub, iw_mul, t_m1, lt0, lt1, t_2, t_3, t_4, t_5, t_6, t_8, t_9, t_10, t_16, t_20, t_24, t_26, t_30, t_31, t_48, t_64, t_72, t_76, t_92, t_101, t_252, t_444, t_512, t_900, t_1980, t_65521, t_99999, t_mil]) <;> omega) (by (try simp only [iw_add, iw_sub, iw_mul, t_m1, lt0, lt1, t_2, t_3, t_4, t_5, t_6, t_8, t_9, t_10, t_16, t_20, t_24, t_26, t_30, t_31, t_48, t_64, t_72, t_76, t_92, t_101, t_252, t_444, t_512, t_900, t_1980, t_65521, t_99999, t_mil]) <;> omega)))
        rw [mE_sE, if_neg (fun e => by omega)]
        exact f3
    rw [f_X12_forks_L41.eq_2]
    have hc0 := hC.1
    refine ws_le (fun _ => ?_) (fun _ => ?_)
    · have e7 : ((72 : Int32) + x).toInt = 72 + x.toInt := by (try simp only [iw_add, iw_sub, iw_mul, t_m1, lt0, lt1, t_2, t_3, t_4, t_5, t_6, t_8, t_9, t_10, t_16, t_20, t_24, t_26, t_30, t_31, t_48, t_64, t_72, t_76, t_92, t_101, t_252, t_444, t_512, t_900, t_1980, t_65521, t_99999, t_mil]) <;> omega
      have ec := cl_n (i := (72 : Int32) + x) (k := 72 + x.toInt.toNat) (by omega)
      refine ws_g (by omega) (by omega) ?_
      rw [ec, c0, c4]
      have hC1 : rC (ms_E (ms_sE σ 40 (72 + x.toInt.toNat) m) 40) := rC_sE hC ⟨fun _ => by omega, fun _ => by omega, fun _ => by omega, fun _ => by omega, fun _ _ _ => by omega, fun _ _ _ => by omega, fun _ _ _ => by omega, fun _ _ _ => by omega, fun _ _ _ => by omega⟩
      have e0 : ms_E (ms_sE σ 40 (72 + x.toInt.toNat) m) 40 0 = ms_E σ 40 0 := by rw [mE_sE, if_neg (fun e => by omega)]
      have e1 : (ms_E σ 40 0 + 1).toInt = (ms_E σ 40 0).toInt + 1 := by (try simp only [iw_add, iw_sub, iw_mul, t_m1, lt0, lt1, t_2, t_3, t_4, t_5, t_6, t_8, t_9, t_10, t_16, t_20, t_24, t_26, t_30, t_31, t_48, t_64, t_72, t_76, t_92, t_101, t_252, t_444, t_512, t_900, t_1980, t_65521, t_99999, t_mil]) <;> omega
      refine ws_l (ws_g (by decide) (by decide) (ws_g (by decide) (by decide) (ws_l (ws_g (by decide) (by decide) (ws_g (by decide) (by decide) (ws_l (ws_s ?_)))))))
      refine ⟨⟨fr_tr hf (fr_tr (fr_sE (by decide)) (fr_tr (fr_sE (by decide)) (fr_sE (by decide)))), rC_sE (rC_sE hC1 ?_) (rc_f (by omega))⟩, rfl⟩
      rw [e0]
      exact ⟨fun _ => by omega, fun _ => by omega, fun _ => by omega, fun _ => by omega, fun _ _ _ => by omega, fun _ _ _ => by omega, fun _ _ _ => by omega, fun _ _ _ => by omega, fun _ _ _ => by omega⟩
    · have ea : ∀ y : Int32, 0 ≤ y.toInt → y.toInt ≤ 3 → ((252 : Int32) + 48 * y + v).toInt = 252 + 48 * y.toInt + v.toInt := by
        intro y y0 y1
        have e1 : ((48 : Int32) * y).toInt = 48 * y.toInt := by (try simp only [iw_add, iw_sub, iw_mul, t_m1, lt0, lt1, t_2, t_3, t_4, t_5, t_6, t_8, t_9, t_10, t_16, t_20, t_24, t_26, t_30, t_31, t_48, t_64, t_72, t_76, t_92, t_101, t_252, t_444, t_512, t_900, t_1980, t_65521, t_99999, t_mil]) <;> omega
        have e2 : ((252 : Int32) + 48 * y).toInt = 252 + 48 * y.toInt := by rw [iw_add, e1, t_252]; omega
        rw [iw_add, e2]; omega
      have q1 := ea a h0 h1
      have q2 := ea x h4 h5
      have hv := hC.2.2.2.2.2.2.2.2 (48 * a.toInt + v.toInt).toNat (by omega)
      rw [← cl_n (i := (252 : Int32) + 48 * a + v) (k := 252 + (48 * a.toInt + v.toInt).toNat) (by omega)] at hv
      have ec := cl_n (i := (252 : Int32) + 48 * x + v) (k := (252 + 48 * x.toInt + v.toInt).toNat) (by omega)
      refine ws_g (by omega) (by omega) (ws_g (by omega) (by omega) ?_)
      rw [ec]
      refine ws_l (hL (by omega) n _ 0 (fr_tr hf (fr_sE (by decide))) (rC_sE hC ⟨fun _ => by omega, fun _ => by omega, fun _ => by omega, fun _ => by omega, fun _ _ _ => by omega, fun _ _ _ => by omega, fun _ _ _ => by omega, fun _ _ _ => by omega, fun _ _ _ => by omega⟩) ?_ (by decide) (by decide) (by rw [lt0]; omega))
      rw [mE_sE, if_neg (fun e => by omega)]
      exact hz
theorem s_forks (n : Nat) (hn : 70000 ≤ n) (σ : ms_T) (hC : rC (ms_E σ 40)) (a m : Int32) (h0 : 0 ≤ a.toInt) (h1 : a.toInt ≤ 3) (h2 : 0 ≤ m.toInt) : ws (f_X12_forks n σ a m) (fun q => st [652, 653] [40] σ q ∧ ((ms_E σ 40 0).toInt ≤ 3 → m.toInt ≤ (ms_E σ 40 (72 + a.toInt.toNat)).toInt → 0 ≤ q.1.toInt ∧ q.1.toInt ≤ 3)) := by
  unfold f_X12_forks
  rw [c0]
  have hc0 := hC.1
  have t4 := t_4
  refine ws_b (s_sizeOf hC a h0 h1) (fun r hr => ws_le (fun c => ws_g (by decide) (by decide) (ws_e (fun e => ?_) (fun e => ws_g (by decide) (by decide) (ws_l ?_)))) (fun c => ?_))
  · have := il_eq e
    exact ws_c (s_refuse n σ _) (fun x τ h => ws_s ⟨⟨fr_sb h.1 (by decide) (by decide), rC_fr hC h.1 (by decide)⟩, fun q => by omega⟩)
  · refine ws_m (s_forks_L n hn a m (ms_E σ 40 0) h0 h1 h2 (by omega) (by omega) (by omega) n σ σ 0 fr_rf hC (by omega) (by decide) (by decide) (by rw [lt0]; omega)) (fun q hq => ⟨hq.1, fun _ _ => ?_⟩)
    rw [hq.2]
    omega
  · exact ws_c (s_refuse n σ _) (fun x τ h => ws_s ⟨⟨fr_sb h.1 (by decide) (by decide), rC_fr hC h.1 (by decide)⟩, fun _ q => by rw [← hr.1] at q; omega⟩)
theorem s_fork (n : Nat) (hn : 70000 ≤ n) (σ : ms_T) (hR : RI σ) (a1 a2 : Int32) : ws (f_X12_fork n σ a1 a2) (PK σ) := by
  have L := lits
  have hC := hR.2
  have h4 := hC.1
  have hJ : ∀ w : Int32, (w = 0 → 0 ≤ a1.toInt ∧ a1.toInt ≤ 3 ∧ 0 ≤ a2.toInt) → ws (f_X12_fork_J22 n σ a1 a2 w) (PK σ) := by
    intro w hw
    unfold f_X12_fork_J22
    refine ws_isP hR (fun e τ hτ hE hf => ?_)
    have := hw e
    exact ws_c (s_forks n hn τ hτ.2 a1 a2 (by omega) (by omega) (by omega)) (fun x ρ hρ => ws_s (pk_st hτ hρ.1 (by decide)))
  unfold f_X12_fork
  repeat' (first
    | with_reducible refine ws_bo (s_isRecord (by assumption) _) (fun _ => ?_) (fun _ => ?_)
    | with_reducible refine ws_bo (s_isMark (by assumption) _) (fun _ => ?_) (fun _ => ?_)
    | with_reducible refine ws_bo (s_isIn _ _ _ _) (fun _ => ?_) (fun _ => ?_)
    | with_reducible refine ws_bo (s_isWatcher _ _) (fun _ => ?_) (fun _ => ?_)
    | with_reducible refine ws_bo (s_isThing _ _ _ _) (fun _ => ?_) (fun _ => ?_)
    | with_reducible refine ws_b (s_noSize (by assumption) _ _) (fun _ _ => ?_)
    | with_reducible refine ws_b (s_noEntry (by assumption) _ _ _) (fun _ _ => ?_)
    | with_reducible refine ws_b (s_sizeOf (by assumption) _ (by omega) (by omega)) (fun _ _ => ?_)
    | with_reducible refine ws_lt (fun _ => ?_) (fun _ => ?_)
    | with_reducible refine ws_le (fun _ => ?_) (fun _ => ?_)
    | with_reducible refine ws_ee (fun _ _ => ?_) (fun _ => ?_)
    | with_reducible refine ws_g (by decide) (by decide) ?_
    | with_reducible refine ws_g (by omega) (by omega) ?_)
  all_goals first
    | exact hJ _ (fun h => absurd h (by decide))
    | exact hJ _ (fun _ => by omega)
    | (refine hJ _ (fun h => ?_); rename_i q; have := q h; omega)
