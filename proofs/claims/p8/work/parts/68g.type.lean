/-! ===== type: what it answers ===== -/
theorem and31 (z : Int32) : 0 ≤ (z &&& 31).toInt ∧ (z &&& 31).toInt < 32 := by
  have h1 := n_and z 31
  have h2 : (31 : Int32).toBitVec.toNat = 31 := by decide
  have h3 : (z &&& 31).toBitVec.toNat ≤ 31 := by rw [h1, h2]; exact Nat.and_le_right
  have h4 : (z &&& 31).toInt = ((z &&& 31).toBitVec.toNat : Int) := by
    show BitVec.toInt _ = _
    rw [BitVec.toInt_eq_toNat_cond, if_pos (by omega)]
  omega
def ty_l (a b v : Int32) : Int32 := if (6 : Int32) ≤ v then ((b.toUInt32 >>> (((5 : Int32) * (v - (6 : Int32))).toUInt32 &&& Int32.toUInt32 31)).toInt32 &&& (31 : Int32)) else ((a.toUInt32 >>> (((5 : Int32) * v).toUInt32 &&& Int32.toUInt32 31)).toInt32 &&& (31 : Int32))
def ty_s (a b : Int32) : Nat → Int32 → Int32
  | 0, v => v
  | m + 1, v => if ty_l a b v = 0 then v else if ty_l a b v ≤ 26 then ty_s a b m (v + 1) else -1
theorem ty_l0 (a b v : Int32) : 0 ≤ (ty_l a b v).toInt := by
  unfold ty_l
  split
  · exact (and31 _).1
  · exact (and31 _).1
theorem ty_v (v : Int32) (h0 : 0 ≤ v.toInt) (h1 : v.toInt < 8) : v - v / (6 : Int32) * (6 : Int32) = if (6 : Int32) ≤ v then v - (6 : Int32) else v := by
  have h : ∀ j : Nat, j < 8 → Int32.ofNat j - Int32.ofNat j / (6 : Int32) * (6 : Int32) = if (6 : Int32) ≤ Int32.ofNat j then Int32.ofNat j - (6 : Int32) else Int32.ofNat j := by decide
  have e : v = Int32.ofNat v.toInt.toNat := i_ofN (by omega)
  rw [e]
  exact h _ (by omega)
theorem v_type_C (n : Nat) (m : Int32) : ∀ (k : Nat) (τ : ms_T) (v : Int32), pr (f_X12_type_L102 n k τ m v) (fun res => res.1 = m) := by
  intro k
  induction k with
  | zero => intro τ v; rw [f_X12_type_L102.eq_1]; exact pr_0
  | succ k ih =>
    intro τ v
    rw [f_X12_type_L102.eq_2]
    exact pr_i (fun _ => pr_l (pr_s rfl)) (fun _ => pr_g (fun _ _ => pr_g (fun _ _ => pr_l (pr_l (ih _ _)))))
theorem v_type_L (n : Nat) (a b : Int32) : ∀ (k : Nat) (τ : ms_T) (x y v : Int32), 0 ≤ v.toInt → v.toInt ≤ 8 → (y = 0 ∨ (y = 1 ∧ x = v)) → pr (f_X12_type_L13 n k τ a b x y v) (fun res => res.1 = if y = 0 then x else ty_s a b (8 - v.toInt).toNat v) := by
  intro k
  induction k with
  | zero => intro τ x y v g0 g1 hy; rw [f_X12_type_L13.eq_1]; exact pr_0
  | succ k ih =>
    intro τ x y v g0 g1 hy
    have L := lits
    rw [f_X12_type_L13.eq_2]
    have h9 : pr (f_X12_type_J99 n τ x) (fun res => res.1 = x) := by
      unfold f_X12_type_J99
      exact v_type_C n x n τ 0
    rcases hy with hy | ⟨hy, hx⟩
    · refine pr_m (P := fun res => res.1 = x) ?_ (fun r e => by rw [e, if_pos hy])
      exact pr_le (fun _ => h9) (fun _ => pr_i (fun _ => h9) (fun e => absurd hy e))
    · subst hy; subst hx
      refine pr_m (P := fun res => res.1 = ty_s a b (8 - x.toInt).toNat x) ?_ (fun r e => by rw [e, if_neg (by decide)])
      refine pr_le (fun h8 => ?_) (fun h8 => pr_i (fun e => absurd e (by decide)) (fun _ => ?_))
      · rw [show (8 - x.toInt).toNat = 0 by omega]
        exact h9
      · have hq : (8 - x.toInt).toNat = (8 - (x + 1).toInt).toNat + 1 := by (try simp only [iw_add, iw_sub, iw_mul, t_m1, lt0, lt1, t_2, t_3, t_4, t_5, t_6, t_8, t_9, t_10, t_16, t_20, t_24, t_26, t_30, t_31, t_48, t_64, t_72, t_76, t_92, t_101, t_252, t_444, t_512, t_900, t_1980, t_65521, t_99999, t_mil]) <;> omega
        have hJ : ∀ w, (((w).toUInt32 >>> ((((5 : Int32) * (x - x / (6 : Int32) * (6 : Int32)))).toUInt32 &&& Int32.toUInt32 31)).toInt32 &&& (31 : Int32)) = ty_l a b x → pr (f_X12_type_J37 n (f_X12_type_L13 n k) τ a b x x w) (fun res => res.1 = ty_s a b (8 - x.toInt).toNat x) := by
          intro w hw
          unfold f_X12_type_J37
          rw [hw]
          have h0 := ty_l0 a b x
          rw [hq]
          refine pr_l (pr_le (fun h26 => pr_le (fun hz => ?_) (fun hz => ?_)) (fun h26 => pr_s ?_))
          · have hz2 : ty_l a b x = 0 := Int32.toInt_inj.mp (by rw [lt0]; omega)
            unfold f_X12_type_J69 f_X12_type_J91
            refine pr_g (fun _ _ => pr_l (pr_i (fun _ => pr_l (pr_l ?_)) (fun e => absurd rfl e)))
            refine pr_m (ih _ _ _ _ (by (try simp only [iw_add, iw_sub, iw_mul, t_m1, lt0, lt1, t_2, t_3, t_4, t_5, t_6, t_8, t_9, t_10, t_16, t_20, t_24, t_26, t_30, t_31, t_48, t_64, t_72, t_76, t_92, t_101, t_252, t_444, t_512, t_900, t_1980, t_65521, t_99999, t_mil]) <;> omega) (by (try simp only [iw_add, iw_sub, iw_mul, t_m1, lt0, lt1, t_2, t_3, t_4, t_5, t_6, t_8, t_9, t_10, t_16, t_20, t_24, t_26, t_30, t_31, t_48, t_64, t_72, t_76, t_92, t_101, t_252, t_444, t_512, t_900, t_1980, t_65521, t_99999, t_mil]) <;> omega) (Or.inl rfl)) (fun r e => ?_)
            rw [e, if_pos rfl, ty_s, if_pos hz2]
            exact Int32.toInt_inj.mp (by (try simp only [iw_add, iw_sub, iw_mul, t_m1, lt0, lt1, t_2, t_3, t_4, t_5, t_6, t_8, t_9, t_10, t_16, t_20, t_24, t_26, t_30, t_31, t_48, t_64, t_72, t_76, t_92, t_101, t_252, t_444, t_512, t_900, t_1980, t_65521, t_99999, t_mil]) <;> omega)
          · have hz2 : ¬ ty_l a b x = 0 := fun e => by rw [e, lt0] at hz; omega
            unfold f_X12_type_J69 f_X12_type_J91
            refine pr_g (fun _ _ => pr_l (pr_i (fun e => absurd e (by decide)) (fun _ => pr_l (pr_l ?_))))
            refine pr_m (ih _ _ _ _ (by (try simp only [iw_add, iw_sub, iw_mul, t_m1, lt0, lt1, t_2, t_3, t_4, t_5, t_6, t_8, t_9, t_10, t_16, t_20, t_24, t_26, t_30, t_31, t_48, t_64, t_72, t_76, t_92, t_101, t_252, t_444, t_512, t_900, t_1980, t_65521, t_99999, t_mil]) <;> omega) (by (try simp only [iw_add, iw_sub, iw_mul, t_m1, lt0, lt1, t_2, t_3, t_4, t_5, t_6, t_8, t_9, t_10, t_16, t_20, t_24, t_26, t_30, t_31, t_48, t_64, t_72, t_76, t_92, t_101, t_252, t_444, t_512, t_900, t_1980, t_65521, t_99999, t_mil]) <;> omega) (Or.inr ⟨rfl, rfl⟩)) (fun r e => ?_)
            rw [e, if_neg (by decide), ty_s, if_neg hz2, if_pos (Int32.le_iff_toInt_le.mpr h26)]
          · rw [ty_s, if_neg (fun e => by rw [e] at h26; revert h26; decide), if_neg (fun e => by have := il_le e; omega)]
        refine pr_le (fun h6 => hJ _ ?_) (fun h6 => hJ _ ?_)
        · rw [ty_v x g0 (by omega), if_pos (Int32.le_iff_toInt_le.mpr h6)]
          unfold ty_l
          rw [if_pos (Int32.le_iff_toInt_le.mpr h6)]
        · have h7 : ¬ (6 : Int32) ≤ x := fun e => by have := il_le e; omega
          rw [ty_v x g0 (by omega), if_neg h7]
          unfold ty_l
          rw [if_neg h7]
theorem v_type (n : Nat) (σ : ms_T) (a b : Int32) : pr (f_X12_type n σ a b) (fun res => res.1 = ty_s a b 8 0) := by
  unfold f_X12_type
  refine pr_l (pr_m (v_type_L n a b n _ 0 1 0 (by decide) (by decide) (Or.inr ⟨rfl, rfl⟩)) (fun r e => ?_))
  rw [e, if_neg (by decide)]
  rfl
/-! of the class -/
theorem k_put9 (n : Nat) (α : hp_T) (b : Nat) (v : Int32) (h0 : 0 ≤ (hp_I α 501 b).toInt) (h1 : (hp_I α 501 b).toInt < 8) : ws (f_X9_put n α b v) (fun β => hp_I β 501 b = hp_I α 501 b + 1 ∧ hp_R β = hp_R α) := by
  have L := lits
  unfold f_X9_put
  refine ws_l (ws_lt (fun _ => by omega) (fun _ => ws_l (ws_l (ws_le (fun _ => by omega) (fun _ => ws_l (ws_l (ws_g h0 h1 (ws_l (ws_l (ws_l (ws_s ⟨?_, rfl⟩)))))))))))
  rw [hI_sI, if_pos ⟨rfl, rfl⟩]
  rfl
theorem k_type_L (n : Nat) (a0 : Nat) (a b : Int32) : ∀ (k : Nat) (α : hp_T) (v : Int32), 0 ≤ v.toInt → v.toInt ≤ 8 → hp_I α 501 (hp_R α 607 a0) = v → 9 - v.toInt ≤ (k : Int) → ws (f_X11_type_L9 n a0 k α a b v) (fun res => res.1 = ty_s a b (8 - v.toInt).toNat v) := by
  intro k
  induction k with
  | zero => intro α v g0 g1 hv g2; omega
  | succ k ih =>
    intro α v g0 g1 hv g2
    have L := lits
    rw [f_X11_type_L9.eq_2]
    have h7 : ws (f_X11_type_J77 n a0 α) (fun res => res.1 = v) := by
      unfold f_X11_type_J77
      refine ws_l (ws_l (ws_l (ws_l (ws_l (ws_l (ws_s ?_))))))
      rw [hR_sR, if_neg (fun h => absurd h.1 (by decide)), hR_sR, if_pos ⟨rfl, rfl⟩]
      exact hv
    refine ws_le (fun h8 => ?_) (fun h8 => ?_)
    · rw [show (8 - v.toInt).toNat = 0 by omega]
      exact h7
    · have hq : (8 - v.toInt).toNat = (8 - (v + 1).toInt).toNat + 1 := by (try simp only [iw_add, iw_sub, iw_mul, t_m1, lt0, lt1, t_2, t_3, t_4, t_5, t_6, t_8, t_9, t_10, t_16, t_20, t_24, t_26, t_30, t_31, t_48, t_64, t_72, t_76, t_92, t_101, t_252, t_444, t_512, t_900, t_1980, t_65521, t_99999, t_mil]) <;> omega
      have hJ : ∀ w, w = ty_l a b v → ws (f_X11_type_J43 n a0 (f_X11_type_L9 n a0 k) α a b v w) (fun res => res.1 = ty_s a b (8 - v.toInt).toNat v) := by
        intro w hw
        subst hw
        unfold f_X11_type_J43
        rw [hq, ty_s]
        refine ws_i (fun hz => ?_) (fun hz => ?_)
        · rw [if_pos hz]; exact h7
        · rw [if_neg hz]
          refine ws_i (fun h26 => ?_) (fun h26 => ?_)
          · rw [if_pos h26]
            refine ws_l (ws_b (k_put9 n α _ _ (by rw [hv]; exact g0) (by rw [hv]; omega)) (fun β hβ => ws_l (ih β (v + 1) (by (try simp only [iw_add, iw_sub, iw_mul, t_m1, lt0, lt1, t_2, t_3, t_4, t_5, t_6, t_8, t_9, t_10, t_16, t_20, t_24, t_26, t_30, t_31, t_48, t_64, t_72, t_76, t_92, t_101, t_252, t_444, t_512, t_900, t_1980, t_65521, t_99999, t_mil]) <;> omega) (by (try simp only [iw_add, iw_sub, iw_mul, t_m1, lt0, lt1, t_2, t_3, t_4, t_5, t_6, t_8, t_9, t_10, t_16, t_20, t_24, t_26, t_30, t_31, t_48, t_64, t_72, t_76, t_92, t_101, t_252, t_444, t_512, t_900, t_1980, t_65521, t_99999, t_mil]) <;> omega) ?_ (by (try simp only [iw_add, iw_sub, iw_mul, t_m1, lt0, lt1, t_2, t_3, t_4, t_5, t_6, t_8, t_9, t_10, t_16, t_20, t_24, t_26, t_30, t_31, t_48, t_64, t_72, t_76, t_92, t_101, t_252, t_444, t_512, t_900, t_1980, t_65521, t_99999, t_mil]) <;> omega))))
            rw [hβ.2, hβ.1, hv]
          · rw [if_neg h26]
            exact ws_s rfl
      refine ws_le (fun h6 => hJ _ ?_) (fun h6 => hJ _ ?_)
      · unfold ty_l
        rw [if_pos (Int32.le_iff_toInt_le.mpr h6)]
      · unfold ty_l
        rw [if_neg (fun e => by have := il_le e; omega)]
theorem k_type (n : Nat) (hn : 70000 ≤ n) (α : hp_T) (a0 : Nat) (a b : Int32) : ws (f_X11_type n α a0 a b) (fun res => res.1 = ty_s a b 8 0) := by
  unfold f_X11_type f_X9_clear
  refine ws_l (ws_b (ws_l (ws_s (P := fun β => β = hp_sI α 501 (hp_R α 607 a0) 0) rfl)) (fun β hβ => ?_))
  subst hβ
  refine ws_m (k_type_L n a0 a b n _ 0 (by decide) (by decide) ?_ (by rw [lt0]; omega)) (fun r e => e)
  rw [hR_sI, hI_sI, if_pos ⟨rfl, rfl⟩]
