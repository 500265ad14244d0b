section JN7_0
/-! ===== tell ===== -/
def p10 (i : Nat) : Int := ((10 ^ i : Nat) : Int)
theorem p10_s (i : Nat) : p10 (i + 1) = 10 * p10 i := by unfold p10; rw [Nat.pow_succ]; omega
theorem p10_p (i : Nat) : 1 ≤ p10 i := by
  have := Nat.one_le_pow i 10 (by decide)
  unfold p10; omega
theorem p10_m {i j : Nat} (h : i ≤ j) : p10 i ≤ p10 j := by
  have := Nat.pow_le_pow_right (n := 10) (by decide) h
  unfold p10; omega
/-- what telling changes -/
def tl (σ0 σ : ms_T) (c : Nat) : Prop := fr [657, 697] [42, 43, 44, 59] σ0 σ ∧ (ms_I σ 697).toInt = (c : Int)
theorem s_tells (n : Nat) {σ0 σ : ms_T} {c : Nat} (h : tl σ0 σ c) (hc : c < 900) (x : Int32) : ws (f_X12_tells n σ x) (fun τ => tl σ0 τ (c + 1) ∧ ms_I τ 657 = ms_I σ 657) := by
  obtain ⟨hf, hi⟩ := h
  unfold f_X12_tells
  have e1 : (ms_I σ 697 + 1).toInt = (c : Int) + 1 := by rw [iw_add, lt1]; omega
  refine ws_g (by omega) (by omega) (ws_l (ws_l (ws_s ⟨⟨fr_tr hf (fr_tr (fr_sE (by decide)) (fr_sI (by decide))), ?_⟩, ?_⟩)))
  · rw [mI_sI, if_pos rfl, mI_sE, e1]; omega
  · rw [mI_sI, if_neg (by decide), mI_sE]
theorem s_tn18 (n : Nat) (a : Int32) : ∀ (i k c : Nat) (σ0 σ : ms_T) (v : Int32), v.toInt = p10 i → i + 1 < k → tl σ0 σ c → c + i + 1 ≤ 900 → ws (f_X12_tellsNumber_L18 n k σ a v) (fun τ => tl σ0 τ (c + i + 1) ∧ ms_I τ 657 = ms_I σ 657) := by
  intro i
  induction i with
  | zero =>
    intro k c σ0 σ v hv hk ht hc
    have hp : p10 0 = 1 := by decide
    obtain ⟨k, rfl⟩ : ∃ k', k = k' + 1 := ⟨k - 1, by omega⟩
    rw [f_X12_tellsNumber_L18.eq_2]
    refine ws_le (fun g => by rw [lt0] at g; omega) (fun _ => ws_n (fun q => by have := il_eq q; rw [lt0] at this; omega) (ws_b (s_tells n ht (by omega) _) (fun τ hτ => ws_l ?_)))
    obtain ⟨k, rfl⟩ : ∃ k', k = k' + 1 := ⟨k - 1, by omega⟩
    have e1 : (v / 10).toInt = 0 := by rw [ii_div (by omega) (by decide), hv, hp, t_10]; decide
    rw [f_X12_tellsNumber_L18.eq_2]
    exact ws_le (fun _ => ws_s hτ) (fun g => by rw [lt0] at g; omega)
  | succ i ih =>
    intro k c σ0 σ v hv hk ht hc
    have hp := p10_p i
    rw [p10_s] at hv
    obtain ⟨k, rfl⟩ : ∃ k', k = k' + 1 := ⟨k - 1, by omega⟩
    rw [f_X12_tellsNumber_L18.eq_2]
    refine ws_le (fun g => by rw [lt0] at g; omega) (fun _ => ws_n (fun q => by have := il_eq q; rw [lt0] at this; omega) (ws_b (s_tells n ht (by omega) _) (fun τ hτ => ws_l ?_)))
    have e1 : (v / 10).toInt = p10 i := by rw [ii_div (by omega) (by decide), hv, t_10]; omega
    refine ws_m (ih k (c + 1) σ0 τ (v / 10) e1 (by omega) hτ.1 (by omega)) (fun υ hυ => ⟨?_, hυ.2.trans hτ.2⟩)
    rw [show c + (i + 1) + 1 = c + 1 + i + 1 by omega]
    exact hυ.1
theorem s_tn2 (n : Nat) (hn : 70000 ≤ n) (a : Int32) : ∀ (k i c : Nat) (σ0 σ : ms_T) (v : Int32), v.toInt = p10 i → i ≤ 9 → (i = 0 ∨ 0 ≤ a.toInt) → 10 < k + i → tl σ0 σ c → c + 10 ≤ 900 → ws (f_X12_tellsNumber_L2 n k σ a v) (fun τ => (∃ c', tl σ0 τ c' ∧ c' ≤ c + 10) ∧ ms_I τ 657 = ms_I σ 657) := by
  intro k
  induction k with
  | zero => intro i c σ0 σ v hv hi ha hk ht hc; omega
  | succ k ih =>
    intro i c σ0 σ v hv hi ha hk ht hc
    have hp := p10_p i
    rw [f_X12_tellsNumber_L2.eq_2]
    have ba := ib_hi a
    refine ws_n (fun q => by have := il_eq q; rw [lt0] at this; omega) (ws_le (fun _ => ?_) (fun g => ws_l ?_))
    · exact ws_m (s_tn18 n a i n c σ0 σ v hv (by omega) ht (by omega)) (fun τ hτ => ⟨⟨_, hτ.1, by omega⟩, hτ.2⟩)
    · rw [t_9] at g
      have ha0 : 0 ≤ a.toInt := by
        rcases ha with e | e
        · subst e
          have h1 : p10 0 = 1 := by decide
          have ev : v = 1 := Int32.toInt_inj.mp (by rw [hv, h1, lt1])
          have ed : (a / v).toInt = a.toInt := by
            have e2 : (a / v).toInt = (a.toInt.tdiv v.toInt).bmod (2 ^ 32) := Int32.toInt_div a v
            have := ib_lo a
            rw [e2, ev, lt1, Int.tdiv_one]
            rw [Int.bmod_eq_of_le] <;> omega
          omega
        · exact e
      have ed : (a / v).toInt = a.toInt / p10 i := by rw [ii_div ha0 (by omega), hv]
      have hge : 10 * p10 i ≤ a.toInt := by
        have h1 := Int.emod_nonneg a.toInt (show p10 i ≠ 0 by omega)
        have h2 := Int.emod_add_mul_ediv a.toInt (p10 i)
        have h3 : p10 i * 10 ≤ p10 i * (a.toInt / p10 i) := Int.mul_le_mul_of_nonneg_left (by omega) (by omega)
        omega
      have hi9 : i + 1 ≤ 9 := by
        rcases Nat.lt_or_ge 8 i with h | h
        · have h9 : p10 9 = 1000000000 := by decide
          have := p10_m (show 9 ≤ i by omega)
          omega
        · omega
      have em : (v * 10).toInt = p10 (i + 1) := by rw [ii_mul (by rw [t_10]; omega) (by rw [t_10]; omega), t_10, hv, p10_s]; omega
      exact ih (i + 1) c σ0 σ (v * 10) em hi9 (Or.inr ha0) (by omega) ht hc
theorem s_tellsNumber (n : Nat) (hn : 70000 ≤ n) (a : Int32) {c : Nat} {σ0 σ : ms_T} (ht : tl σ0 σ c) (hc : c + 10 ≤ 900) : ws (f_X12_tellsNumber n σ a) (fun τ => (∃ c', tl σ0 τ c' ∧ c' ≤ c + 10) ∧ ms_I τ 657 = ms_I σ 657) := by
  unfold f_X12_tellsNumber
  exact s_tn2 n hn a n 0 c σ0 σ 1 (by decide) (by omega) (Or.inl rfl) (by omega) ht hc
theorem s_says_L (n : Nat) (hn : 70000 ≤ n) (i : Nat) (h8 : (hp_len i).toInt ≤ 20) (a : Int32) : ∀ (k c : Nat) (σ0 σ : ms_T) (v : Int32), 0 ≤ v.toInt → v.toInt ≤ 20 → 21 - v.toInt ≤ (k : Int) → tl σ0 σ c → (c : Int) - v.toInt + 31 ≤ 900 → ws (f_X12_says_L15 n i k σ a v) (fun τ => ∃ c' : Nat, tl σ0 τ c' ∧ (c' : Int) ≤ (c : Int) - v.toInt + 31) := by
  intro k
  induction k with
  | zero => intro c σ0 σ v g0 g1 g2; omega
  | succ k ih =>
    intro c σ0 σ v g0 g1 g2 ht hc
    rw [f_X12_says_L15.eq_2]
    refine ws_le (fun _ => ?_) (fun g => ws_q g0 g ?_)
    · refine ws_b (s_tells n ht (by omega) _) (fun τ hτ => ws_b (s_tellsNumber n hn a hτ.1 (by omega)) (fun υ hυ => ?_))
      obtain ⟨⟨c', h1, h2⟩, -⟩ := hυ
      exact ws_s ⟨c', h1, by omega⟩
    · have e1 : (v + 1).toInt = v.toInt + 1 := by (try simp only [iw_add, iw_sub, iw_mul, t_m1, lt0, lt1, t_2, t_3, t_4, t_5, t_6, t_8, t_9, t_10, t_16, t_20, t_24, t_26, t_30, t_31, t_48, t_64, t_72, t_76, t_92, t_101, t_252, t_444, t_512, t_900, t_1980, t_65521, t_99999, t_mil]) <;> omega
      refine ws_b (s_tells n ht (by omega) _) (fun τ hτ => ws_l (ws_m (ih (c + 1) σ0 τ (v + 1) (by omega) (by omega) (by omega) hτ.1 (by omega)) (fun υ hυ => ?_)))
      obtain ⟨c', h1, h2⟩ := hυ
      exact ⟨c', h1, by omega⟩
theorem s_says (n : Nat) (hn : 70000 ≤ n) (i : Nat) (h8 : (hp_len i).toInt ≤ 20) (a : Int32) {c : Nat} {σ0 σ : ms_T} (ht : tl σ0 σ c) (hc : c + 32 ≤ 900) : ws (f_X12_says n σ i a) (fun τ => ∃ c', tl σ0 τ c' ∧ c' ≤ c + 32) := by
  unfold f_X12_says f_X12_says_J13
  refine ws_i (fun _ => ?_) (fun _ => ws_b (s_tells n ht (by omega) _) (fun τ hτ => ?_))
  · refine ws_m (s_says_L n hn i h8 a n c σ0 σ 0 (by decide) (by decide) (by rw [lt0]; omega) ht (by rw [lt0]; omega)) (fun υ hυ => ?_)
    obtain ⟨c', h1, h2⟩ := hυ
    rw [lt0] at h2
    exact ⟨c', h1, by omega⟩
  · refine ws_m (s_says_L n hn i h8 a n (c + 1) σ0 τ 0 (by decide) (by decide) (by rw [lt0]; omega) hτ.1 (by rw [lt0]; omega)) (fun υ hυ => ?_)
    obtain ⟨c', h1, h2⟩ := hυ
    rw [lt0] at h2
    exact ⟨c', h1, by omega⟩
theorem RI_697 {σ τ : ms_T} {c : Nat} (h : RI σ) (t : tl σ τ c) (hc : c ≤ 900) : RI τ ∧ ms_I τ 667 = ms_I σ 667 := by
  obtain ⟨f, hi⟩ := t
  refine ⟨⟨⟨?_, ?_, ?_, by omega⟩, rC_fr h.2 f (by decide)⟩, f.1 667 (by decide)⟩
  · rw [f.1 664 (by decide)]; exact h.1.1
  · rw [f.1 667 (by decide)]; exact h.1.2.1
  · rw [f.1 682 (by decide)]; exact h.1.2.2.1
theorem s_tellsMarks_L (n : Nat) (hn : 70000 ≤ n) {w : Nat} (hw : w ≤ 32) : ∀ (k c : Nat) (σ0 σ : ms_T) (v : Int32), 0 ≤ v.toInt → v.toInt ≤ (w : Int) → (w : Int) - v.toInt < (k : Int) → (ms_I σ 657).toInt = (w : Int) → tl σ0 σ c → (c : Int) ≤ 400 + 11 * v.toInt → ws (f_X12_tellsMarks_L25 n k σ v) (fun q => ∃ c', tl σ0 q.2 c' ∧ c' ≤ 900) := by
  intro k
  induction k with
  | zero => intro c σ0 σ v g0 g1 g2; omega
  | succ k ih =>
    intro c σ0 σ v g0 g1 g2 hi ht hc
    rw [f_X12_tellsMarks_L25.eq_2]
    refine ws_le (fun _ => ws_b (s_tells n ht (by omega) _) (fun τ hτ => ws_s ⟨_, hτ.1, by omega⟩)) (fun g => ?_)
    have e1 : (v + 1).toInt = v.toInt + 1 := by (try simp only [iw_add, iw_sub, iw_mul, t_m1, lt0, lt1, t_2, t_3, t_4, t_5, t_6, t_8, t_9, t_10, t_16, t_20, t_24, t_26, t_30, t_31, t_48, t_64, t_72, t_76, t_92, t_101, t_252, t_444, t_512, t_900, t_1980, t_65521, t_99999, t_mil]) <;> omega
    refine ws_b (s_tells n ht (by omega) _) (fun τ hτ => ws_g g0 (by omega) (ws_b (s_tellsNumber n hn _ hτ.1 (by omega)) (fun υ hυ => ?_)))
    obtain ⟨⟨c', h1, h2⟩, h3⟩ := hυ
    exact ws_l (ih c' σ0 υ (v + 1) (by omega) (by omega) (by omega) (by rw [h3, hτ.2]; exact hi) h1 (by omega))
theorem s_tellsMarks (n : Nat) (hn : 70000 ≤ n) {B : Int} {σ0 σ1 σ : ms_T} {w c : Nat} (hC : rC (ms_E σ 40)) (hy : wy B σ1 σ w) (hB : B ≤ 48) (hw : w ≤ 32) (ht : tl σ0 σ c) (hc : c ≤ 300) (r : Int32) (h0 : 0 ≤ r.toInt) (h1 : r.toInt ≤ 3) : ws (f_X12_tellsMarks n σ r) (fun q => ∃ c', tl σ0 q.2 c' ∧ c' ≤ 900) := by
  unfold f_X12_tellsMarks
  refine ws_b (s_fetches n hn hC hy hB (by omega) r h0 h1) (fun τ hτ => ?_)
  have t1 : tl σ0 τ c := ⟨fr_tr ht.1 (fr_sb hτ (by decide) (by decide)), by rw [hτ.1 697 (by simp)]; exact ht.2⟩
  refine ws_b (s_tells n t1 (by omega) _) (fun τ2 h2 => ws_b (s_tells n h2.1 (by omega) _) (fun τ3 h3 => ws_b (s_tells n h3.1 (by omega) _) (fun τ4 h4 => ?_)))
  exact s_tellsMarks_L n hn hw n (c + 1 + 1 + 1) σ0 τ4 0 (by decide) (by rw [lt0]; omega) (by rw [lt0]; omega) (by rw [h4.2, h3.2, h2.2, hτ.1 657 (by simp)]; exact hy.2.1) h4.1 (by rw [lt0]; omega)
theorem s_tell (n : Nat) (hn : 70000 ≤ n) (σ : ms_T) (hR : RI σ) (a1 a2 a3 : Int32) : ws (f_X12_tell n σ a1 a2 a3) (PK σ) := by
  unfold f_X12_tell
  refine ws_b (s_noEntry hR.2 a1 a2 a3) (fun r hr => ws_isP hR (fun e τ hτ hE hf => ?_))
  have := hr e
  have t0 : tl τ (ms_sI τ 697 0) 0 := ⟨fr_sI (by decide), by rw [mI_sI, if_pos rfl]; rfl⟩
  refine ws_l (ws_b (s_says n hn 14 (by decide +kernel) a2 t0 (by omega)) (fun σ1 h1 => ?_))
  obtain ⟨k1, t1, l1⟩ := h1
  refine ws_b (s_says n hn 18 (by decide +kernel) a3 t1 (by omega)) (fun σ2 h2 => ?_)
  obtain ⟨k2, t2, l2⟩ := h2
  refine ws_b (s_entryMark hn (rC_fr hτ.2 t2.1 (by decide)) a1 a2 (by omega) (by omega) (by omega) (by omega)) (fun x _ => ws_b (s_says n hn 16 (by decide +kernel) x t2 (by omega)) (fun σ3 h3 => ?_))
  obtain ⟨k3, t3, l3⟩ := h3
  refine ws_b (s_headOf n hn (rC_fr hτ.2 t3.1 (by decide)) a1 a3 (by omega) (by omega) (by omega) (by omega)) (fun y _ => ws_b (s_says n hn 13 (by decide +kernel) y t3 (by omega)) (fun σ4 h4 => ?_))
  obtain ⟨k4, t4, l4⟩ := h4
  refine ws_b (s_inclusion n hn σ4 a2 a3 (by omega) (by omega)) (fun σ5 h5 => ?_)
  obtain ⟨w, hw, hl⟩ := h5
  have t5 : tl τ σ5 k4 := ⟨fr_tr t4.1 (fr_sb hw.1 (by decide) (by decide)), by rw [hw.1.1 697 (by decide)]; exact t4.2⟩
  refine ws_c (s_tellsMarks n hn (rC_fr hτ.2 t5.1 (by decide)) hw (by omega) (by omega) t5 (by omega) a1 (by omega) (by omega)) (fun z ρ hρ => ?_)
  obtain ⟨c, hc, hc9⟩ := hρ
  exact ws_s (RI_697 hτ hc hc9)
theorem s_tellGrowth (n : Nat) (hn : 70000 ≤ n) (σ : ms_T) (hR : RI σ) (a1 a2 a3 : Int32) : ws (f_X12_tellGrowth n σ a1 a2 a3) (PK σ) := by
  have L := lits
  have hC := hR.2
  have hJ : ∀ w : Int32, (w = 0 → 0 ≤ a1.toInt ∧ a1.toInt ≤ 3 ∧ 0 ≤ a2.toInt ∧ a2.toInt ≤ a3.toInt ∧ a3.toInt ≤ 48) → ws (f_X12_tellGrowth_J20 n σ a1 a2 a3 w) (PK σ) := by
    intro w hw
    unfold f_X12_tellGrowth_J20
    refine ws_isP hR (fun e τ hτ hE hf => ?_)
    have := hw e
    have t0 : tl τ (ms_sI τ 697 0) 0 := ⟨fr_sI (by decide), by rw [mI_sI, if_pos rfl]; rfl⟩
    refine ws_l (ws_b (s_says n hn 11 (by decide +kernel) a2 t0 (by omega)) (fun σ1 h1 => ?_))
    obtain ⟨k1, t1, l1⟩ := h1
    refine ws_b (s_headOf n hn (rC_fr hτ.2 t1.1 (by decide)) a1 a2 (by omega) (by omega) (by omega) (by omega)) (fun x _ => ws_b (s_says n hn 16 (by decide +kernel) x t1 (by omega)) (fun σ2 h2 => ?_))
    obtain ⟨k2, t2, l2⟩ := h2
    refine ws_b (s_says n hn 20 (by decide +kernel) a3 t2 (by omega)) (fun σ3 h3 => ?_)
    obtain ⟨k3, t3, l3⟩ := h3
    refine ws_b (s_headOf n hn (rC_fr hτ.2 t3.1 (by decide)) a1 a3 (by omega) (by omega) (by omega) (by omega)) (fun y _ => ws_b (s_says n hn 13 (by decide +kernel) y t3 (by omega)) (fun σ4 h4 => ?_))
    obtain ⟨k4, t4, l4⟩ := h4
    refine ws_b (s_growth0 n hn σ4 a2 a3) (fun σ5 h5 => ?_)
    obtain ⟨w, hw, hl⟩ := h5
    have t5 : tl τ σ5 k4 := ⟨fr_tr t4.1 (fr_sb hw.1 (by decide) (by decide)), by rw [hw.1.1 697 (by decide)]; exact t4.2⟩
    refine ws_c (s_tellsMarks n hn (rC_fr hτ.2 t5.1 (by decide)) hw (by omega) (by omega) t5 (by omega) a1 (by omega) (by omega)) (fun z ρ hρ => ?_)
    obtain ⟨c, hc, hc9⟩ := hρ
    exact ws_s (RI_697 hτ hc hc9)
  unfold f_X12_tellGrowth
  repeat' (first
    | with_reducible refine ws_bo (s_isRecord (by assumption) _) (fun _ => ?_) (fun _ => ?_)
    | with_reducible refine ws_bo (s_isMark (by assumption) _) (fun _ => ?_) (fun _ => ?_)
    | with_reducible refine ws_bo (s_isIn _ _ _ _) (fun _ => ?_) (fun _ => ?_)
    | with_reducible refine ws_bo (s_isWatcher _ _) (fun _ => ?_) (fun _ => ?_)
    | with_reducible refine ws_bo (s_isThing _ _ _ _) (fun _ => ?_) (fun _ => ?_)
    | with_reducible refine ws_b (s_noSize (by assumption) _ _) (fun _ _ => ?_)
    | with_reducible refine ws_b (s_noEntry (by assumption) _ _ _) (fun _ _ => ?_)
    | with_reducible refine ws_b (s_sizeOf (by assumption) _ (by omega) (by omega)) (fun _ _ => ?_)
    | with_reducible refine ws_lt (fun _ => ?_) (fun _ => ?_)
    | with_reducible refine ws_le (fun _ => ?_) (fun _ => ?_)
    | with_reducible refine ws_ee (fun _ _ => ?_) (fun _ => ?_)
    | with_reducible refine ws_g (by decide) (by decide) ?_
    | with_reducible refine ws_g (by omega) (by omega) ?_)
  all_goals first
    | exact hJ _ (fun h => absurd h (by decide))
    | exact hJ _ (fun _ => by omega)
    | (refine hJ _ (fun h => ?_); rename_i q; have := q h; omega)
end JN7_0
section JN7_1
/-! ===== the reader ===== -/
/-- of the letters that are read: the end, where the word stands, what is wrong -/
def PI (σ : ms_T) : Prop := (0 ≤ (ms_I σ 676).toInt ∧ (ms_I σ 676).toInt ≤ 900) ∧ 0 ≤ (ms_I σ 672).toInt ∧ (ms_I σ 672).toInt < (ms_I σ 673).toInt ∧ (¬ (ms_I σ 674).toInt = 0 → (ms_I σ 673).toInt ≤ (ms_I σ 676).toInt) ∧ 0 ≤ (ms_I σ 670).toInt
theorem s_isOf (n : Nat) {σ : ms_T} (h : (ms_I σ 676).toInt ≤ 900) (a b c : Int32) (h0 : 0 ≤ a.toInt) : ws (f_X12_isOf n σ a b c) (fun r => r = 0 ∨ (r = 1 ∧ a.toInt < (ms_I σ 676).toInt)) := by
  unfold f_X12_isOf
  exact ws_le (fun _ => ws_s (Or.inl rfl)) (fun g => ws_g h0 (by omega) (ws_b (s_isIn n _ _ _) (fun _ _ => ws_i (fun _ => ws_s (Or.inl rfl)) (fun _ => ws_s (Or.inr ⟨rfl, g⟩)))))
theorem isOf_c (n : Nat) {σ τ : ms_T} (h1 : ms_I τ 676 = ms_I σ 676) (h2 : ∀ j, ms_E τ 47 j = ms_E σ 47 j) (a b c : Int32) : f_X12_isOf n τ a b c = f_X12_isOf n σ a b c := by
  unfold f_X12_isOf
  rw [h1, h2]
/-- what reads leaves -/
def rd (σ0 τ : ms_T) : Prop := fr [672, 673, 674, 675] [] σ0 τ ∧ 0 ≤ (ms_I τ 672).toInt ∧ (ms_I τ 672).toInt < (ms_I τ 673).toInt ∧ (¬ (ms_I τ 674).toInt = 0 → (ms_I τ 673).toInt ≤ (ms_I σ0 676).toInt)
theorem s_rd141 (n : Nat) (x : Int32) : ∀ (k : Nat) (σ0 σ : ms_T), fr [672, 673, 674, 675] [] σ0 σ → (ms_I σ0 676).toInt ≤ 900 → ms_I σ 672 = x → ms_I σ 674 = 1 → 0 ≤ x.toInt → x.toInt < (ms_I σ 673).toInt → (ms_I σ 673).toInt ≤ (ms_I σ0 676).toInt → 901 - (ms_I σ 673).toInt ≤ (k : Int) → ws (f_X12_reads_L141 n k σ) (fun τ => rd σ0 τ ∧ ms_I τ 672 = x) := by
  intro k
  induction k with
  | zero => intro σ0 σ hf h9 hx h4 g0 g1 g2 g3; omega
  | succ k ih =>
    intro σ0 σ hf h9 hx h4 g0 g1 g2 g3
    have e6 : ms_I σ 676 = ms_I σ0 676 := hf.1 676 (by decide)
    rw [f_X12_reads_L141.eq_2]
    refine ws_b (s_isOf n (by rw [e6]; exact h9) _ _ _ (by omega)) (fun r hr => ws_i (fun _ => ws_s ⟨⟨hf, by rw [hx]; exact g0, by rw [hx]; exact g1, fun _ => g2⟩, hx⟩) (fun q => ?_))
    have hlt := (hr.resolve_left q).2
    rw [e6] at hlt
    have e1 : (ms_I σ 673 + 1).toInt = (ms_I σ 673).toInt + 1 := by rw [iw_add, lt1]; omega
    have hJ : ∀ J, ws (f_X12_reads_J201 n (f_X12_reads_L141 n k) σ J) (fun τ => rd σ0 τ ∧ ms_I τ 672 = x) := by
      intro J
      unfold f_X12_reads_J201
      refine ws_l (ws_l (ih σ0 _ (fr_tr hf (fr_tr fr_sJ (fr_sI (by decide)))) h9 ?_ ?_ g0 ?_ ?_ ?_))
      · rw [mI_sI, if_neg (by decide), mI_sJ]; exact hx
      · rw [mI_sI, if_neg (by decide), mI_sJ]; exact h4
      · rw [mI_sI, if_pos rfl, mI_sJ, e1]; omega
      · rw [mI_sI, if_pos rfl, mI_sJ, e1]; omega
      · rw [mI_sI, if_pos rfl, mI_sJ, e1]; omega
    exact ws_i (fun _ => hJ _) (fun _ => ws_g (by omega) (by omega) (hJ _))
theorem s_rd245 (n : Nat) (x : Int32) : ∀ (k : Nat) (σ0 σ : ms_T), fr [672, 673, 674, 675] [] σ0 σ → (ms_I σ0 676).toInt ≤ 900 → ms_I σ 672 = x → 0 ≤ x.toInt → x.toInt < (ms_I σ 673).toInt → (ms_I σ 673).toInt ≤ (ms_I σ0 676).toInt → 901 - (ms_I σ 673).toInt ≤ (k : Int) → ws (f_X12_reads_L245 n k σ) (fun τ => rd σ0 τ ∧ ms_I τ 672 = x) := by
  intro k
  induction k with
  | zero => intro σ0 σ hf h9 hx g0 g1 g2 g3; omega
  | succ k ih =>
    intro σ0 σ hf h9 hx g0 g1 g2 g3
    have e6 : ms_I σ 676 = ms_I σ0 676 := hf.1 676 (by decide)
    rw [f_X12_reads_L245.eq_2]
    have hz : ∀ v : Int32, rd σ0 (ms_sI σ 674 v) ∧ ms_I (ms_sI σ 674 v) 672 = x := by
      intro v
      refine ⟨⟨fr_tr hf (fr_sI (by decide)), ?_, ?_, fun _ => ?_⟩, ?_⟩
      · rw [mI_sI, if_neg (by decide), hx]; exact g0
      · rw [mI_sI, if_neg (by decide), mI_sI, if_neg (by decide), hx]; exact g1
      · rw [mI_sI, if_neg (by decide)]; exact g2
      · rw [mI_sI, if_neg (by decide)]; exact hx
    refine ws_b (s_isOf n (by rw [e6]; exact h9) _ _ _ (by omega)) (fun r hr => ws_i (fun _ => ws_i (fun _ => ws_l (ws_s (hz _))) (fun _ => ws_l (ws_s (hz _)))) (fun q => ?_))
    have hlt := (hr.resolve_left q).2
    rw [e6] at hlt
    have e1 : (ms_I σ 673 + 1).toInt = (ms_I σ 673).toInt + 1 := by rw [iw_add, lt1]; omega
    have hJ : ∀ J, ws (f_X12_reads_J301 n (f_X12_reads_L245 n k) σ J) (fun τ => rd σ0 τ ∧ ms_I τ 672 = x) := by
      intro J
      unfold f_X12_reads_J301
      have e3 : ms_I (ms_sI σ 675 J) 673 = ms_I σ 673 := by rw [mI_sI, if_neg (by decide)]
      refine ws_l (ws_l (ih σ0 _ (fr_tr hf (fr_tr (fr_sI (by decide)) (fr_sI (by decide)))) h9 ?_ g0 ?_ ?_ ?_))
      · rw [mI_sI, if_neg (by decide), mI_sI, if_neg (by decide)]; exact hx
      · rw [mI_sI, if_pos rfl, e3, e1]; omega
      · rw [mI_sI, if_pos rfl, e3, e1]; omega
      · rw [mI_sI, if_pos rfl, e3, e1]; omega
    exact ws_i (fun _ => hJ _) (fun _ => ws_g (by omega) (by omega) (hJ _))
theorem s_rd60 (n : Nat) (hn : 70000 ≤ n) (σ0 σ : ms_T) (hf : fr [672, 673, 674, 675] [] σ0 σ) (h9 : (ms_I σ0 676).toInt ≤ 900) (h0 : 0 ≤ (ms_I σ 672).toInt) (h1 : (ms_I σ 672).toInt ≤ 2000) : ws (f_X12_reads_J60 n σ) (fun τ => rd σ0 τ ∧ ms_I τ 672 = ms_I σ 672) := by
  unfold f_X12_reads_J60
  refine ws_ln (fun σ3 hs3 => ?_)
  have x2 : ms_I σ3 672 = ms_I σ 672 := by rw [hs3, mI_sI, if_neg (by decide)]
  have x3 : (ms_I σ3 673).toInt = (ms_I σ 672).toInt + 1 := by rw [hs3, mI_sI, if_pos rfl, iw_add, lt1]; omega
  have f3 : fr [672, 673, 674, 675] [] σ0 σ3 := by rw [hs3]; exact fr_tr hf (fr_sI (by decide))
  have e6 : ms_I σ3 676 = ms_I σ0 676 := f3.1 676 (by decide)
  have hJ : ∀ w : Int32, (¬ w.toInt = 0 → (ms_I σ 672).toInt < (ms_I σ0 676).toInt) → ws (f_X12_reads_J105 n σ3 w) (fun τ => rd σ0 τ ∧ ms_I τ 672 = ms_I σ 672) := by
    intro w hw
    unfold f_X12_reads_J105
    refine ws_ln (fun σ5 hs5 => ?_)
    have y2 : ms_I σ5 672 = ms_I σ 672 := by rw [hs5, mI_sI, if_neg (by decide), x2]
    have y3 : (ms_I σ5 673).toInt = (ms_I σ 672).toInt + 1 := by rw [hs5, mI_sI, if_neg (by decide), x3]
    have y4 : ms_I σ5 674 = w := by rw [hs5, mI_sI, if_pos rfl]
    have f5 : fr [672, 673, 674, 675] [] σ0 σ5 := by rw [hs5]; exact fr_tr f3 (fr_sI (by decide))
    have e65 : ms_I σ5 676 = ms_I σ0 676 := f5.1 676 (by decide)
    have hq : ∀ b c, ws (f_X12_isOf n σ5 (ms_I σ5 672) b c) (fun r => r = 0 ∨ (r = 1 ∧ (ms_I σ5 672).toInt < (ms_I σ5 676).toInt)) := fun b c => s_isOf n (by rw [e65]; exact h9) _ b c (by rw [y2]; exact h0)
    have hend : rd σ0 σ5 ∧ ms_I σ5 672 = ms_I σ 672 := ⟨⟨f5, by rw [y2]; exact h0, by rw [y2]; omega, fun g => by rw [y4] at g; have := hw g; omega⟩, y2⟩
    obtain ⟨r, er, hr⟩ := hq 97 122
    refine ws_b (S := fun q => q = r) ⟨r, er, rfl⟩ (fun r' g1 => ?_)
    subst g1
    refine ws_i (fun _ => ?_) (fun q => ?_)
    · obtain ⟨s, es, hs⟩ := hq 48 57
      refine ws_b (S := fun q => q = s) ⟨s, es, rfl⟩ (fun s' g1 => ?_)
      subst g1
      refine ws_i (fun _ => ws_s hend) (fun q => ?_)
      have hlt := (hs.resolve_left q).2
      rw [y2, e65] at hlt
      refine ws_l (ws_ln (fun σ9 hs9 => ?_))
      have z2 : ms_I σ9 672 = ms_I σ 672 := by rw [hs9, mI_sI, if_neg (by decide), mI_sI, if_neg (by decide), y2]
      have z3 : ms_I σ9 673 = ms_I σ 672 := by rw [hs9, mI_sI, if_pos rfl, mI_sI, if_neg (by decide), y2]
      have f9 : fr [672, 673, 674, 675] [] σ0 σ9 := by rw [hs9]; exact fr_tr f5 (fr_tr (fr_sI (by decide)) (fr_sI (by decide)))
      have hE : ∀ j, ms_E σ9 47 j = ms_E σ5 47 j := fun j => by rw [f9.2 47 (by simp), f5.2 47 (by simp)]
      obtain ⟨n', rfl⟩ : ∃ n', n = n' + 1 := ⟨n - 1, by omega⟩
      have ei : f_X12_isOf (n' + 1) σ9 (ms_I σ9 673) 48 57 = some s' := by
        rw [isOf_c (n' + 1) (σ := σ5) (by rw [f9.1 676 (by decide), e65]) hE, z3, ← y2]; exact es
      rw [f_X12_reads_L245.eq_2]
      refine ws_b (S := fun t => t = s') ⟨s', ei, rfl⟩ (fun t' g1 => ?_)
      rw [g1, if_neg q]
      have e1 : (ms_I σ 672 + 1).toInt = (ms_I σ 672).toInt + 1 := by rw [iw_add, lt1]; omega
      have hJ3 : ∀ J, ws (f_X12_reads_J301 (n' + 1) (f_X12_reads_L245 (n' + 1) n') σ9 J) (fun τ => rd σ0 τ ∧ ms_I τ 672 = ms_I σ 672) := by
        intro J
        unfold f_X12_reads_J301
        have e3 : ms_I (ms_sI σ9 675 J) 673 = ms_I σ 672 := by rw [mI_sI, if_neg (by decide), z3]
        refine ws_l (ws_l (s_rd245 (n' + 1) (ms_I σ 672) n' σ0 _ (fr_tr f9 (fr_tr (fr_sI (by decide)) (fr_sI (by decide)))) h9 ?_ h0 ?_ ?_ ?_))
        · rw [mI_sI, if_neg (by decide), mI_sI, if_neg (by decide)]; exact z2
        · rw [mI_sI, if_pos rfl, e3, e1]; omega
        · rw [mI_sI, if_pos rfl, e3, e1]; omega
        · rw [mI_sI, if_pos rfl, e3, e1]; omega
      exact ws_i (fun _ => hJ3 _) (fun _ => ws_g (by rw [z3]; omega) (by rw [z3]; omega) (hJ3 _))
    · have hlt := (hr.resolve_left q).2
      rw [y2, e65] at hlt
      refine ws_l (ws_l (ws_ln (fun σ9 hs9 => ?_)))
      have z2 : ms_I σ9 672 = ms_I σ 672 := by rw [hs9, mI_sI, if_neg (by decide), mI_sJ, mI_sI, if_neg (by decide), y2]
      have z3 : ms_I σ9 673 = ms_I σ 672 := by rw [hs9, mI_sI, if_pos rfl, mI_sJ, mI_sI, if_neg (by decide), y2]
      have z4 : ms_I σ9 674 = 1 := by rw [hs9, mI_sI, if_neg (by decide), mI_sJ, mI_sI, if_pos rfl]
      have f9 : fr [672, 673, 674, 675] [] σ0 σ9 := by rw [hs9]; exact fr_tr f5 (fr_tr (fr_sI (by decide)) (fr_tr fr_sJ (fr_sI (by decide))))
      have hE : ∀ j, ms_E σ9 47 j = ms_E σ5 47 j := fun j => by rw [f9.2 47 (by simp), f5.2 47 (by simp)]
      obtain ⟨n', rfl⟩ : ∃ n', n = n' + 1 := ⟨n - 1, by omega⟩
      have ei : f_X12_isOf (n' + 1) σ9 (ms_I σ9 673) 97 122 = some r' := by
        rw [isOf_c (n' + 1) (σ := σ5) (by rw [f9.1 676 (by decide), e65]) hE, z3, ← y2]; exact er
      rw [f_X12_reads_L141.eq_2]
      refine ws_b (S := fun t => t = r') ⟨r', ei, rfl⟩ (fun t' g1 => ?_)
      rw [g1, if_neg q]
      have e1 : (ms_I σ 672 + 1).toInt = (ms_I σ 672).toInt + 1 := by rw [iw_add, lt1]; omega
      have hJ3 : ∀ J, ws (f_X12_reads_J201 (n' + 1) (f_X12_reads_L141 (n' + 1) n') σ9 J) (fun τ => rd σ0 τ ∧ ms_I τ 672 = ms_I σ 672) := by
        intro J
        unfold f_X12_reads_J201
        refine ws_l (ws_l (s_rd141 (n' + 1) (ms_I σ 672) n' σ0 _ (fr_tr f9 (fr_tr fr_sJ (fr_sI (by decide)))) h9 ?_ ?_ h0 ?_ ?_ ?_))
        · rw [mI_sI, if_neg (by decide), mI_sJ]; exact z2
        · rw [mI_sI, if_neg (by decide), mI_sJ]; exact z4
        · rw [mI_sI, if_pos rfl, mI_sJ, z3, e1]; omega
        · rw [mI_sI, if_pos rfl, mI_sJ, z3, e1]; omega
        · rw [mI_sI, if_pos rfl, mI_sJ, z3, e1]; omega
      exact ws_i (fun _ => hJ3 _) (fun _ => ws_g (by rw [z3]; omega) (by rw [z3]; omega) (hJ3 _))
  refine ws_lt (fun c => ws_g (by rw [x2]; omega) (by rw [x2, e6] at c; rw [x2]; omega) (ws_i (fun _ => hJ _ (fun _ => ?_)) (fun _ => hJ _ (fun _ => ?_)))) (fun _ => hJ _ (fun g => absurd lt0 g))
  · rw [x2, e6] at c; exact c
  · rw [x2, e6] at c; exact c
theorem s_rd8 (n : Nat) (hn : 70000 ≤ n) : ∀ (k : Nat) (σ0 σ : ms_T) (x : Int), fr [672, 673, 674, 675] [] σ0 σ → (ms_I σ0 676).toInt ≤ 900 → 0 ≤ x → x ≤ (ms_I σ 672).toInt → (ms_I σ 672).toInt ≤ 1000 → 1001 - (ms_I σ 672).toInt ≤ (k : Int) → ws (f_X12_reads_L8 n k σ) (fun τ => rd σ0 τ ∧ x ≤ (ms_I τ 672).toInt) := by
  intro k
  induction k with
  | zero => intro σ0 σ x hf h9 g0 g1 g2 g3; omega
  | succ k ih =>
    intro σ0 σ x hf h9 g0 g1 g2 g3
    have e6 : ms_I σ 676 = ms_I σ0 676 := hf.1 676 (by decide)
    rw [f_X12_reads_L8.eq_2, e6]
    have h60 : ws (f_X12_reads_J60 n σ) (fun τ => rd σ0 τ ∧ x ≤ (ms_I τ 672).toInt) := ws_m (s_rd60 n hn σ0 σ hf h9 (by omega) (by omega)) (fun τ hτ => ⟨hτ.1, by rw [hτ.2]; exact g1⟩)
    refine ws_le (fun _ => h60) (fun c => ?_)
    have hJ : ws (f_X12_reads_J47 n (f_X12_reads_L8 n k) σ) (fun τ => rd σ0 τ ∧ x ≤ (ms_I τ 672).toInt) := by
      unfold f_X12_reads_J47
      have e1 : (ms_I σ 672 + 1).toInt = (ms_I σ 672).toInt + 1 := by rw [iw_add, lt1]; omega
      refine ws_l (ih σ0 _ x (fr_tr hf (fr_sI (by decide))) h9 g0 ?_ ?_ ?_)
      · rw [mI_sI, if_pos rfl, e1]; omega
      · rw [mI_sI, if_pos rfl, e1]; omega
      · rw [mI_sI, if_pos rfl, e1]; omega
    exact ws_g (by omega) (by omega) (ws_i (fun _ => hJ) (fun _ => ws_g (by omega) (by omega) (ws_i (fun _ => hJ) (fun _ => h60))))
/-- reads: from a place within, the word goes on -/
theorem s_reads (n : Nat) (hn : 70000 ≤ n) (σ : ms_T) (h9 : (ms_I σ 676).toInt ≤ 900) (h0 : 0 ≤ (ms_I σ 673).toInt) (h1 : (ms_I σ 673).toInt ≤ (ms_I σ 676).toInt) : ws (f_X12_reads n σ) (fun τ => rd σ τ ∧ (ms_I σ 673).toInt < (ms_I τ 673).toInt) := by
  unfold f_X12_reads
  have e2 : ms_I (ms_sI σ 672 (ms_I σ 673)) 672 = ms_I σ 673 := by rw [mI_sI, if_pos rfl]
  refine ws_l (ws_m (s_rd8 n hn n σ _ (ms_I σ 673).toInt (fr_sI (by decide)) h9 h0 (by rw [e2]; omega) (by rw [e2]; omega) (by rw [e2]; omega)) (fun τ hτ => ⟨hτ.1, ?_⟩))
  have := hτ.1.2.2.1
  omega
/-! what must be -/
theorem s_must (n : Nat) (σ : ms_T) (a b : Int32) (h0 : 0 ≤ (ms_I σ 670).toInt) (hb : 0 < b.toInt) : ws (f_X12_must n σ a b) (fun τ => fr [670, 671] [] σ τ ∧ 0 ≤ (ms_I τ 670).toInt ∧ ((ms_I τ 670).toInt = 0 → ¬ a = 0 ∧ (ms_I σ 670).toInt = 0)) := by
  have hJ : ∀ w : Int32, 0 < w.toInt → ws (f_X12_must_J31 n σ w) (fun τ => fr [670, 671] [] σ τ ∧ 0 ≤ (ms_I τ 670).toInt ∧ ((ms_I τ 670).toInt = 0 → ¬ a = 0 ∧ (ms_I σ 670).toInt = 0)) := by
    intro w hw
    unfold f_X12_must_J31
    have e : ms_I (ms_sI (ms_sI σ 670 w) 671 (ms_I (ms_sI σ 670 w) 672)) 670 = w := by rw [mI_sI, if_neg (by decide), mI_sI, if_pos rfl]
    refine ws_l (ws_l (ws_s ⟨fr_tr (fr_sI (by decide)) (fr_sI (by decide)), by rw [e]; omega, fun q => by rw [e] at q; omega⟩))
  unfold f_X12_must f_X12_must_J30
  refine ws_i (fun _ => ws_le (fun _ => ws_i (fun _ => ws_i (fun _ => hJ _ (by decide)) (fun _ => hJ _ hb)) (fun _ => hJ _ hb)) (fun c => ws_s ⟨fr_rf, h0, fun q => by rw [lt0] at c; omega⟩)) (fun c => ws_s ⟨fr_rf, h0, fun q => ⟨c, q⟩⟩)
theorem s_isWord (n : Nat) (σ : ms_T) (a : Int32) (h0 : 0 ≤ a.toInt) (h1 : a.toInt ≤ 11) : ws (f_X12_isWord n σ a) (fun r => ¬ r = 0 → (ms_I σ 670).toInt = 0 ∧ (ms_I σ 674).toInt = 1) := by
  unfold f_X12_isWord
  refine ws_ee (fun _ e => ws_ee (fun _ g => ws_g h0 (by omega) (ws_i (fun _ => ws_i (fun _ => ws_s (fun q => absurd rfl q)) (fun _ => ws_s (fun _ => ⟨e, g⟩))) (fun _ => ws_s (fun q => absurd rfl q)))) (fun _ => ws_s (fun q => absurd rfl q))) (fun _ => ws_s (fun q => absurd rfl q))
end JN7_1
section JN7_2
/-! ===== words taken, lines ===== -/
theorem PI_w {σ τ : ms_T} (h : PI σ) (f : fr [670, 671] [] σ τ) (h0 : 0 ≤ (ms_I τ 670).toInt) : PI τ := by
  obtain ⟨h1, h2, h3, h4, h5⟩ := h
  unfold PI
  rw [f.1 676 (by decide), f.1 672 (by decide), f.1 673 (by decide), f.1 674 (by decide)]
  exact ⟨h1, h2, h3, h4, h0⟩
theorem PI_rd {σ τ : ms_T} (h : PI σ) (f : rd σ τ) : PI τ := by
  obtain ⟨h1, h2, h3, h4, h5⟩ := h
  obtain ⟨g1, g2, g3, g4⟩ := f
  unfold PI
  rw [g1.1 676 (by decide), g1.1 670 (by decide)]
  exact ⟨h1, g2, g3, g4, h5⟩
theorem PI_fr {wI wE : List Nat} {σ τ : ms_T} (h : PI σ) (f : fr wI wE σ τ) (k1 : 676 ∉ wI) (k2 : 672 ∉ wI) (k3 : 673 ∉ wI) (k4 : 674 ∉ wI) (k5 : 670 ∉ wI) : PI τ := by
  unfold PI
  rw [f.1 676 k1, f.1 672 k2, f.1 673 k3, f.1 674 k4, f.1 670 k5]
  exact h
/-- a word taken -/
def T (σ τ : ms_T) : Prop := fr [670, 671, 672, 673, 674, 675] [] σ τ ∧ PI τ ∧ ((ms_I τ 670).toInt = 0 → (ms_I σ 670).toInt = 0 ∧ (ms_I σ 673).toInt < (ms_I τ 673).toInt)
theorem T_tr {σ τ υ : ms_T} (h : T σ τ) (g : T τ υ) : T σ υ := by
  refine ⟨fr_tr h.1 g.1, g.2.1, fun e => ?_⟩
  have a := g.2.2 e
  have b := h.2.2 a.1
  exact ⟨b.1, by omega⟩
theorem s_reads1 (n : Nat) (hn : 70000 ≤ n) {σ : ms_T} (h : PI σ) (h4 : ¬ (ms_I σ 674).toInt = 0) : ws (f_X12_reads n σ) (fun τ => rd σ τ ∧ PI τ ∧ (ms_I σ 673).toInt < (ms_I τ 673).toInt) := by
  have h' := h
  obtain ⟨h1, h2, h3, h5, h6⟩ := h'
  exact ws_m (s_reads n hn σ h1.2 (by omega) (h5 h4)) (fun τ hτ => ⟨hτ.1, PI_rd h hτ.1, hτ.2⟩)
theorem T_rd {σ τ υ : ms_T} (f : fr [670, 671] [] σ τ) (h0 : (ms_I σ 670).toInt = 0) (hτ : rd τ υ ∧ PI υ ∧ (ms_I τ 673).toInt < (ms_I υ 673).toInt) : T σ υ := by
  refine ⟨fr_tr (fr_sb f (by decide) (by decide)) (fr_sb hτ.1.1 (by decide) (by decide)), hτ.2.1, fun _ => ⟨h0, ?_⟩⟩
  have := hτ.2.2
  rw [f.1 673 (by decide)] at this
  exact this
theorem s_tk (n : Nat) (hn : 70000 ≤ n) {σ τ : ms_T} (h : PI σ) (f : fr [670, 671] [] σ τ) (h0 : 0 ≤ (ms_I τ 670).toInt) (h1 : (ms_I τ 670).toInt = 0 → (ms_I σ 670).toInt = 0 ∧ ¬ (ms_I σ 674).toInt = 0) : ws (if ms_I τ 670 = 0 then ms_b (f_X12_reads n τ) fun υ => some υ else some τ) (T σ) := by
  have l0 := lt0
  refine ws_ee (fun _ e => ?_) (fun e => ws_s ⟨fr_sb f (by decide) (by decide), PI_w h f h0, fun q => by omega⟩)
  obtain ⟨q1, q2⟩ := h1 (by omega)
  exact ws_b (s_reads1 n hn (PI_w h f h0) (by rw [f.1 674 (by decide)]; exact q2)) (fun υ hυ => ws_s (T_rd f q1 hυ))
theorem s_takes (n : Nat) (hn : 70000 ≤ n) {σ : ms_T} (h : PI σ) (a : Int32) (h0 : 0 ≤ a.toInt) (h1 : a.toInt ≤ 11) : ws (f_X12_takes n σ a) (T σ) := by
  unfold f_X12_takes
  refine ws_b (s_isWord n σ a h0 h1) (fun r hr => ws_b (s_must n σ r 2 h.2.2.2.2 (by decide)) (fun τ hτ => s_tk n hn h hτ.1 hτ.2.1 (fun e => ?_)))
  have q := hτ.2.2 e
  have p := hr q.1
  exact ⟨q.2, by omega⟩
theorem s_takesEnd (n : Nat) (hn : 70000 ≤ n) {σ : ms_T} (h : PI σ) : ws (f_X12_takesEnd n σ) (T σ) := by
  have t3 := t_3
  unfold f_X12_takesEnd f_X12_takesEnd_J14
  refine ws_ee (fun _ g => ?_) (fun g => ?_)
  · exact ws_b (s_must n σ 1 2 h.2.2.2.2 (by decide)) (fun τ hτ => s_tk n hn h hτ.1 hτ.2.1 (fun e => ⟨(hτ.2.2 e).2, by omega⟩))
  · exact ws_b (s_must n σ 0 2 h.2.2.2.2 (by decide)) (fun τ hτ => s_tk n hn h hτ.1 hτ.2.1 (fun e => absurd rfl (hτ.2.2 e).1))
theorem s_takesNumber (n : Nat) (hn : 70000 ≤ n) {σ : ms_T} (h : PI σ) (a b : Int32) : ws (f_X12_takesNumber n σ a b) (fun q => T σ q.2 ∧ ((ms_I q.2 670).toInt = 0 → a.toInt ≤ q.1.toInt ∧ q.1.toInt ≤ b.toInt)) := by
  have l0 := lt0
  have t2 := t_2
  have hJ : ∀ w : Int32, (¬ w = 0 → ¬ (ms_I σ 674).toInt = 0) → ws (f_X12_takesNumber_J14 n σ a b w) (fun q => T σ q.2 ∧ ((ms_I q.2 670).toInt = 0 → a.toInt ≤ q.1.toInt ∧ q.1.toInt ≤ b.toInt)) := by
    intro w hw
    unfold f_X12_takesNumber_J14
    refine ws_b (s_must n σ w 2 h.2.2.2.2 (by decide)) (fun τ hτ => ws_b (s_isIn n _ _ _) (fun r hr => ws_b (s_must n τ r 3 hτ.2.1 (by decide)) (fun υ hυ => ws_l ?_)))
    have f2 : fr [670, 671] [] σ υ := fr_tr hτ.1 hυ.1
    refine ws_ee (fun _ e => ?_) (fun e => ws_s ⟨⟨fr_sb f2 (by decide) (by decide), PI_w h f2 hυ.2.1, fun q => by have q : (ms_I υ 670).toInt = 0 := q; omega⟩, fun q => by have q : (ms_I υ 670).toInt = 0 := q; omega⟩)
    have q1 := hυ.2.2 (by omega)
    have q2 := hτ.2.2 q1.2
    have hr1 := bo_1 hr (fun x => q1.1 (Int32.toInt_inj.mp x))
    have q3 := hw q2.1
    refine ws_b (s_reads1 n hn (PI_w h f2 hυ.2.1) (by rw [f2.1 674 (by decide)]; exact q3)) (fun ρ hρ => ws_s ⟨T_rd f2 q2.2 hρ, fun _ => ?_⟩)
    show a.toInt ≤ (ms_I υ 675).toInt ∧ (ms_I υ 675).toInt ≤ b.toInt
    rw [hυ.1.1 675 (by decide)]
    exact hr1
  unfold f_X12_takesNumber
  exact ws_ee (fun _ g => hJ _ (fun _ => by omega)) (fun _ => hJ _ (fun q => absurd rfl q))
theorem s_takesMark (n : Nat) (hn : 70000 ≤ n) {σ : ms_T} (h : PI σ) : ws (f_X12_takesMark n σ) (fun q => T σ q.2) := by
  unfold f_X12_takesMark
  exact ws_g (by decide) (by decide) (ws_c (s_takesNumber n hn h _ _) (fun x τ hτ => ws_s hτ.1))
/-! lines -/
def LI (σ : ms_T) : Prop := PI σ ∧ rC (ms_E σ 40) ∧ 0 ≤ (ms_I σ 679).toInt ∧ (ms_I σ 679).toInt ≤ 3
def FW : List Nat := [652, 653, 657, 658, 659, 660, 665, 670, 671, 672, 673, 674, 675, 679]
def FE : List Nat := [40, 42, 43, 44, 46]
def lnP (σ τ : ms_T) : Prop := fr FW FE σ τ ∧ LI τ ∧ ((ms_I τ 670).toInt = 0 → (ms_I σ 673).toInt < (ms_I τ 673).toInt)
theorem LI_T {σ τ : ms_T} (h : LI σ) (t : T σ τ) : LI τ := ⟨t.2.1, rC_fr h.2.1 t.1 (by decide), by rw [t.1.1 679 (by decide)]; exact h.2.2⟩
theorem s_addLine_J134 (n : Nat) (hn : 70000 ≤ n) {σ0 σ : ms_T} (hf : fr FW FE σ0 σ) (hL : LI σ) (hp : (ms_I σ0 673).toInt < (ms_I σ 673).toInt) (h0 : 0 ≤ (ms_I σ 665).toInt) (h1 : (ms_I σ 665).toInt ≤ 8) : ws (f_X12_addLine_J134 n σ) (lnP σ0) := by
  have l0 := lt0
  unfold f_X12_addLine_J134
  refine ws_b (s_takesEnd n hn hL.1) (fun τ hτ => ?_)
  have hLτ := LI_T hL hτ
  have fτ : fr FW FE σ0 τ := fr_tr hf (fr_sb hτ.1 (by decide) (by decide))
  refine ws_ee (fun _ e => ?_) (fun e => ws_s ⟨fτ, hLτ, fun q => by omega⟩)
  have hpr := (hτ.2.2 (by omega)).2
  refine ws_c (s_adds n hn τ hLτ.2.1 (by rw [hτ.1.1 665 (by decide)]; exact h0) (by rw [hτ.1.1 665 (by decide)]; exact h1) _ hLτ.2.2.1 hLτ.2.2.2) (fun x ρ hρ => ws_s ?_)
  have fρ : fr [652, 653] [40] τ ρ := hρ.1
  refine ⟨fr_tr fτ (fr_sb fρ (by decide) (by decide)), ⟨PI_fr hLτ.1 fρ (by decide) (by decide) (by decide) (by decide) (by decide), hρ.2, by rw [fρ.1 679 (by decide)]; exact hLτ.2.2⟩, fun _ => ?_⟩
  rw [fρ.1 673 (by decide)]
  omega
theorem s_addLine_L (n : Nat) (hn : 70000 ≤ n) : ∀ (k : Nat) (σ0 σ : ms_T) (v : Int32), fr FW FE σ0 σ → LI σ → (ms_I σ0 673).toInt < (ms_I σ 673).toInt → (ms_I σ 665).toInt = (ms_I σ 673).toInt - (ms_I σ 672).toInt → (ms_I σ 665).toInt ≤ 8 → ¬ (ms_I σ 674).toInt = 0 → 0 ≤ v.toInt → v.toInt ≤ 8 → 9 - v.toInt ≤ (k : Int) → ws (f_X12_addLine_L96 n k σ v) (lnP σ0) := by
  intro k
  induction k with
  | zero => intro σ0 σ v hf hL hp h5 h8 h4 g0 g1 g2; omega
  | succ k ih =>
    intro σ0 σ v hf hL hp h5 h8 h4 g0 g1 g2
    rw [f_X12_addLine_L96.eq_2]
    have hP := hL.1
    unfold PI at hP
    have hend := hP.2.2.2.1 h4
    refine ws_le (fun _ => ?_) (fun g => ?_)
    · refine ws_b (s_reads1 n hn hL.1 h4) (fun τ hτ => ?_)
      have e5 : ms_I τ 665 = ms_I σ 665 := hτ.1.1.1 665 (by decide)
      refine s_addLine_J134 n hn (fr_tr hf (fr_sb hτ.1.1 (by decide) (by decide))) ⟨hτ.2.1, rC_fr hL.2.1 hτ.1.1 (by decide), by rw [hτ.1.1.1 679 (by decide)]; exact hL.2.2⟩ (by have := hτ.2.2; omega) (by rw [e5]; omega) (by rw [e5]; omega)
    · have e1 : (ms_I σ 672 + v).toInt = (ms_I σ 672).toInt + v.toInt := by rw [iw_add]; omega
      have ff : fr [] [46] σ (ms_sE σ 46 v.toNatClampNeg (ms_E σ 47 (ms_I σ 672 + v).toNatClampNeg - 96)) := fr_sE (by decide)
      refine ws_g (by omega) (by omega) (ws_g g0 (by omega) (ws_l (ws_l (ih σ0 _ (v + 1) (fr_tr hf (fr_sE (by decide))) ⟨PI_fr hL.1 ff (by decide) (by decide) (by decide) (by decide) (by decide), rC_fr hL.2.1 ff (by decide), hL.2.2⟩ hp h5 h8 h4 (by (try simp only [iw_add, iw_sub, iw_mul, t_m1, lt0, lt1, t_2, t_3, t_4, t_5, t_6, t_8, t_9, t_10, t_16, t_20, t_24, t_26, t_30, t_31, t_48, t_64, t_72, t_76, t_92, t_101, t_252, t_444, t_512, t_900, t_1980, t_65521, t_99999, t_mil]) <;> omega) (by (try simp only [iw_add, iw_sub, iw_mul, t_m1, lt0, lt1, t_2, t_3, t_4, t_5, t_6, t_8, t_9, t_10, t_16, t_20, t_24, t_26, t_30, t_31, t_48, t_64, t_72, t_76, t_92, t_101, t_252, t_444, t_512, t_900, t_1980, t_65521, t_99999, t_mil]) <;> omega) (by (try simp only [iw_add, iw_sub, iw_mul, t_m1, lt0, lt1, t_2, t_3, t_4, t_5, t_6, t_8, t_9, t_10, t_16, t_20, t_24, t_26, t_30, t_31, t_48, t_64, t_72, t_76, t_92, t_101, t_252, t_444, t_512, t_900, t_1980, t_65521, t_99999, t_mil]) <;> omega)))))
theorem s_addLine (n : Nat) (hn : 70000 ≤ n) {σ : ms_T} (hL : LI σ) (h4 : ¬ (ms_I σ 674).toInt = 0) : ws (f_X12_addLine n σ) (lnP σ) := by
  have l0 := lt0
  have t8 := t_8
  have l1 := lt1
  have hJ : ∀ w : Int32, ws (f_X12_addLine_J19 n σ w) (lnP σ) := by
    intro w
    unfold f_X12_addLine_J19
    refine ws_b (s_must n σ w 6 hL.1.2.2.2.2 (by decide)) (fun τ hτ => ?_)
    have hPτ := PI_w hL.1 hτ.1 hτ.2.1
    have hLτ : LI τ := ⟨hPτ, rC_fr hL.2.1 hτ.1 (by decide), by rw [hτ.1.1 679 (by decide)]; exact hL.2.2⟩
    have fτ : fr FW FE σ τ := fr_sb hτ.1 (by decide) (by decide)
    refine ws_le (fun e => ?_) (fun e => ws_s ⟨fτ, hLτ, fun q => by omega⟩)
    refine ws_b (s_reads1 n hn hPτ (by rw [hτ.1.1 674 (by decide)]; exact h4)) (fun υ hυ => ?_)
    have f5 : fr [672, 673, 674, 675, 665] [] τ (ms_sI υ 665 0) := fr_tr (fr_sb hυ.1.1 (by decide) (by decide)) (fr_sI (by decide))
    have g5 : fr [665] [] υ (ms_sI υ 665 0) := fr_sI (by decide)
    have hL6 : LI (ms_sI υ 665 0) := ⟨PI_fr hυ.2.1 g5 (by decide) (by decide) (by decide) (by decide) (by decide), rC_fr hLτ.2.1 f5 (by decide), by rw [f5.1 679 (by decide)]; exact hLτ.2.2⟩
    have fσ : fr FW FE σ (ms_sI υ 665 0) := fr_tr fτ (fr_sb f5 (by decide) (by decide))
    have hpr : (ms_I σ 673).toInt < (ms_I (ms_sI υ 665 0) 673).toInt := by
      rw [mI_sI, if_neg (by decide)]
      have := hυ.2.2
      rw [hτ.1.1 673 (by decide)] at this
      exact this
    have z5 : ms_I (ms_sI υ 665 0) 665 = 0 := by rw [mI_sI, if_pos rfl]
    refine ws_l ?_
    generalize ms_sI υ 665 0 = φ at hL6 fσ hpr z5 ⊢
    refine ws_ee (fun _ g4 => ?_) (fun _ => ?_)
    · have hJ6 : ∀ w : Int32, (¬ w = 0 → (ms_I φ 673 - ms_I φ 672).toInt ≤ 8) → ws (f_X12_addLine_J69 n φ w) (lnP σ) := by
        intro w hw
        unfold f_X12_addLine_J69
        refine ws_b (s_must n φ w 4 hL6.1.2.2.2.2 (by decide)) (fun ρ hρ => ?_)
        have hPρ := PI_w hL6.1 hρ.1 hρ.2.1
        have hLρ : LI ρ := ⟨hPρ, rC_fr hL6.2.1 hρ.1 (by decide), by rw [hρ.1.1 679 (by decide)]; exact hL6.2.2⟩
        have fρ : fr FW FE σ ρ := fr_tr fσ (fr_sb hρ.1 (by decide) (by decide))
        refine ws_le (fun e => ws_l ?_) (fun e => ws_s ⟨fρ, hLρ, fun q => by omega⟩)
        have hq := hρ.2.1
        have hle := hw (hρ.2.2 (by omega)).1
        have hPP := hPρ
        unfold PI at hPP
        have k4 : ¬ (ms_I ρ 674).toInt = 0 := by rw [hρ.1.1 674 (by decide)]; omega
        have k5 := hPP.2.2.2.1 k4
        have e7 : (ms_I ρ 673 - ms_I ρ 672).toInt = (ms_I ρ 673).toInt - (ms_I ρ 672).toInt := by rw [iw_sub]; omega
        rw [← hρ.1.1 673 (by decide), ← hρ.1.1 672 (by decide)] at hle
        have gg : fr [665] [] ρ (ms_sI ρ 665 (ms_I ρ 673 - ms_I ρ 672)) := fr_sI (by decide)
        refine s_addLine_L n hn n σ _ 0 (fr_tr fρ (fr_sb gg (by decide) (by decide))) ⟨PI_fr hPρ gg (by decide) (by decide) (by decide) (by decide) (by decide), rC_fr hLρ.2.1 gg (by decide), by rw [gg.1 679 (by decide)]; exact hLρ.2.2⟩ ?_ ?_ ?_ ?_ (by decide) (by decide) (by rw [lt0]; omega)
        · rw [gg.1 673 (by decide), hρ.1.1 673 (by decide)]; exact hpr
        · rw [gg.1 673 (by decide), gg.1 672 (by decide), mI_sI, if_pos rfl]; exact e7
        · rw [mI_sI, if_pos rfl]; exact hle
        · rw [gg.1 674 (by decide)]; exact k4
      exact ws_lt (fun _ => hJ6 _ (fun q => absurd rfl q)) (fun g => hJ6 _ (fun _ => by omega))
    · exact s_addLine_J134 n hn fσ hL6 hpr (by rw [z5]; decide) (by rw [z5]; decide)
  unfold f_X12_addLine
  exact ws_b (s_sizeOf hL.2.1 _ hL.2.2.1 hL.2.2.2) (fun _ _ => ws_i (fun _ => hJ _) (fun _ => hJ _))
end JN7_2
section JN7_3
/-! ===== lines, load ===== -/
theorem s_forkLine (n : Nat) (hn : 70000 ≤ n) {σ : ms_T} (hL : LI σ) (h4 : ¬ (ms_I σ 674).toInt = 0) : ws (f_X12_forkLine n σ) (lnP σ) := by
  have l0 := lt0
  have t4 := t_4
  have hJ : ∀ w : Int32, (¬ w = 0 → (ms_E σ 40 0).toInt ≤ 3) → ws (f_X12_forkLine_J16 n σ w) (lnP σ) := by
    intro w hw
    unfold f_X12_forkLine_J16
    refine ws_b (s_must n σ w 6 hL.1.2.2.2.2 (by decide)) (fun τ hτ => ?_)
    have hPτ := PI_w hL.1 hτ.1 hτ.2.1
    have hLτ : LI τ := ⟨hPτ, rC_fr hL.2.1 hτ.1 (by decide), by rw [hτ.1.1 679 (by decide)]; exact hL.2.2⟩
    have fτ : fr FW FE σ τ := fr_sb hτ.1 (by decide) (by decide)
    refine ws_le (fun e => ?_) (fun e => ws_s ⟨fτ, hLτ, fun q => by omega⟩)
    have hk : (ms_E σ 40 0).toInt ≤ 3 := hw (hτ.2.2 (by have := hτ.2.1; omega)).1
    refine ws_b (s_reads1 n hn hPτ (by rw [hτ.1.1 674 (by decide)]; exact h4)) (fun υ hυ => ?_)
    have fυ : fr [672, 673, 674, 675] [] τ υ := hυ.1.1
    have hLυ : LI υ := ⟨hυ.2.1, rC_fr hLτ.2.1 fυ (by decide), by rw [fυ.1 679 (by decide)]; exact hLτ.2.2⟩
    have fσ : fr FW FE σ υ := fr_tr fτ (fr_sb fυ (by decide) (by decide))
    refine ws_b (s_sizeOf hLυ.2.1 _ hLυ.2.2.1 hLυ.2.2.2) (fun r hr => ws_c (s_takesNumber n hn hυ.2.1 0 r) (fun x ρ hρ => ?_))
    have hLρ := LI_T hLυ hρ.1
    refine ws_b (s_takesEnd n hn hLρ.1) (fun φ hφ => ?_)
    have hT := T_tr hρ.1 hφ
    have hLφ := LI_T hLρ hφ
    have fφ : fr FW FE σ φ := fr_tr fσ (fr_sb hT.1 (by decide) (by decide))
    refine ws_ee (fun _ e => ?_) (fun e => ws_s ⟨fφ, hLφ, fun q => by omega⟩)
    have q1 := hφ.2.2 (by omega)
    have q2 := hρ.2 q1.1
    have q3 := hT.2.2 (by omega)
    have hx : (x, ρ).1 = x := rfl
    have q2' : (0 : Int32).toInt ≤ x.toInt ∧ x.toInt ≤ r.toInt := q2
    have e9 : ms_I φ 679 = ms_I υ 679 := hT.1.1 679 (by decide)
    have eE : ∀ j, ms_E φ 40 j = ms_E σ 40 j := fun j => by rw [hT.1.2 40 (by decide), fυ.2 40 (by decide), hτ.1.2 40 (by decide)]
    refine ws_c (s_forks n hn φ hLφ.2.1 (ms_I φ 679) x hLφ.2.2.1 hLφ.2.2.2 (by omega)) (fun y ψ hψ => ws_l (ws_s ?_))
    have fψ : fr [652, 653] [40] φ ψ := hψ.1.1
    have hy : 0 ≤ y.toInt ∧ y.toInt ≤ 3 := hψ.2 (by rw [eE]; exact hk) (by
      have h2 := hr.1
      rw [eE, e9]
      rw [h2] at q2'
      have h3 : ∀ j, ms_E υ 40 j = ms_E σ 40 j := fun j => by rw [fυ.2 40 (by decide), hτ.1.2 40 (by decide)]
      rw [h3] at q2'
      exact q2'.2)
    have gψ : fr [679] [] ψ (ms_sI ψ 679 y) := fr_sI (by decide)
    have fall : fr FW FE φ (ms_sI ψ 679 y) := fr_tr (fr_sb fψ (by decide) (by decide)) (fr_sb gψ (by decide) (by decide))
    refine ⟨fr_tr fφ fall, ⟨PI_fr (PI_fr hLφ.1 fψ (by decide) (by decide) (by decide) (by decide) (by decide)) gψ (by decide) (by decide) (by decide) (by decide) (by decide), rC_fr hψ.1.2 gψ (by decide), by rw [mI_sI, if_pos rfl]; exact hy⟩, fun _ => ?_⟩
    rw [gψ.1 673 (by decide), fψ.1 673 (by decide)]
    have a1 := q3.2
    have a2 := hυ.2.2
    have a3 := hτ.1.1 673 (by decide)
    rw [a3] at a2
    omega
  unfold f_X12_forkLine
  rw [c0]
  exact ws_g (by decide) (by decide) (ws_le (fun _ => hJ _ (fun q => absurd rfl q)) (fun g => hJ _ (fun _ => by omega)))
theorem lnP_T {σ τ : ms_T} (hL : LI σ) (t : T σ τ) : lnP σ τ := ⟨fr_sb t.1 (by decide) (by decide), LI_T hL t, fun e => (t.2.2 e).2⟩
theorem lnP_st {σ τ ρ : ms_T} {wI wE : List Nat} (h : lnP σ τ) (f : fr wI wE τ ρ) (hC : rC (ms_E ρ 40)) (k1 : ∀ x ∈ wI, x ∈ FW) (k2 : ∀ x ∈ wE, x ∈ FE) (k : wI = [652, 653, 657, 658, 659, 660] ∨ wI = [652, 653]) : lnP σ ρ := by
  obtain ⟨h1, h2, h3⟩ := h
  have kk : ∀ x ∈ [676, 672, 673, 674, 670, 679], x ∉ wI := by
    rcases k with k | k <;> subst k <;> decide
  refine ⟨fr_tr h1 (fr_sb f k1 k2), ⟨PI_fr h2.1 f (kk _ (by decide)) (kk _ (by decide)) (kk _ (by decide)) (kk _ (by decide)) (kk _ (by decide)), hC, by rw [f.1 679 (kk _ (by decide))]; exact h2.2.2⟩, fun e => ?_⟩
  rw [f.1 673 (kk _ (by decide))]
  rw [f.1 670 (kk _ (by decide))] at e
  exact h3 e
theorem s_line (n : Nat) (hn : 70000 ≤ n) {σ : ms_T} (hL : LI σ) (h4 : ¬ (ms_I σ 674).toInt = 0) : ws (f_X12_line n σ) (lnP σ) := by
  have l0 := lt0
  have hC0 := hL.2.1.1
  unfold f_X12_line
  refine ws_b (s_isWord n σ 1 (by decide) (by decide)) (fun _ _ => ws_i (fun _ => ?_) (fun _ => ws_b (s_addLine n hn hL h4) (fun τ hτ => ws_s hτ)))
  refine ws_b (s_isWord n σ 2 (by decide) (by decide)) (fun _ _ => ws_i (fun _ => ?_) (fun _ => ?_))
  · refine ws_b (s_isWord n σ 3 (by decide) (by decide)) (fun _ _ => ws_i (fun _ => ?_) (fun _ => ws_b (s_forkLine n hn hL h4) (fun τ hτ => ws_s hτ)))
    refine ws_b (s_isWord n σ 4 (by decide) (by decide)) (fun _ _ => ws_i (fun _ => ?_) (fun _ => ?_))
    · refine ws_b (s_takes n hn hL.1 5 (by decide) (by decide)) (fun τ hτ => ws_c (s_takesNumber n hn hτ.2.1 0 3) (fun x υ hυ => ?_))
      have hT := T_tr hτ hυ.1
      have hLυ := LI_T hL hT
      refine ws_b (s_sizeOf hLυ.2.1 _ hLυ.2.2.1 hLυ.2.2.2) (fun r hr => ws_c (s_takesNumber n hn hLυ.1 0 r) (fun y ρ hρ => ?_))
      have hT2 := T_tr hT hρ.1
      refine ws_b (s_takesEnd n hn hρ.1.2.1) (fun φ hφ => ?_)
      have hT3 := T_tr hT2 hφ
      have hP := lnP_T hL hT3
      have hLφ := hP.2.1
      refine ws_ee (fun _ e => ?_) (fun _ => ws_s hP)
      have q1 := hφ.2.2 (by omega)
      have q2 : (0 : Int32).toInt ≤ y.toInt ∧ y.toInt ≤ r.toInt := hρ.2 q1.1
      have q3 := hρ.1.2.2 q1.1
      have q4 : (0 : Int32).toInt ≤ x.toInt ∧ x.toInt ≤ (3 : Int32).toInt := hυ.2 q3.1
      rw [t_3] at q4
      refine ws_c (s_shows n hn φ hLφ.2.1 x _ y (by omega) (by omega) hLφ.2.2.1 hLφ.2.2.2 (by omega) (by omega)) (fun z ψ hψ => ws_s ?_)
      exact lnP_st hP hψ.1 hψ.2 (by decide) (by decide) (Or.inl rfl)
    · have hJ3 : ∀ τ : ms_T, fr FW FE σ τ → LI τ → (ms_I σ 673).toInt ≤ (ms_I τ 673).toInt → ws (f_X12_line_J123 n τ) (lnP σ) := by
        intro τ fτ hLτ hle
        unfold f_X12_line_J123
        refine ws_b (s_takesEnd n hn hLτ.1) (fun υ hυ => ?_)
        have hP : lnP σ υ := ⟨fr_tr fτ (fr_sb hυ.1 (by decide) (by decide)), LI_T hLτ hυ, fun e => by have := (hυ.2.2 e).2; omega⟩
        refine ws_ee (fun _ e => ?_) (fun _ => ws_s hP)
        exact ws_c (s_freezes n hn υ hP.2.1.2.1 _ hP.2.1.2.2.1 hP.2.1.2.2.2) (fun z ψ hψ => ws_s (lnP_st hP hψ.1 hψ.2 (by decide) (by decide) (Or.inl rfl)))
      have hJ7 : ∀ w : Int32, ws (f_X12_line_J107 n σ w) (lnP σ) := by
        intro w
        unfold f_X12_line_J107
        refine ws_b (s_must n σ w 6 hL.1.2.2.2.2 (by decide)) (fun τ hτ => ?_)
        have hPτ := PI_w hL.1 hτ.1 hτ.2.1
        have hLτ : LI τ := ⟨hPτ, rC_fr hL.2.1 hτ.1 (by decide), by rw [hτ.1.1 679 (by decide)]; exact hL.2.2⟩
        have fτ : fr FW FE σ τ := fr_sb hτ.1 (by decide) (by decide)
        have e3 := hτ.1.1 673 (by decide)
        refine ws_i (fun _ => ?_) (fun _ => hJ3 τ fτ hLτ (by rw [e3]; omega))
        refine ws_b (s_reads1 n hn hPτ (by rw [hτ.1.1 674 (by decide)]; exact h4)) (fun υ hυ => ?_)
        have fυ : fr [672, 673, 674, 675] [] τ υ := hυ.1.1
        exact hJ3 υ (fr_tr fτ (fr_sb fυ (by decide) (by decide))) ⟨hυ.2.1, rC_fr hLτ.2.1 fυ (by decide), by rw [fυ.1 679 (by decide)]; exact hLτ.2.2⟩ (by have := hυ.2.2; rw [e3] at this; omega)
      exact ws_g (by decide) (by decide) (ws_i (fun _ => hJ7 _) (fun _ => hJ7 _))
  · refine ws_b (s_reads1 n hn hL.1 h4) (fun τ hτ => ?_)
    have fτ : fr [672, 673, 674, 675] [] σ τ := hτ.1.1
    have hLτ : LI τ := ⟨hτ.2.1, rC_fr hL.2.1 fτ (by decide), by rw [fτ.1 679 (by decide)]; exact hL.2.2⟩
    have hc := hLτ.2.1.1
    rw [c0]
    have e1 : (ms_E τ 40 0 - 1).toInt = (ms_E τ 40 0).toInt - 1 := by (try simp only [iw_add, iw_sub, iw_mul, t_m1, lt0, lt1, t_2, t_3, t_4, t_5, t_6, t_8, t_9, t_10, t_16, t_20, t_24, t_26, t_30, t_31, t_48, t_64, t_72, t_76, t_92, t_101, t_252, t_444, t_512, t_900, t_1980, t_65521, t_99999, t_mil]) <;> omega
    refine ws_g (by decide) (by decide) (ws_c (s_takesNumber n hn hτ.2.1 0 _) (fun x υ hυ => ?_))
    have hLυ := LI_T hLτ hυ.1
    have hJ5 : ∀ w : Int32, 0 ≤ w.toInt → w.toInt ≤ 3 → ws (f_X12_line_J57 n υ w) (lnP σ) := by
      intro w w0 w1
      unfold f_X12_line_J57
      have g : fr [679] [] υ (ms_sI υ 679 w) := fr_sI (by decide)
      have hL1 : LI (ms_sI υ 679 w) := ⟨PI_fr hLυ.1 g (by decide) (by decide) (by decide) (by decide) (by decide), rC_fr hLυ.2.1 g (by decide), by rw [mI_sI, if_pos rfl]; exact ⟨w0, w1⟩⟩
      refine ws_l (ws_b (s_takesEnd n hn hL1.1) (fun φ hφ => ws_s ?_))
      refine ⟨fr_tr (fr_sb fτ (by decide) (by decide)) (fr_tr (fr_sb hυ.1.1 (by decide) (by decide)) (fr_tr (fr_sb g (by decide) (by decide)) (fr_sb hφ.1 (by decide) (by decide)))), LI_T hL1 hφ, fun e => ?_⟩
      have a1 := hφ.2.2 e
      rw [g.1 670 (by decide), g.1 673 (by decide)] at a1
      have a2 := hυ.1.2.2 a1.1
      have a3 := hτ.2.2
      have a4 : (ms_I τ 673).toInt < (ms_I υ 673).toInt := a2.2
      omega
    refine ws_ee (fun _ e => ?_) (fun _ => hJ5 _ hLυ.2.2.1 hLυ.2.2.2)
    have q : (0 : Int32).toInt ≤ x.toInt ∧ x.toInt ≤ (ms_E τ 40 0 - 1).toInt := hυ.2 (by show (ms_I υ 670).toInt = 0; omega)
    exact hJ5 x (by omega) (by omega)
end JN7_3
section JN7_4
/-! ===== load ===== -/
theorem s_begins (n : Nat) (hn : 70000 ≤ n) {σ : ms_T} (a : Int32) (h0 : 0 ≤ a.toInt) (h1 : a.toInt ≤ 900) : ws (f_X12_begins n σ a) (fun τ => fr [670, 672, 673, 674, 675, 676] [] σ τ ∧ PI τ ∧ (ms_I τ 670).toInt = 0 ∧ ms_I τ 676 = a) := by
  unfold f_X12_begins
  refine ws_l (ws_l (ws_ln (fun σ3 hs => ?_)))
  have e6 : ms_I σ3 676 = a := by rw [hs, mI_sI, if_neg (by decide), mI_sI, if_neg (by decide), mI_sI, if_pos rfl]
  have e3 : ms_I σ3 673 = 0 := by rw [hs, mI_sI, if_neg (by decide), mI_sI, if_pos rfl]
  have e0 : ms_I σ3 670 = 0 := by rw [hs, mI_sI, if_pos rfl]
  have f3 : fr [670, 672, 673, 674, 675, 676] [] σ σ3 := by rw [hs]; exact fr_tr (fr_sI (by decide)) (fr_tr (fr_sI (by decide)) (fr_sI (by decide)))
  refine ws_b (s_reads n hn σ3 (by rw [e6]; exact h1) (by rw [e3]; decide) (by rw [e3, e6]; exact h0)) (fun τ hτ => ws_s ?_)
  have g := hτ.1.1
  have g6 := g.1 676 (by decide)
  have g0 := g.1 670 (by decide)
  refine ⟨fr_tr f3 (fr_sb g (by decide) (by decide)), ⟨by rw [g6, e6]; exact ⟨h0, h1⟩, hτ.1.2.1, hτ.1.2.2.1, fun q => by rw [g6]; exact hτ.1.2.2.2 q, by rw [g0, e0]; decide⟩, by rw [g0, e0]; rfl, by rw [g6, e6]⟩
theorem s_ends (n : Nat) (σ : ms_T) : ws (f_X12_ends n σ) (fun τ => fr [667, 668, 669, 652] [] σ τ ∧ ms_I τ 667 = 0) := by
  have hJ : ∀ (τ : ms_T) (w : Int32), fr [667, 668, 669, 652] [] σ τ → ms_I τ 667 = 0 → ws (f_X12_ends_J29 n τ w) (fun τ => fr [667, 668, 669, 652] [] σ τ ∧ ms_I τ 667 = 0) := by
    intro τ w hf h0
    unfold f_X12_ends_J29
    refine ws_l (ws_i (fun _ => ws_l (ws_s ⟨fr_tr hf (fr_tr (fr_sI (by decide)) (fr_sI (by decide))), ?_⟩)) (fun _ => ws_l (ws_s ⟨fr_tr hf (fr_tr (fr_sI (by decide)) (fr_sI (by decide))), ?_⟩)))
    · rw [mI_sI, if_neg (by decide), mI_sI, if_neg (by decide)]; exact h0
    · rw [mI_sI, if_neg (by decide), mI_sI, if_neg (by decide)]; exact h0
  unfold f_X12_ends
  have e : ms_I (ms_sI (ms_sI σ 667 0) 668 (ms_I (ms_sI σ 667 0) 670)) 667 = 0 := by rw [mI_sI, if_neg (by decide), mI_sI, if_pos rfl]
  have f : fr [667, 668, 669, 652] [] σ (ms_sI (ms_sI σ 667 0) 668 (ms_I (ms_sI σ 667 0) 670)) := fr_tr (fr_sI (by decide)) (fr_sI (by decide))
  exact ws_l (ws_l (ws_i (fun _ => hJ _ _ f e) (fun _ => hJ _ _ f e)))
theorem rC_ag {f g : Nat → Int32} (h : rC g) (e : ∀ j, j < 1980 → f j = g j) : rC f := by
  obtain ⟨h1, h2, h3, h4, h5, h6, h7, h8, h9⟩ := h
  refine ⟨?_, ?_, ?_, ?_, fun r hr => ?_, fun r hr => ?_, fun r hr => ?_, fun r hr => ?_, fun r hr => ?_⟩
  · rw [e _ (by omega)]; exact h1
  · rw [e _ (by omega)]; exact h2
  · rw [e _ (by omega)]; exact h3
  · rw [e _ (by omega)]; exact h4
  · rw [e _ (by omega)]; exact h5 r hr
  · rw [e _ (by omega)]; exact h6 r hr
  · rw [e _ (by omega)]; exact h7 r hr
  · rw [e _ (by omega)]; exact h8 r hr
  · rw [e _ (by omega)]; exact h9 r hr
/-- what load may change; what it keeps apart -/
def GW : List Nat := [652, 653, 657, 658, 659, 660, 665, 667, 668, 669, 670, 671, 672, 673, 674, 675, 676, 679]
def GE : List Nat := [40, 41, 42, 43, 44, 46]
def SV (σ0 τ : ms_T) : Prop := fr GW GE σ0 τ ∧ ∀ j, j < 1980 → ms_E τ 41 j = ms_E σ0 40 j
theorem RI_SV {σ0 τ : ms_T} (h : RI σ0) (s : fr GW GE σ0 τ) (hC : rC (ms_E τ 40)) (h0 : ms_I τ 667 = 0) : RI τ := by
  refine ⟨⟨?_, by rw [h0]; decide, ?_, ?_⟩, hC⟩
  · rw [s.1 664 (by decide)]; exact h.1.1
  · rw [s.1 682 (by decide)]; exact h.1.2.2.1
  · rw [s.1 697 (by decide)]; exact h.1.2.2.2
theorem s_load138 (n : Nat) {σ0 : ms_T} (hR : RI σ0) : ∀ (k : Nat) (σ : ms_T) (v : Int32), SV σ0 σ → ms_I σ 667 = 0 → (∀ j : Nat, (j : Int) < v.toInt → ms_E σ 40 j = ms_E σ0 40 j) → 0 ≤ v.toInt → v.toInt ≤ 1980 → 1981 - v.toInt ≤ (k : Int) → ws (f_X12_load_L138 n k σ v) (fun q => RI q.2 ∧ ms_I q.2 667 = 0) := by
  intro k
  induction k with
  | zero => intro σ v hs h7 hj g0 g1 g2; omega
  | succ k ih =>
    intro σ v hs h7 hj g0 g1 g2
    have t := t_1980
    rw [f_X12_load_L138.eq_2]
    refine ws_le (fun _ => ws_s ⟨RI_SV hR hs.1 (rC_ag hR.2 (fun j h => hj j (by omega))) h7, h7⟩) (fun _ => ?_)
    have e1 : (v + 1).toInt = v.toInt + 1 := by (try simp only [iw_add, iw_sub, iw_mul, t_m1, lt0, lt1, t_2, t_3, t_4, t_5, t_6, t_8, t_9, t_10, t_16, t_20, t_24, t_26, t_30, t_31, t_48, t_64, t_72, t_76, t_92, t_101, t_252, t_444, t_512, t_900, t_1980, t_65521, t_99999, t_mil]) <;> omega
    have hc := ic_clamp g0
    refine ws_g g0 (by omega) (ws_g g0 (by omega) (ws_l (ws_l (ih _ (v + 1) ⟨fr_tr hs.1 (fr_sE (by decide)), fun j h => ?_⟩ h7 (fun j h => ?_) (by omega) (by omega) (by omega)))))
    · rw [mE_sE, if_neg (fun q => absurd q.1 (by decide))]; exact hs.2 j h
    · rw [mE_sE]
      by_cases e : j = v.toNatClampNeg
      · rw [if_pos ⟨rfl, e⟩, e]; exact hs.2 _ (by omega)
      · rw [if_neg (fun q => e q.2)]; exact hj j (by omega)
theorem s_load118 (n : Nat) (hn : 70000 ≤ n) {σ0 σ : ms_T} (hR : RI σ0) (hs : SV σ0 σ) (hC : (ms_I σ 670).toInt = 0 → rC (ms_E σ 40)) : ws (f_X12_load_J118 n σ) (fun q => RI q.2 ∧ ms_I q.2 667 = 0) := by
  have l0 := lt0
  unfold f_X12_load_J118
  refine ws_b (s_ends n σ) (fun τ hτ => ?_)
  have fτ : fr GW GE σ0 τ := fr_tr hs.1 (fr_sb hτ.1 (by decide) (by decide))
  refine ws_ee (fun _ e => ws_g (by decide) (by decide) (ws_s ?_)) (fun _ => ?_)
  · rw [hτ.1.1 670 (by decide)] at e
    exact ⟨RI_SV hR fτ (rC_fr (hC (by omega)) hτ.1 (by decide)) hτ.2, hτ.2⟩
  · exact s_load138 n hR n τ 0 ⟨fτ, fun j h => by rw [hτ.1.2 41 (by decide)]; exact hs.2 j h⟩ hτ.2 (fun j h => by rw [lt0] at h; omega) (by decide) (by decide) (by rw [lt0]; omega)
theorem s_load97 (n : Nat) (hn : 70000 ≤ n) {σ0 : ms_T} (hR : RI σ0) : ∀ (k : Nat) (σ : ms_T), SV σ0 σ → ((ms_I σ 670).toInt = 0 → LI σ) → 1 ≤ k → ((ms_I σ 670).toInt = 0 → ¬ (ms_I σ 674).toInt = 0 → 902 - (ms_I σ 673).toInt ≤ (k : Int)) → ws (f_X12_load_L97 n k σ) (fun q => RI q.2 ∧ ms_I q.2 667 = 0) := by
  intro k
  induction k with
  | zero => intro σ hs hL hk hm; omega
  | succ k ih =>
    intro σ hs hL hk hm
    have l0 := lt0
    rw [f_X12_load_L97.eq_2]
    refine ws_ee (fun _ e => ws_ee (fun _ e4 => s_load118 n hn hR hs (fun q => (hL q).2.1)) (fun e4 => ?_)) (fun _ => s_load118 n hn hR hs (fun q => (hL q).2.1))
    have hL' := hL (by omega)
    have hm' := hm (by omega) (by omega)
    have hPP := hL'.1
    unfold PI at hPP
    have h3 := hPP.2.2.2.1 (by omega)
    refine ws_b (s_line n hn hL' (by omega)) (fun τ hτ => ih τ ⟨fr_tr hs.1 (fr_sb hτ.1 (by decide) (by decide)), fun j h => by rw [hτ.1.2 41 (by decide)]; exact hs.2 j h⟩ (fun _ => hτ.2.1) (by omega) (fun q _ => by have := hτ.2.2 q; omega))
theorem s_load28 (n : Nat) (hn : 70000 ≤ n) {σ0 : ms_T} (hR : RI σ0) (a : Int32) (h0 : 0 ≤ a.toInt) (h1 : a.toInt ≤ 900) : ∀ (k : Nat) (σ : ms_T) (v : Int32), fr [] [41] σ0 σ → (∀ j : Nat, (j : Int) < v.toInt → ms_E σ 41 j = ms_E σ0 40 j) → 0 ≤ v.toInt → v.toInt ≤ 1980 → 1981 - v.toInt ≤ (k : Int) → ws (f_X12_load_L28 n k σ a v) (fun q => RI q.2 ∧ ms_I q.2 667 = 0) := by
  intro k
  induction k with
  | zero => intro σ v hf hj g0 g1 g2; omega
  | succ k ih =>
    intro σ v hf hj g0 g1 g2
    have t := t_1980
    rw [f_X12_load_L28.eq_2]
    refine ws_le (fun _ => ?_) (fun _ => ?_)
    · refine ws_b (s_clears n (by omega) σ) (fun σ7 h7 => ?_)
      have hC7 := cl_rC h7
      have f7 : fr [] [40] σ σ7 := ⟨fun φ _ => h7.1 φ, fun κ hκ j => h7.2.1 κ j (by simpa using hκ)⟩
      have f8 : fr [679] [40] σ (ms_sI σ7 679 0) := fr_tr (fr_sb f7 (by decide) (by decide)) (fr_sI (by decide))
      have e8 : ms_I (ms_sI σ7 679 0) 679 = 0 := by rw [mI_sI, if_pos rfl]
      refine ws_l (ws_b (s_begins n hn a h0 h1) (fun σ9 h9 => ?_))
      have hL9 : LI σ9 := ⟨h9.2.1, rC_fr (rC_fr hC7 (fr_sI (wI := [679]) (wE := []) (by decide)) (by decide)) h9.1 (by decide), by rw [h9.1.1 679 (by decide), e8]; decide⟩
      have s9 : SV σ0 σ9 := ⟨fr_tr (fr_sb hf (by decide) (by decide)) (fr_tr (fr_sb f8 (by decide) (by decide)) (fr_sb h9.1 (by decide) (by decide))), fun j h => by rw [h9.1.2 41 (by decide), f8.2 41 (by decide)]; exact hj j (by omega)⟩
      have hfuel : ∀ τ : ms_T, PI τ → 902 - (ms_I τ 673).toInt ≤ (n : Int) := by
        intro τ h
        have h' := h
        obtain ⟨q1, q2, q3, q4, q5⟩ := h'
        omega
      refine ws_b (s_isWord n σ9 0 (by decide) (by decide)) (fun r hr => ws_i (fun _ => s_load97 n hn hR n σ9 s9 (fun _ => hL9) (by omega) (fun _ _ => hfuel _ h9.2.1)) (fun q => ?_))
      have hq := hr q
      refine ws_b (s_reads1 n hn h9.2.1 (by omega)) (fun σa ha => ?_)
      have fa : fr [672, 673, 674, 675] [] σ9 σa := ha.1.1
      have hLa : LI σa := ⟨ha.2.1, rC_fr hL9.2.1 fa (by decide), by rw [fa.1 679 (by decide)]; exact hL9.2.2⟩
      refine ws_c (s_takesNumber n hn ha.2.1 101 65521) (fun x σb hb => ws_g (by decide) (by decide) (ws_l ?_))
      have hLb := LI_T hLa hb.1
      have fe : fr [] [40] σb (ms_sE σb 40 (1 : Int32).toNatClampNeg x) := fr_sE (by decide)
      have hPe := PI_fr hLb.1 fe (by decide) (by decide) (by decide) (by decide) (by decide)
      refine ws_b (s_takesEnd n hn hPe) (fun σd hd => ?_)
      have fall : fr GW GE σ9 σd := fr_tr (fr_sb fa (by decide) (by decide)) (fr_tr (fr_sb hb.1.1 (by decide) (by decide)) (fr_tr (fr_sb fe (by decide) (by decide)) (fr_sb hd.1 (by decide) (by decide))))
      have e41 : ∀ j, ms_E σd 41 j = ms_E σ9 41 j := fun j => by rw [hd.1.2 41 (by decide), fe.2 41 (by decide), hb.1.1.2 41 (by decide), fa.2 41 (by decide)]
      refine s_load97 n hn hR n σd ⟨fr_tr s9.1 fall, fun j h => by rw [e41]; exact s9.2 j h⟩ (fun e => ⟨hd.2.1, ?_, ?_⟩) (by omega) (fun _ _ => hfuel _ hd.2.1)
      · have q1 := (hd.2.2 e).1
        have q1' : (ms_I σb 670).toInt = 0 := q1
        have q2 : (101 : Int32).toInt ≤ x.toInt ∧ x.toInt ≤ (65521 : Int32).toInt := hb.2 q1'
        rw [t_101, t_65521] at q2
        refine rC_fr (rC_sE hLb.2.1 ?_) hd.1 (by decide)
        rw [c1]
        exact ⟨fun _ => by omega, fun _ => by omega, fun _ => by omega, fun _ => by omega, fun _ _ _ => by omega, fun _ _ _ => by omega, fun _ _ _ => by omega, fun _ _ _ => by omega, fun _ _ _ => by omega⟩
      · rw [hd.1.1 679 (by decide), fe.1 679 (by decide)]; exact hLb.2.2
    · have e1 : (v + 1).toInt = v.toInt + 1 := by (try simp only [iw_add, iw_sub, iw_mul, t_m1, lt0, lt1, t_2, t_3, t_4, t_5, t_6, t_8, t_9, t_10, t_16, t_20, t_24, t_26, t_30, t_31, t_48, t_64, t_72, t_76, t_92, t_101, t_252, t_444, t_512, t_900, t_1980, t_65521, t_99999, t_mil]) <;> omega
      have hc := ic_clamp g0
      refine ws_g g0 (by omega) (ws_g g0 (by omega) (ws_l (ws_l (ih _ (v + 1) (fr_tr hf (fr_sE (by decide))) (fun j h => ?_) (by omega) (by omega) (by omega)))))
      rw [mE_sE]
      by_cases e : j = v.toNatClampNeg
      · rw [if_pos ⟨rfl, e⟩, e]; exact hf.2 40 (by decide) _
      · rw [if_neg (fun q => e q.2)]; exact hj j (by omega)
theorem s_load (n : Nat) (hn : 70000 ≤ n) (σ : ms_T) (hR : RI σ) (a1 : Int32) : ws (f_X12_load n σ a1) (fun res => RI res.2 ∧ ld_M σ a1 res.2) := by
  have l0 := lt0
  have h9 := hR.1.2.1
  unfold f_X12_load f_X12_load_J18
  refine ws_bo (s_isIn n _ _ _) (fun q => ?_) (fun q => ?_)
  · refine ws_is (fun τ h => ?_) (fun e => absurd e (by decide))
    obtain ⟨a, b, c⟩ := is_R hR h
    exact ⟨a, Or.inl ⟨by omega, b⟩⟩
  · refine ws_c (s_is n σ 0) (fun r τ h => ws_i (fun e => absurd rfl (bo_0 h.2 e)) (fun _ => ?_))
    obtain ⟨a, b, c⟩ := is_R hR h.1
    exact ws_m (s_load28 n hn a a1 (by omega) (by omega) n τ 0 fr_rf (fun j h => by rw [lt0] at h; omega) (by decide) (by decide) (by rw [lt0]; omega)) (fun res hres => ⟨hres.1, Or.inr ⟨by omega, hres.2⟩⟩)
end JN7_4
section JN7_5
/-! ===== hear ===== -/
def TM (σ τ : ms_T) : Prop := fr [670, 671, 672, 673, 674, 675] [44] σ τ ∧ PI τ ∧ ((ms_I τ 670).toInt = 0 → (ms_I σ 670).toInt = 0 ∧ (ms_I σ 673).toInt < (ms_I τ 673).toInt)
theorem TM_T {σ τ υ : ms_T} (h : T σ τ) (g : TM τ υ) : TM σ υ := by
  refine ⟨fr_tr (fr_sb h.1 (by decide) (by decide)) g.1, g.2.1, fun e => ?_⟩
  have a := g.2.2 e
  have b := h.2.2 a.1
  exact ⟨b.1, by omega⟩
theorem s_takesMarks_L (n : Nat) (hn : 70000 ≤ n) {σ0 : ms_T} (hC : rC (ms_E σ0 40)) : ∀ (k : Nat) (σ : ms_T) (v : Int32), TM σ0 σ → 0 ≤ v.toInt → v.toInt ≤ 64 → 66 - v.toInt ≤ (k : Int) → ws (f_X12_takesMarks_L8 n k σ v) (fun q => TM σ0 q.2) := by
  intro k
  induction k with
  | zero => intro σ v h g0 g1 g2; omega
  | succ k ih =>
    intro σ v h g0 g1 g2
    have l0 := lt0
    have t2 := t_2
    have t64 := t_64
    rw [f_X12_takesMarks_L8.eq_2]
    have h82 : ws (f_X12_takesMarks_J82 n σ v) (fun q => TM σ0 q.2) := by
      unfold f_X12_takesMarks_J82
      refine ws_b (s_takesEnd n hn h.2.1) (fun τ hτ => ws_s ⟨fr_tr h.1 (fr_sb hτ.1 (by decide) (by decide)), hτ.2.1, fun e => ?_⟩)
      have a := hτ.2.2 e
      have b := h.2.2 a.1
      exact ⟨b.1, by show _ < (ms_I τ 673).toInt; have := a.2; have := b.2; omega⟩
    refine ws_ee (fun _ e => ws_ee (fun _ e4 => ?_) (fun _ => h82)) (fun _ => h82)
    refine ws_b (s_isMark (rC_fr hC h.1 (by decide)) _) (fun r hr => ws_b (s_must n σ r 3 h.2.1.2.2.2.2 (by decide)) (fun τ hτ => ?_))
    have hPτ := PI_w h.2.1 hτ.1 hτ.2.1
    have hJ : ∀ w : Int32, (¬ w = 0 → v.toInt < 64) → ws (f_X12_takesMarks_J48 n (f_X12_takesMarks_L8 n k) τ v w) (fun q => TM σ0 q.2) := by
      intro w hw
      unfold f_X12_takesMarks_J48
      refine ws_b (s_must n τ w 6 hτ.2.1 (by decide)) (fun υ hυ => ?_)
      have f2 : fr [670, 671] [] σ υ := fr_tr hτ.1 hυ.1
      have hPυ := PI_w h.2.1 f2 hυ.2.1
      refine ws_le (fun e => ?_) (fun e => ws_s ⟨fr_tr h.1 (fr_sb f2 (by decide) (by decide)), hPυ, fun q => by have q : (ms_I υ 670).toInt = 0 := q; omega⟩)
      have hq := hυ.2.2 (by have := hυ.2.1; omega)
      have hv := hw hq.1
      have fe : fr [] [44] υ (ms_sE υ 44 v.toNatClampNeg (ms_I υ 675)) := fr_sE (by decide)
      have hPe := PI_fr hPυ fe (by decide) (by decide) (by decide) (by decide) (by decide)
      refine ws_g g0 (by omega) (ws_l (ws_l (ws_b (s_reads1 n hn hPe (by rw [fe.1 674 (by decide), f2.1 674 (by decide)]; omega)) (fun ρ hρ => ?_))))
      have fρ : fr [672, 673, 674, 675] [] _ ρ := hρ.1.1
      refine ih ρ (v + 1) ⟨fr_tr h.1 (fr_tr (fr_sb f2 (by decide) (by decide)) (fr_tr (fr_sb fe (by decide) (by decide)) (fr_sb fρ (by decide) (by decide)))), hρ.2.1, fun _ => ?_⟩ (by (try simp only [iw_add, iw_sub, iw_mul, t_m1, lt0, lt1, t_2, t_3, t_4, t_5, t_6, t_8, t_9, t_10, t_16, t_20, t_24, t_26, t_30, t_31, t_48, t_64, t_72, t_76, t_92, t_101, t_252, t_444, t_512, t_900, t_1980, t_65521, t_99999, t_mil]) <;> omega) (by (try simp only [iw_add, iw_sub, iw_mul, t_m1, lt0, lt1, t_2, t_3, t_4, t_5, t_6, t_8, t_9, t_10, t_16, t_20, t_24, t_26, t_30, t_31, t_48, t_64, t_72, t_76, t_92, t_101, t_252, t_444, t_512, t_900, t_1980, t_65521, t_99999, t_mil]) <;> omega) (by (try simp only [iw_add, iw_sub, iw_mul, t_m1, lt0, lt1, t_2, t_3, t_4, t_5, t_6, t_8, t_9, t_10, t_16, t_20, t_24, t_26, t_30, t_31, t_48, t_64, t_72, t_76, t_92, t_101, t_252, t_444, t_512, t_900, t_1980, t_65521, t_99999, t_mil]) <;> omega)
      have b := h.2.2 (by omega)
      have c := hρ.2.2
      rw [fe.1 673 (by decide), f2.1 673 (by decide)] at c
      exact ⟨b.1, by have := b.2; omega⟩
    exact ws_le (fun _ => hJ _ (fun q => absurd rfl q)) (fun g => hJ _ (fun _ => by omega))
theorem s_takesMarks (n : Nat) (hn : 70000 ≤ n) {σ : ms_T} (hC : rC (ms_E σ 40)) (h : PI σ) : ws (f_X12_takesMarks n σ) (fun q => TM σ q.2) := by
  unfold f_X12_takesMarks
  refine ws_b (s_takes n hn h 11 (by decide) (by decide)) (fun τ hτ => ?_)
  exact s_takesMarks_L n hn hC n τ 0 ⟨fr_sb hτ.1 (by decide) (by decide), hτ.2.1, hτ.2.2⟩ (by decide) (by decide) (by rw [lt0]; omega)
def HW : List Nat := [657, 658, 659, 660, 670, 671, 672, 673, 674, 675]
def HE : List Nat := [42, 43, 44]
def SI (σ : ms_T) (q : Int32 × ms_T) : Prop := fr HW HE σ q.2 ∧ PI q.2 ∧ ((ms_I q.2 670).toInt = 0 → (ms_I σ 673).toInt < (ms_I q.2 673).toInt)
theorem SI_w {σ τ υ : ms_T} {wI wE : List Nat} (h : TM σ τ) (f : fr wI wE τ υ) (k1 : ∀ x ∈ wI, x ∈ [657, 658, 659, 660]) (k2 : ∀ x ∈ wE, x ∈ HE) (r : Int32) : SI σ (r, υ) := by
  have f' : fr [657, 658, 659, 660] HE τ υ := fr_sb f k1 k2
  refine ⟨fr_tr (fr_sb h.1 (by decide) (by decide)) (fr_sb f' (by decide) (by decide)), PI_fr h.2.1 f' (by decide) (by decide) (by decide) (by decide) (by decide), fun e => ?_⟩
  have e : (ms_I υ 670).toInt = 0 := e
  show _ < (ms_I υ 673).toInt
  rw [f'.1 670 (by decide)] at e
  rw [f'.1 673 (by decide)]
  exact (h.2.2 e).2
theorem s_statementIn (n : Nat) (hn : 70000 ≤ n) {σ : ms_T} (hC : rC (ms_E σ 40)) (h : PI σ) (h0 : (ms_I σ 670).toInt = 0) (h4 : ¬ (ms_I σ 674).toInt = 0) : ws (f_X12_statementIn n σ) (SI σ) := by
  have l0 := lt0
  unfold f_X12_statementIn
  refine ws_b (s_reads1 n hn h h4) (fun σ1 h1 => ?_)
  have T1 : T σ σ1 := T_rd fr_rf h0 h1
  refine ws_c (s_takesNumber n hn T1.2.1 0 99999) (fun x σ2 h2 => ?_)
  have T2 := T_tr T1 h2.1
  refine ws_b (s_takes n hn T2.2.1 8 (by decide) (by decide)) (fun σ3 h3 => ?_)
  have T3 := T_tr T2 h3
  refine ws_c (s_takesNumber n hn T3.2.1 (x + 1) 99999) (fun y σ4 h4 => ?_)
  have T4 := T_tr T3 h4.1
  refine ws_b (s_takes n hn T4.2.1 9 (by decide) (by decide)) (fun σ5 h5 => ?_)
  have T5 := T_tr T4 h5
  refine ws_c (s_takesMark n hn T5.2.1) (fun u σ6 h6 => ?_)
  have T6 := T_tr T5 h6
  refine ws_b (s_takes n hn T6.2.1 10 (by decide) (by decide)) (fun σ7 h7 => ?_)
  have T7 := T_tr T6 h7
  refine ws_c (s_takesMark n hn T7.2.1) (fun w σ8 h8 => ?_)
  have T8 := T_tr T7 h8
  refine ws_c (s_takesMarks n hn (rC_fr hC T8.1 (by decide)) T8.2.1) (fun z σ9 h9 => ?_)
  have T9 := TM_T T8 h9
  have p9 := T9.2.1.2.2.2.2
  refine ws_le (fun e => ?_) (fun e => ws_s (SI_w T9 (wI := []) (wE := []) fr_rf (by simp) (by simp) 0))
  have e8 := (h9.2.2 (show (ms_I σ9 670).toInt = 0 by have : 0 ≤ (ms_I σ9 670).toInt := p9; omega)).1
  have e7 := (h8.2.2 e8).1
  have e6 := (h7.2.2 e7).1
  have e5 := (h6.2.2 e6).1
  have e4 := (h5.2.2 e5).1
  have q4 : (x + 1).toInt ≤ y.toInt ∧ y.toInt ≤ (99999 : Int32).toInt := h4.2 e4
  have e3 := (h4.1.2.2 e4).1
  have e2 := (h3.2.2 e3).1
  have q2 : (0 : Int32).toInt ≤ x.toInt ∧ x.toInt ≤ (99999 : Int32).toInt := h2.2 e2
  rw [t_99999] at q2
  have ex : (x + 1).toInt = x.toInt + 1 := by (try simp only [iw_add, iw_sub, iw_mul, t_m1, lt0, lt1, t_2, t_3, t_4, t_5, t_6, t_8, t_9, t_10, t_16, t_20, t_24, t_26, t_30, t_31, t_48, t_64, t_72, t_76, t_92, t_101, t_252, t_444, t_512, t_900, t_1980, t_65521, t_99999, t_mil]) <;> omega
  exact ws_c (s_whyIn n hn σ9 (rC_fr hC T9.1 (by decide)) z u x y w (by omega) (by omega)) (fun b ρ hρ => ws_s (SI_w T9 hρ (by decide) (by decide) b))
theorem s_statementGrow (n : Nat) (hn : 70000 ≤ n) {σ : ms_T} (hC : rC (ms_E σ 40)) (h : PI σ) : ws (f_X12_statementGrow n σ) (SI σ) := by
  have l0 := lt0
  unfold f_X12_statementGrow
  refine ws_b (s_takes n hn h 7 (by decide) (by decide)) (fun σ1 T1 => ?_)
  refine ws_c (s_takesNumber n hn T1.2.1 0 99999) (fun x σ2 h2 => ?_)
  have T2 := T_tr T1 h2.1
  refine ws_b (s_takes n hn T2.2.1 9 (by decide) (by decide)) (fun σ3 h3 => ?_)
  have T3 := T_tr T2 h3
  refine ws_c (s_takesMark n hn T3.2.1) (fun u σ4 h4 => ?_)
  have T4 := T_tr T3 h4
  refine ws_b (s_takes n hn T4.2.1 2 (by decide) (by decide)) (fun σ5 h5 => ?_)
  have T5 := T_tr T4 h5
  refine ws_c (s_takesNumber n hn T5.2.1 x 99999) (fun y σ6 h6 => ?_)
  have T6 := T_tr T5 h6.1
  refine ws_b (s_takes n hn T6.2.1 10 (by decide) (by decide)) (fun σ7 h7 => ?_)
  have T7 := T_tr T6 h7
  refine ws_c (s_takesMark n hn T7.2.1) (fun w σ8 h8 => ?_)
  have T8 := T_tr T7 h8
  refine ws_c (s_takesMarks n hn (rC_fr hC T8.1 (by decide)) T8.2.1) (fun z σ9 h9 => ?_)
  have T9 := TM_T T8 h9
  have p9 := T9.2.1.2.2.2.2
  refine ws_le (fun e => ?_) (fun e => ws_s (SI_w T9 (wI := []) (wE := []) fr_rf (by simp) (by simp) 0))
  have e8 := (h9.2.2 (show (ms_I σ9 670).toInt = 0 by have : 0 ≤ (ms_I σ9 670).toInt := p9; omega)).1
  have e7 := (h8.2.2 e8).1
  have e6 := (h7.2.2 e7).1
  have q6 : x.toInt ≤ y.toInt ∧ y.toInt ≤ (99999 : Int32).toInt := h6.2 e6
  have e5 := (h6.1.2.2 e6).1
  have e4 := (h5.2.2 e5).1
  have e3 := (h4.2.2 e4).1
  have e2 := (h3.2.2 e3).1
  have q2 : (0 : Int32).toInt ≤ x.toInt ∧ x.toInt ≤ (99999 : Int32).toInt := h2.2 e2
  exact ws_c (s_whyGrown n hn σ9 (rC_fr hC T9.1 (by decide)) z x u y w (by omega) (by omega)) (fun b ρ hρ => ws_s (SI_w T9 hρ (by decide) (by decide) b))
def KW : List Nat := [652, 653, 657, 658, 659, 660, 667, 668, 669, 670, 671, 672, 673, 674, 675, 676]
def KE : List Nat := [42, 43, 44, 49, 50]
theorem s_hear169 (n : Nat) {σ0 : ms_T} (hR : RI σ0) (m x : Int32) (h0 : 0 ≤ m.toInt) (h1 : m.toInt ≤ 20) : ∀ (k : Nat) (σ : ms_T) (v : Int32), fr KW KE σ0 σ → ms_I σ 667 = 0 → 0 ≤ v.toInt → v.toInt ≤ 20 → 21 - v.toInt ≤ (k : Int) → ws (f_X12_hear_L169 n k σ m x v) (fun q => RI q.2 ∧ ms_I q.2 667 = 0) := by
  intro k
  induction k with
  | zero => intro σ v hf h7 g0 g1 g2; omega
  | succ k ih =>
    intro σ v hf h7 g0 g1 g2
    rw [f_X12_hear_L169.eq_2]
    refine ws_le (fun _ => ws_l (ws_s ⟨⟨⟨?_, ?_, ?_, ?_⟩, rC_fr hR.2 (fr_tr (wI := 682 :: KW) (wE := KE) (fr_sb hf (by decide) (by decide)) (fr_sI (by decide))) (by decide)⟩, ?_⟩)) (fun _ => ?_)
    · show 0 ≤ (ms_I (ms_sI σ 682 m) 664).toInt ∧ _
      rw [mI_sI, if_neg (by decide), hf.1 664 (by decide)]; exact hR.1.1
    · show 0 ≤ (ms_I (ms_sI σ 682 m) 667).toInt ∧ _
      rw [mI_sI, if_neg (by decide), h7]; decide
    · show 0 ≤ (ms_I (ms_sI σ 682 m) 682).toInt ∧ _
      rw [mI_sI, if_pos rfl]; exact ⟨h0, h1⟩
    · show 0 ≤ (ms_I (ms_sI σ 682 m) 697).toInt ∧ _
      rw [mI_sI, if_neg (by decide), hf.1 697 (by decide)]; exact hR.1.2.2.2
    · show ms_I (ms_sI σ 682 m) 667 = 0
      rw [mI_sI, if_neg (by decide)]; exact h7
    · exact ws_g g0 (by omega) (ws_g g0 (by omega) (ws_l (ws_l (ih _ (v + 1) (fr_tr hf (fr_sE (by decide))) h7 (by (try simp only [iw_add, iw_sub, iw_mul, t_m1, lt0, lt1, t_2, t_3, t_4, t_5, t_6, t_8, t_9, t_10, t_16, t_20, t_24, t_26, t_30, t_31, t_48, t_64, t_72, t_76, t_92, t_101, t_252, t_444, t_512, t_900, t_1980, t_65521, t_99999, t_mil]) <;> omega) (by (try simp only [iw_add, iw_sub, iw_mul, t_m1, lt0, lt1, t_2, t_3, t_4, t_5, t_6, t_8, t_9, t_10, t_16, t_20, t_24, t_26, t_30, t_31, t_48, t_64, t_72, t_76, t_92, t_101, t_252, t_444, t_512, t_900, t_1980, t_65521, t_99999, t_mil]) <;> omega) (by (try simp only [iw_add, iw_sub, iw_mul, t_m1, lt0, lt1, t_2, t_3, t_4, t_5, t_6, t_8, t_9, t_10, t_16, t_20, t_24, t_26, t_30, t_31, t_48, t_64, t_72, t_76, t_92, t_101, t_252, t_444, t_512, t_900, t_1980, t_65521, t_99999, t_mil]) <;> omega)))))
theorem s_hear153 (n : Nat) (hn : 70000 ≤ n) {σ0 σ : ms_T} (hR : RI σ0) (hf : fr KW KE σ0 σ) (m x : Int32) (h0 : 0 ≤ m.toInt) (h1 : m.toInt ≤ 20) : ws (f_X12_hear_J153 n σ m x) (fun q => RI q.2 ∧ ms_I q.2 667 = 0) := by
  unfold f_X12_hear_J153
  refine ws_b (s_ends n σ) (fun τ hτ => ?_)
  have fτ : fr KW KE σ0 τ := fr_tr hf (fr_sb hτ.1 (by decide) (by decide))
  refine ws_i (fun _ => s_hear169 n hR m x h0 h1 n τ 0 fτ hτ.2 (by decide) (by decide) (by rw [lt0]; omega)) (fun _ => ws_s ⟨⟨⟨?_, ?_, ?_, ?_⟩, rC_fr hR.2 fτ (by decide)⟩, hτ.2⟩)
  · show 0 ≤ (ms_I τ 664).toInt ∧ _
    rw [fτ.1 664 (by decide)]; exact hR.1.1
  · show 0 ≤ (ms_I τ 667).toInt ∧ _
    rw [hτ.2]; decide
  · show 0 ≤ (ms_I τ 682).toInt ∧ _
    rw [fτ.1 682 (by decide)]; exact hR.1.2.2.1
  · show 0 ≤ (ms_I τ 697).toInt ∧ _
    rw [fτ.1 697 (by decide)]; exact hR.1.2.2.2
theorem s_hear35 (n : Nat) (hn : 70000 ≤ n) {σ0 : ms_T} (hR : RI σ0) : ∀ (k : Nat) (σ : ms_T) (m x : Int32), fr KW KE σ0 σ → PI σ → 0 ≤ m.toInt → m.toInt ≤ 20 → 1 ≤ k → ((ms_I σ 670).toInt = 0 → ¬ (ms_I σ 674).toInt = 0 → 902 - (ms_I σ 673).toInt ≤ (k : Int)) → ws (f_X12_hear_L35 n k σ m x) (fun q => RI q.2 ∧ ms_I q.2 667 = 0) := by
  intro k
  induction k with
  | zero => intro σ m x hf hP h0 h1 hk hm; omega
  | succ k ih =>
    intro σ m x hf hP h0 h1 hk hm
    have l0 := lt0
    have t20 := t_20
    rw [f_X12_hear_L35.eq_2]
    refine ws_ee (fun _ e => ws_ee (fun _ _ => s_hear153 n hn hR hf m x h0 h1) (fun e4 => ?_)) (fun _ => s_hear153 n hn hR hf m x h0 h1)
    have hm' := hm (by omega) (by omega)
    have hPP := hP
    unfold PI at hPP
    have h3 := hPP.2.2.2.1 (by omega)
    have hJ : ∀ w : Int32, ws (f_X12_hear_J73 n (f_X12_hear_L35 n k) σ m x w) (fun q => RI q.2 ∧ ms_I q.2 667 = 0) := by
      intro w
      unfold f_X12_hear_J73
      refine ws_b (s_must n σ w 2 hP.2.2.2.2 (by decide)) (fun τ hτ => ?_)
      have hJ8 : ∀ w : Int32, (¬ w = 0 → m.toInt < 20) → ws (f_X12_hear_J89 n (f_X12_hear_L35 n k) τ m x w) (fun q => RI q.2 ∧ ms_I q.2 667 = 0) := by
        intro w hw
        unfold f_X12_hear_J89
        refine ws_b (s_must n τ w 6 hτ.2.1 (by decide)) (fun υ hυ => ?_)
        have f2 : fr [670, 671] [] σ υ := fr_tr hτ.1 hυ.1
        have hPυ := PI_w hP f2 hυ.2.1
        have fυ : fr KW KE σ0 υ := fr_tr hf (fr_sb f2 (by decide) (by decide))
        refine ws_le (fun e => ?_) (fun _ => s_hear153 n hn hR fυ m x h0 h1)
        have hq := hυ.2.2 (by have := hυ.2.1; omega)
        have hv := hw hq.1
        have u0 : (ms_I υ 670).toInt = 0 := by have := hυ.2.1; omega
        have hJ9 : ∀ (r : Int32) (ρ : ms_T), SI υ (r, ρ) → ws (f_X12_hear_J129 n (f_X12_hear_L35 n k) ρ m x r m) (fun q => RI q.2 ∧ ms_I q.2 667 = 0) := by
          intro r ρ hs
          have fe : fr [] [50] ρ (ms_sE ρ 50 m.toNatClampNeg r) := fr_sE (by decide)
          have fρ : fr HW HE υ ρ := hs.1
          have hPρ : PI ρ := hs.2.1
          have hpr : (ms_I ρ 670).toInt = 0 → (ms_I υ 673).toInt < (ms_I ρ 673).toInt := hs.2.2
          have e7 := f2.1 673 (by decide)
          rw [e7] at hpr
          have hgo : ∀ z : Int32, ws (f_X12_hear_L35 n k (ms_sE ρ 50 m.toNatClampNeg r) (m + 1) z) (fun q => RI q.2 ∧ ms_I q.2 667 = 0) := by
            intro z
            refine ih _ (m + 1) z (fr_tr fυ (fr_tr (fr_sb fρ (by decide) (by decide)) (fr_sb fe (by decide) (by decide)))) (PI_fr hPρ fe (by decide) (by decide) (by decide) (by decide) (by decide)) (by (try simp only [iw_add, iw_sub, iw_mul, t_m1, lt0, lt1, t_2, t_3, t_4, t_5, t_6, t_8, t_9, t_10, t_16, t_20, t_24, t_26, t_30, t_31, t_48, t_64, t_72, t_76, t_92, t_101, t_252, t_444, t_512, t_900, t_1980, t_65521, t_99999, t_mil]) <;> omega) (by (try simp only [iw_add, iw_sub, iw_mul, t_m1, lt0, lt1, t_2, t_3, t_4, t_5, t_6, t_8, t_9, t_10, t_16, t_20, t_24, t_26, t_30, t_31, t_48, t_64, t_72, t_76, t_92, t_101, t_252, t_444, t_512, t_900, t_1980, t_65521, t_99999, t_mil]) <;> omega) (by omega) (fun q _ => ?_)
            have q' : (ms_I ρ 670).toInt = 0 := q
            have := hpr q'
            show 902 - (ms_I ρ 673).toInt ≤ _
            omega
          unfold f_X12_hear_J129 f_X12_hear_J145
          exact ws_g h0 (by omega) (ws_l (ws_g h0 (by omega) (ws_i (fun _ => ws_l (ws_l (hgo _))) (fun _ => ws_l (ws_l (hgo _))))))
        refine ws_b (s_isWord n υ 6 (by decide) (by decide)) (fun r hr => ws_i (fun _ => ?_) (fun q => ?_))
        · exact ws_c (s_statementGrow n hn (rC_fr hR.2 fυ (by decide)) hPυ) (fun a ρ hρ => hJ9 a ρ hρ)
        · exact ws_c (s_statementIn n hn (rC_fr hR.2 fυ (by decide)) hPυ u0 (by have := (hr q).2; omega)) (fun a ρ hρ => hJ9 a ρ hρ)
      exact ws_le (fun _ => hJ8 _ (fun q => absurd rfl q)) (fun g => hJ8 _ (fun _ => by omega))
    unfold f_X12_hear_J68
    exact ws_b (s_isWord n σ 6 (by decide) (by decide)) (fun _ _ => ws_i (fun _ => ws_b (s_isWord n σ 7 (by decide) (by decide)) (fun _ _ => ws_i (fun _ => hJ _) (fun _ => hJ _))) (fun _ => hJ _))
theorem s_hear (n : Nat) (hn : 70000 ≤ n) (σ : ms_T) (hR : RI σ) (a1 : Int32) : ws (f_X12_hear n σ a1) (fun res => RI res.2 ∧ ld_M σ a1 res.2) := by
  have l0 := lt0
  have h9 := hR.1.2.1
  unfold f_X12_hear f_X12_hear_J18
  refine ws_bo (s_isIn n _ _ _) (fun q => ?_) (fun q => ?_)
  · refine ws_is (fun τ h => ?_) (fun e => absurd e (by decide))
    obtain ⟨a, b, c⟩ := is_R hR h
    exact ⟨a, Or.inl ⟨by omega, b⟩⟩
  · refine ws_c (s_is n σ 0) (fun r τ h => ws_i (fun e => absurd rfl (bo_0 h.2 e)) (fun _ => ?_))
    obtain ⟨a, b, c⟩ := is_R hR h.1
    refine ws_b (s_begins n hn a1 (by omega) (by omega)) (fun υ hυ => ?_)
    have hPP := hυ.2.1
    unfold PI at hPP
    exact ws_m (s_hear35 n hn a n υ 0 0 (fr_sb hυ.1 (by decide) (by decide)) hυ.2.1 (by decide) (by decide) (by omega) (fun _ _ => by omega)) (fun res hres => ⟨hres.1, Or.inr ⟨by omega, hres.2⟩⟩)
end JN7_5
section JN7_6
/-! ===== bits; extend ===== -/
theorem and_split (u w m M : Nat) (hu : u < 256) (hm : m < 256) : (u + 256 * w) &&& (m + 256 * M) = (u &&& m) + 256 * (w &&& M) := by
  have e1 : u + 256 * w = 2 ^ 8 * w + u := by omega
  have e2 : m + 256 * M = 2 ^ 8 * M + m := by omega
  have h3 : u &&& m < 2 ^ 8 := Nat.and_lt_two_pow _ (by omega)
  have e3 : (u &&& m) + 256 * (w &&& M) = 2 ^ 8 * (w &&& M) + (u &&& m) := by omega
  rw [e1, e2, e3]
  apply Nat.eq_of_testBit_eq
  intro i
  rw [Nat.testBit_and, Nat.testBit_two_pow_mul_add _ (by omega), Nat.testBit_two_pow_mul_add _ (by omega), Nat.testBit_two_pow_mul_add _ h3]
  split
  · rw [Nat.testBit_and]
  · rw [Nat.testBit_and]
def bg1 (b : Nat) : Nat := b - ((b / 2) &&& 85)
def bg2 (y : Nat) : Nat := (y &&& 51) + ((y / 4) &&& 51)
def bg3 (y : Nat) : Nat := (y + y / 16) &&& 15
def bgg (b : Nat) : Nat := bg3 (bg2 (bg1 b))
theorem bk1 : ∀ b < 256, ∀ c < 2, (b / 2 + 128 * c) &&& 85 = (b / 2) &&& 85 := by decide +kernel
theorem bk1' : ∀ b < 256, (b / 2) &&& 85 ≤ b ∧ bg1 b < 256 := by decide +kernel
theorem bk2 : ∀ b < 256, ∀ c < 4, (b / 4 + 64 * c) &&& 51 = (b / 4) &&& 51 := by decide +kernel
theorem bk2' : ∀ b < 256, bg2 (bg1 b) ≤ 68 := by decide +kernel
theorem bk2n : ∀ b < 256, bg2 (bg1 b) % 16 ≤ 4 := by decide +kernel
theorem bk3 : ∀ b < 69, ∀ c < 5, (b + b / 16 + 16 * c) &&& 15 = bg3 b := by decide +kernel
theorem bk3' : ∀ b < 256, bgg b ≤ 8 := by decide +kernel
theorem bkt : ∀ b < 256, ∀ t < 9, b % 2 ^ t = 2 ^ t - 1 → t ≤ bgg b := by decide +kernel
theorem bk63 : ∀ b < 64, b &&& 63 = b := by decide +kernel
theorem and3 (x0 x1 x2 m : Nat) (h0 : x0 < 256) (h1 : x1 < 256) (h2 : x2 < 256) (hm : m < 256) : (x0 + 256 * (x1 + 256 * x2)) &&& (m + 256 * (m + 256 * (m + 256 * m))) = (x0 &&& m) + 256 * ((x1 &&& m) + 256 * (x2 &&& m)) := by
  rw [and_split _ _ _ _ h0 hm, and_split _ _ _ _ h1 hm]
  have : x2 &&& (m + 256 * m) = x2 &&& m := by
    have h := and_split x2 0 m m h2 hm
    rw [Nat.mul_zero, Nat.add_zero, Nat.zero_and, Nat.mul_zero, Nat.add_zero] at h
    exact h
  rw [this]
/-- the count of a number of three bytes, on whole numbers -/
def bc (A : Nat) : Nat :=
  let x1 := A - ((A / 2) &&& 1431655765)
  let x2 := (x1 &&& 858993459) + ((x1 / 4) &&& 858993459)
  let x3 := (x2 + x2 / 16) &&& 252645135
  let x4 := x3 + x3 / 256
  let x5 := x4 + x4 / 65536
  x5 &&& 63
theorem bc_eq (b0 b1 b2 : Nat) (h0 : b0 < 256) (h1 : b1 < 256) (h2 : b2 < 256) : bc (b0 + 256 * (b1 + 256 * b2)) = bgg b0 + bgg b1 + bgg b2 := by
  have e85 : 1431655765 = 85 + 256 * (85 + 256 * (85 + 256 * 85)) := by decide
  have e51 : 858993459 = 51 + 256 * (51 + 256 * (51 + 256 * 51)) := by decide
  have e15 : 252645135 = 15 + 256 * (15 + 256 * (15 + 256 * 15)) := by decide
  unfold bc
  simp only
  have s1 : (b0 + 256 * (b1 + 256 * b2)) - (((b0 + 256 * (b1 + 256 * b2)) / 2) &&& 1431655765) = bg1 b0 + 256 * (bg1 b1 + 256 * bg1 b2) := by
    have d : (b0 + 256 * (b1 + 256 * b2)) / 2 = (b0 / 2 + 128 * (b1 % 2)) + 256 * ((b1 / 2 + 128 * (b2 % 2)) + 256 * (b2 / 2 + 128 * 0)) := by omega
    rw [d, e85, and3 _ _ _ _ (by omega) (by omega) (by omega) (by omega), bk1 b0 h0 _ (by omega), bk1 b1 h1 _ (by omega), bk1 b2 h2 0 (by omega)]
    have a0 := (bk1' b0 h0).1
    have a1 := (bk1' b1 h1).1
    have a2 := (bk1' b2 h2).1
    unfold bg1
    omega
  rw [s1]
  have y0 := (bk1' b0 h0).2
  have y1 := (bk1' b1 h1).2
  have y2 := (bk1' b2 h2).2
  have s2 : ((bg1 b0 + 256 * (bg1 b1 + 256 * bg1 b2)) &&& 858993459) + (((bg1 b0 + 256 * (bg1 b1 + 256 * bg1 b2)) / 4) &&& 858993459) = bg2 (bg1 b0) + 256 * (bg2 (bg1 b1) + 256 * bg2 (bg1 b2)) := by
    have d : (bg1 b0 + 256 * (bg1 b1 + 256 * bg1 b2)) / 4 = (bg1 b0 / 4 + 64 * (bg1 b1 % 4)) + 256 * ((bg1 b1 / 4 + 64 * (bg1 b2 % 4)) + 256 * (bg1 b2 / 4 + 64 * 0)) := by omega
    rw [d, e51, and3 _ _ _ _ y0 y1 y2 (by omega), and3 _ _ _ _ (by omega) (by omega) (by omega) (by omega), bk2 _ y0 _ (by omega), bk2 _ y1 _ (by omega), bk2 _ y2 0 (by omega)]
    unfold bg2
    omega
  rw [s2]
  have z0 := bk2' b0 h0
  have z1 := bk2' b1 h1
  have z2 := bk2' b2 h2
  have s3 : ((bg2 (bg1 b0) + 256 * (bg2 (bg1 b1) + 256 * bg2 (bg1 b2))) + (bg2 (bg1 b0) + 256 * (bg2 (bg1 b1) + 256 * bg2 (bg1 b2))) / 16) &&& 252645135 = bgg b0 + 256 * (bgg b1 + 256 * bgg b2) := by
    have n1 := bk2n b1 h1
    have n2 := bk2n b2 h2
    have d : (bg2 (bg1 b0) + 256 * (bg2 (bg1 b1) + 256 * bg2 (bg1 b2))) + (bg2 (bg1 b0) + 256 * (bg2 (bg1 b1) + 256 * bg2 (bg1 b2))) / 16 = (bg2 (bg1 b0) + bg2 (bg1 b0) / 16 + 16 * (bg2 (bg1 b1) % 16)) + 256 * ((bg2 (bg1 b1) + bg2 (bg1 b1) / 16 + 16 * (bg2 (bg1 b2) % 16)) + 256 * (bg2 (bg1 b2) + bg2 (bg1 b2) / 16 + 16 * 0)) := by omega
    rw [d, e15, and3 _ _ _ _ (by omega) (by omega) (by omega) (by omega), bk3 _ (by omega) _ (by omega), bk3 _ (by omega) _ (by omega), bk3 _ (by omega) 0 (by omega)]
    rfl
  rw [s3]
  have p0 := bk3' b0 h0
  have p1 := bk3' b1 h1
  have p2 := bk3' b2 h2
  have s4 : ((bgg b0 + 256 * (bgg b1 + 256 * bgg b2)) + (bgg b0 + 256 * (bgg b1 + 256 * bgg b2)) / 256) = (bgg b0 + bgg b1) + 256 * ((bgg b1 + bgg b2) + 256 * bgg b2) := by omega
  rw [s4]
  have s5 : ((bgg b0 + bgg b1) + 256 * ((bgg b1 + bgg b2) + 256 * bgg b2)) + ((bgg b0 + bgg b1) + 256 * ((bgg b1 + bgg b2) + 256 * bgg b2)) / 65536 = (bgg b0 + bgg b1 + bgg b2) + 256 * ((bgg b1 + bgg b2) + 256 * bgg b2) := by omega
  rw [s5]
  have h := and_split (bgg b0 + bgg b1 + bgg b2) ((bgg b1 + bgg b2) + 256 * bgg b2) 63 0 (by omega) (by omega)
  rw [Nat.and_zero, Nat.mul_zero, Nat.add_zero, Nat.add_zero] at h
  rw [h]
  exact bk63 _ (by omega)
theorem bc_t (A t : Nat) (hA : A < 1048576) (ht : t ≤ 20) (h : A % 2 ^ t = 2 ^ t - 1) : t ≤ bc A := by
  have e : A = A % 256 + 256 * (A / 256 % 256 + 256 * (A / 65536)) := by omega
  rw [e, bc_eq _ _ _ (by omega) (by omega) (by omega)]
  have hp : ∀ k, 2 ^ k ≥ 1 := fun k => Nat.one_le_two_pow
  by_cases t8 : t ≤ 8
  · have q : A % 256 % 2 ^ t = 2 ^ t - 1 := by
      rw [show (256 : Nat) = 2 ^ 8 from rfl, Nat.mod_mod_of_dvd _ (Nat.pow_dvd_pow 2 t8)]; exact h
    have := bkt (A % 256) (by omega) t (by omega) q
    omega
  · have q8 : A % 256 = 255 := by
      have d := Nat.mod_mod_of_dvd A (Nat.pow_dvd_pow 2 (show 8 ≤ t by omega))
      rw [h] at d
      have : (2 ^ t - 1) % 2 ^ 8 = 255 := by
        obtain ⟨s, rfl⟩ : ∃ s, t = 8 + s := ⟨t - 8, by omega⟩
        rw [Nat.pow_add]
        have := hp s
        omega
      omega
    have g255 : bgg 255 = 8 := by decide +kernel
    rw [q8, g255]
    by_cases t16 : t ≤ 16
    · have q : A / 256 % 256 % 2 ^ (t - 8) = 2 ^ (t - 8) - 1 := by
        rw [show (A / 256 % 256) = A / 256 % 2 ^ 8 from rfl, Nat.mod_mod_of_dvd _ (Nat.pow_dvd_pow 2 (show t - 8 ≤ 8 by omega))]
        obtain ⟨s, rfl⟩ : ∃ s, t = 8 + s := ⟨t - 8, by omega⟩
        rw [Nat.pow_add, Nat.mod_mul] at h
        rw [show 8 + s - 8 = s by omega]
        have hs := hp s
        have h2 : A % 256 + 256 * (A / 256 % 2 ^ s) = 256 * 2 ^ s - 1 := h
        generalize 2 ^ s = P at hs h2 ⊢
        generalize A / 256 % P = X at h2 ⊢
        omega
      have := bkt (A / 256 % 256) (by omega) (t - 8) (by omega) q
      omega
    · have q16 : A / 256 % 256 = 255 := by
        obtain ⟨s, rfl⟩ : ∃ s, t = 16 + s := ⟨t - 16, by omega⟩
        rw [Nat.pow_add, Nat.mod_mul] at h
        have := hp s
        omega
      rw [q16, g255]
      have q : A / 65536 % 2 ^ (t - 16) = 2 ^ (t - 16) - 1 := by
        obtain ⟨s, rfl⟩ : ∃ s, t = 16 + s := ⟨t - 16, by omega⟩
        rw [Nat.pow_add, Nat.mod_mul] at h
        rw [show 16 + s - 16 = s by omega]
        have hs := hp s
        have h2 : A % 65536 + 65536 * (A / 65536 % 2 ^ s) = 65536 * 2 ^ s - 1 := h
        generalize 2 ^ s = P at hs h2 ⊢
        generalize A / 65536 % P = X at h2 ⊢
        omega
      have := bkt (A / 65536) (by omega) (t - 16) (by omega) q
      omega
theorem bN (x : Int32) (h : 0 ≤ x.toInt) : x.toInt = (x.toBitVec.toNat : Int) ∧ x.toBitVec.toNat < 2147483648 := by
  have e : x.toInt = x.toBitVec.toInt := rfl
  rw [e, BitVec.toInt_eq_toNat_cond] at h ⊢
  have := x.toBitVec.isLt
  split at h
  · rename_i q
    rw [if_pos q]
    omega
  · omega
theorem n_sh1 (x : Int32) : ((x.toUInt32 >>> (((1 : Int32)).toUInt32 &&& Int32.toUInt32 31)).toInt32).toBitVec.toNat = x.toBitVec.toNat / 2 := by
  show (x.toBitVec >>> (1#32 : BitVec 32)).toNat = _
  rw [BitVec.ushiftRight_eq', BitVec.toNat_ushiftRight, Nat.shiftRight_eq_div_pow]
  rfl
theorem n_sh2 (x : Int32) : ((x.toUInt32 >>> (((2 : Int32)).toUInt32 &&& Int32.toUInt32 31)).toInt32).toBitVec.toNat = x.toBitVec.toNat / 4 := by
  show (x.toBitVec >>> (2#32 : BitVec 32)).toNat = _
  rw [BitVec.ushiftRight_eq', BitVec.toNat_ushiftRight, Nat.shiftRight_eq_div_pow]
  rfl
theorem n_sh4 (x : Int32) : ((x.toUInt32 >>> (((4 : Int32)).toUInt32 &&& Int32.toUInt32 31)).toInt32).toBitVec.toNat = x.toBitVec.toNat / 16 := by
  show (x.toBitVec >>> (4#32 : BitVec 32)).toNat = _
  rw [BitVec.ushiftRight_eq', BitVec.toNat_ushiftRight, Nat.shiftRight_eq_div_pow]
  rfl
theorem n_sh8 (x : Int32) : ((x.toUInt32 >>> (((8 : Int32)).toUInt32 &&& Int32.toUInt32 31)).toInt32).toBitVec.toNat = x.toBitVec.toNat / 256 := by
  show (x.toBitVec >>> (8#32 : BitVec 32)).toNat = _
  rw [BitVec.ushiftRight_eq', BitVec.toNat_ushiftRight, Nat.shiftRight_eq_div_pow]
  rfl
theorem n_sh16 (x : Int32) : ((x.toUInt32 >>> (((16 : Int32)).toUInt32 &&& Int32.toUInt32 31)).toInt32).toBitVec.toNat = x.toBitVec.toNat / 65536 := by
  show (x.toBitVec >>> (16#32 : BitVec 32)).toNat = _
  rw [BitVec.ushiftRight_eq', BitVec.toNat_ushiftRight, Nat.shiftRight_eq_div_pow]
  rfl
theorem n_and (x y : Int32) : (x &&& y).toBitVec.toNat = x.toBitVec.toNat &&& y.toBitVec.toNat := by
  show (x.toBitVec &&& y.toBitVec).toNat = _
  exact BitVec.toNat_and _ _
theorem n_add (x y : Int32) : (x + y).toBitVec.toNat = (x.toBitVec.toNat + y.toBitVec.toNat) % 4294967296 := by
  show (x.toBitVec + y.toBitVec).toNat = _
  exact BitVec.toNat_add _ _
theorem n_sub (x y : Int32) (h : y.toBitVec.toNat ≤ x.toBitVec.toNat) : (x - y).toBitVec.toNat = x.toBitVec.toNat - y.toBitVec.toNat := by
  show (x.toBitVec - y.toBitVec).toNat = _
  rw [BitVec.toNat_sub]
  have := x.toBitVec.isLt
  have := y.toBitVec.isLt
  omega
theorem s_bitCount2 (n : Nat) (a : Int32) (h0 : 0 ≤ a.toInt) (h1 : a.toInt ≤ 1000000) : ws (f_J6_bitCount_0f7a4 n a) (fun r => r.toInt = (bc a.toInt.toNat : Int)) := by
  obtain ⟨eA, -⟩ := bN a h0
  have eN : a.toInt.toNat = a.toBitVec.toNat := by omega
  rw [eN]
  have hA : a.toBitVec.toNat ≤ 1000000 := by omega
  unfold f_J6_bitCount_0f7a4
  refine ws_ln (fun x1 e1 => ws_ln (fun x2 e2 => ws_ln (fun x3 e3 => ws_ln (fun x4 e4 => ws_ln (fun x5 e5 => ws_s ?_)))))
  have m1 : (1431655765 : Int32).toBitVec.toNat = 1431655765 := by decide
  have m2 : (858993459 : Int32).toBitVec.toNat = 858993459 := by decide
  have m3 : (252645135 : Int32).toBitVec.toNat = 252645135 := by decide
  have m4 : (63 : Int32).toBitVec.toNat = 63 := by decide
  have l1 : a.toBitVec.toNat / 2 &&& 1431655765 ≤ a.toBitVec.toNat := Nat.le_trans Nat.and_le_left (Nat.div_le_self _ _)
  have q1 : x1.toBitVec.toNat = a.toBitVec.toNat - (a.toBitVec.toNat / 2 &&& 1431655765) := by
    have e : (((a).toUInt32 >>> (((1 : Int32)).toUInt32 &&& Int32.toUInt32 31)).toInt32 &&& (1431655765 : Int32)).toBitVec.toNat = a.toBitVec.toNat / 2 &&& 1431655765 := by rw [n_and, n_sh1, m1]
    rw [e1, n_sub _ _ (by rw [e]; exact l1), e]
  have b1 : x1.toBitVec.toNat ≤ 1000000 := by omega
  have q2 : x2.toBitVec.toNat = (x1.toBitVec.toNat &&& 858993459) + (x1.toBitVec.toNat / 4 &&& 858993459) ∧ x2.toBitVec.toNat ≤ 2000000 := by
    have a1 : x1.toBitVec.toNat &&& 858993459 ≤ x1.toBitVec.toNat := Nat.and_le_left
    have a2 : x1.toBitVec.toNat / 4 &&& 858993459 ≤ x1.toBitVec.toNat / 4 := Nat.and_le_left
    rw [e2, n_add, n_and, n_and, n_sh2, m2, Nat.mod_eq_of_lt (by omega)]
    exact ⟨rfl, by omega⟩
  have q3 : x3.toBitVec.toNat = (x2.toBitVec.toNat + x2.toBitVec.toNat / 16 &&& 252645135) ∧ x3.toBitVec.toNat ≤ 4000000 := by
    have a1 : x2.toBitVec.toNat + x2.toBitVec.toNat / 16 &&& 252645135 ≤ x2.toBitVec.toNat + x2.toBitVec.toNat / 16 := Nat.and_le_left
    rw [e3, n_and, n_add, n_sh4, m3, Nat.mod_eq_of_lt (by omega)]
    exact ⟨rfl, by omega⟩
  have q4 : x4.toBitVec.toNat = x3.toBitVec.toNat + x3.toBitVec.toNat / 256 ∧ x4.toBitVec.toNat ≤ 8000000 := by
    rw [e4, n_add, n_sh8, Nat.mod_eq_of_lt (by omega)]
    exact ⟨rfl, by omega⟩
  have q5 : x5.toBitVec.toNat = x4.toBitVec.toNat + x4.toBitVec.toNat / 65536 := by
    rw [e5, n_add, n_sh16, Nat.mod_eq_of_lt (by omega)]
  rw [(bN _ (and63 x5).1).1, n_and, m4, q5, q4.1, q3.1, q2.1, q1]
  rfl
end JN7_6
section JN7_7
theorem s_extend_L (n : Nat) (A P : Nat) (hA : A < 1048576) (hP : P = bc A) (hP63 : P ≤ 63) : ∀ (k t : Nat) (τ : ms_T) (x v : Int32), RI τ → (ms_E τ 40 2).toInt = (P : Int) - t → A % 2 ^ t = 2 ^ t - 1 → v.toInt = ((A / 2 ^ t : Nat) : Int) → t ≤ 20 → 21 - (t : Int) ≤ (k : Int) → ws (f_X12_extend_L55 n k τ x v) (PK τ) := by
  intro k
  induction k with
  | zero => intro t τ x v hR hc hm hv ht hk; omega
  | succ k ih =>
    intro t τ x v hR hc hm hv ht hk
    rw [f_X12_extend_L55.eq_2, c2]
    have h64 := hR.2.2.2.1
    have hv0 : 0 ≤ v.toInt := by
      generalize A / 2 ^ t = Q at hv
      omega
    have hrem : (v - v / 2 * 2).toInt = v.toInt % 2 := by rw [ii_rem (x := v) (y := 2) hv0 (by decide), t_2]
    have l1 := lt1
    refine ws_ee (fun _ e => ?_) (fun e => ?_)
    · have ho : A / 2 ^ t % 2 = 1 := by omega
      have hp := Nat.one_le_two_pow (n := t)
      have ht2 : t + 1 ≤ 20 := by
        rcases Nat.lt_or_ge t 20 with q | q
        · omega
        · have e20 : t = 20 := by omega
          rw [e20, Nat.div_eq_of_lt (by omega)] at ho
          omega
      have hm2 : A % 2 ^ (t + 1) = 2 ^ (t + 1) - 1 := by
        rw [Nat.pow_succ, Nat.mod_mul, hm, ho]
        omega
      have hle := bc_t A (t + 1) hA ht2 hm2
      rw [← hP] at hle
      have e1 : (ms_E τ 40 2 - 1).toInt = (P : Int) - t - 1 := by rw [iw_sub, lt1]; omega
      have ed : (v / 2).toInt = ((A / 2 ^ (t + 1) : Nat) : Int) := by
        rw [ii_div hv0 (by decide), t_2, hv, Nat.pow_succ, ← Nat.div_div_eq_div_mul]
        generalize A / 2 ^ t = Q
        omega
      refine ws_g (by decide) (by decide) (ws_g (by decide) (by decide) (ws_ln (fun σ1 hs => ?_)))
      have hR1 : RI σ1 := by rw [hs]; exact RI_sE hR ⟨fun _ => by omega, fun _ => by omega, fun _ => by omega, fun _ => by omega, fun _ _ _ => by omega, fun _ _ _ => by omega, fun _ _ _ => by omega, fun _ _ _ => by omega, fun _ _ _ => by omega⟩
      have ez : ms_E σ1 40 2 = ms_E τ 40 2 - 1 := by rw [hs, mE_sE, if_pos ⟨rfl, rfl⟩]
      have e7 : ms_I σ1 667 = ms_I τ 667 := by rw [hs]; rfl
      have e8 : ((8 : Int32) + ms_E σ1 40 2).toInt = 8 + ((P : Int) - t - 1) := by rw [iw_add, ez, e1, t_8]; omega
      refine ws_g (by decide) (by decide) (ws_g (by omega) (by omega) (ws_b (s_both hR1.2 _ _) (fun y _ => ws_l (ws_m (ih (t + 1) σ1 y (v / 2) hR1 (by rw [ez, e1]; omega) hm2 ed ht2 (by omega)) (fun q hq => pk_tr e7 hq)))))
    · have e8 : ((8 : Int32) + ms_E τ 40 2).toInt = 8 + (ms_E τ 40 2).toInt := by rw [iw_add, t_8]; omega
      have e1 : (ms_E τ 40 2 + 1).toInt = (ms_E τ 40 2).toInt + 1 := by rw [iw_add, lt1]; omega
      have ec := cl_n (i := (8 : Int32) + ms_E τ 40 2) (k := 8 + (ms_E τ 40 2).toInt.toNat) (by omega)
      refine ws_g (by decide) (by decide) (ws_g (by omega) (by omega) (ws_l (ws_g (by decide) (by decide) (ws_g (by decide) (by decide) (ws_l (ws_g (by decide) (by decide) (ws_s (PKs ?_ rfl _))))))))
      rw [ec]
      refine RI_sE (RI_sE hR (rc_f (by omega))) ?_
      rw [mE_sE, if_neg (fun q => by omega)]
      exact ⟨fun _ => by omega, fun _ => by omega, fun _ => by omega, fun _ => by omega, fun _ _ _ => by omega, fun _ _ _ => by omega, fun _ _ _ => by omega, fun _ _ _ => by omega, fun _ _ _ => by omega⟩
theorem s_extend (n : Nat) (hn : 70000 ≤ n) (σ : ms_T) (hR : RI σ) (a1 a2 : Int32) : ws (f_X12_extend n σ a1 a2) (PK σ) := by
  have L := lits
  have tm := t_mil
  have hC := hR.2
  have hJ : ∀ w : Int32, (w = 0 → 0 ≤ a1.toInt ∧ a1.toInt ≤ 1000000 ∧ (ms_E σ 40 2).toInt = (bc a1.toInt.toNat : Int) ∧ bc a1.toInt.toNat ≤ 63) → ws (f_X12_extend_J42 n σ a1 a2 w) (PK σ) := by
    intro w hw
    unfold f_X12_extend_J42
    refine ws_isP hR (fun e τ hτ hE hf => ?_)
    obtain ⟨q1, q2, q3, q4⟩ := hw e
    rw [← hE] at q3
    exact s_extend_L n a1.toInt.toNat _ (by omega) rfl q4 n 0 τ a2 a1 hτ (by omega) (by rw [Nat.pow_zero, Nat.mod_one]) (by rw [Nat.pow_zero, Nat.div_one]; omega) (by omega) (by omega)
  unfold f_X12_extend
  rw [c2]
  refine ws_bo (s_isIn n _ _ _) (fun _ => hJ _ (fun h => absurd h (by decide))) (fun q => ws_bo (s_isMark hC _) (fun _ => hJ _ (fun h => absurd h (by decide))) (fun _ => ?_))
  obtain ⟨r, er, hr⟩ := s_bitCount2 n a1 (by omega) (by omega)
  obtain ⟨r', er', hr'⟩ := s_bitCount n a1
  rw [er] at er'
  cases er'
  refine ws_b (S := fun x => x = r) ⟨r, er, rfl⟩ (fun x hx => ?_)
  subst hx
  refine ws_g (by decide) (by decide) (ws_ee (fun _ e => hJ _ (fun _ => ⟨by omega, by omega, by omega, by omega⟩)) (fun _ => hJ _ (fun h => absurd h (by decide))))
end JN7_7
section JN7_8
/-! ===== the class as pure functions over the picture: rows over them ===== -/
def hq_m {R : Type} (o : Option Nat) (x : Option R) (k : Nat → Option R) : Option R := match o with
  | none => x
  | some b => k b
def hq_c {A S R : Type} (x : Option (A × S)) (k : A → S → Option R) : Option R := match x with
  | some q => k q.1 q.2
  | none => none
theorem hq_N {R : Type} {x : Option R} {k : Nat → Option R} {r : R} (h : hq_m none x k = some r) : x = some r := h
theorem hq_S {R : Type} {b : Nat} {x : Option R} {k : Nat → Option R} {r : R} (h : hq_m (some b) x k = some r) : k b = some r := h
theorem hq_E {R : Type} {o : Option Nat} {x : Option R} {k : Nat → Option R} {r : R} (h : hq_m o x k = some r) : (o = none ∧ x = some r) ∨ ∃ b, o = some b ∧ k b = some r := by
  cases o with
  | none => exact Or.inl ⟨rfl, h⟩
  | some b => exact Or.inr ⟨b, rfl, h⟩
theorem hq_cE {A S R : Type} {x : Option (A × S)} {k : A → S → Option R} {r : R} (h : hq_c x k = some r) : ∃ a σ, x = some (a, σ) ∧ k a σ = some r := by
  cases x with
  | none => cases h
  | some q => exact ⟨q.1, q.2, rfl, h⟩
section HPD
variable {p : Program} {l : Launch} {e : Env} {R : Room} {s : State} {m : MethodId} {args : Array Value} {below : List Frame} {meth : Method} {c : Code} {H : Heap} {locs : List Loc} {cells slots : Nat} {Q : State → Prop} {cc : ByteArray} {nL : Nat} {own : String} {Γ : hp_G} {α0 α : hp_T} {Iv : hp_T → hp_T → Prop} {pc pc' : Nat} {ls : Array Slot} {rest st : List Value} {mc ms κ : Nat} {aa : Array Value} {v w : cw_W}
theorem d_ci {r : Int32} {τ : hp_T} (B : hp_B Γ (cw w) s α0 α H locs) (hr : va_Run p l e R s m args below meth c H locs cells slots mc ms (F0 m pc ls st) rest (hp_Qi Γ (fun r' β => r' = r ∧ β = τ ∧ cw v α β) aa) (hp_A Γ)) (hs : cw_sub v w = true) (hpc : pc + 3 = pc')
    (kk : ∀ (H1 : Heap) (locs1 : List Loc), hp_B Γ (cw w) s α0 τ H1 locs1 → W p l e R s m args below meth c H1 locs1 (cells + mc) (slots + ms) Q (F0 m pc' ls (.int r :: rest))) : W p l e R s m args below meth c H locs cells slots Q (F0 m pc ls st) :=
  q_ci B hr (fun _ _ h => cw_tr B.2.2 h.2.2 hs) hpc (fun r' β H1 L1 h B1 => by rw [h.1]; rw [h.2.1] at B1; exact kk H1 L1 B1)
theorem d_cv {τ : hp_T} (B : hp_B Γ (cw w) s α0 α H locs) (hr : va_Run p l e R s m args below meth c H locs cells slots mc ms (F0 m pc ls st) rest (hp_Qv Γ (fun β => β = τ ∧ cw v α β) aa) (hp_A Γ)) (hs : cw_sub v w = true) (hpc : pc + 3 = pc')
    (kk : ∀ (H1 : Heap) (locs1 : List Loc), hp_B Γ (cw w) s α0 τ H1 locs1 → W p l e R s m args below meth c H1 locs1 (cells + mc) (slots + ms) Q (F0 m pc' ls rest)) : W p l e R s m args below meth c H locs cells slots Q (F0 m pc ls st) :=
  q_cv B hr (fun _ h => cw_tr B.2.2 h.2 hs) hpc (fun β H1 L1 h B1 => by rw [h.1] at B1; exact kk H1 L1 B1)
/-- of what changes nothing -/
theorem d_pi {r : Int32} (B : hp_B Γ Iv s α0 α H locs) (hr : va_Run p l e R s m args below meth c H locs cells slots mc ms (F0 m pc ls st) rest (hp_Qi Γ (fun r' β => β = α ∧ r' = r) aa) (hp_A Γ)) (hpc : pc + 3 = pc')
    (kk : ∀ (H1 : Heap) (locs1 : List Loc), hp_B Γ Iv s α0 α H1 locs1 → W p l e R s m args below meth c H1 locs1 (cells + mc) (slots + ms) Q (F0 m pc' ls (.int r :: rest))) : W p l e R s m args below meth c H locs cells slots Q (F0 m pc ls st) :=
  q_ci B hr (fun _ _ h => by rw [h.1]; exact B.2.2) hpc (fun r' β H1 L1 h B1 => by rw [h.2]; rw [h.1] at B1; exact kk H1 L1 B1)
theorem d_pq {r : Option Nat} (B : hp_B Γ (cw w) s α0 α H locs) (hr : va_Run p l e R s m args below meth c H locs cells slots mc ms (F0 m pc ls st) rest (hp_Qq Γ (fun r' β => (β = α ∧ r' = r) ∧ ∀ b, r' = some b → hp_K α b = κ) aa) (hp_A Γ)) (hpc : pc + 3 = pc')
    (kk : ∀ (H1 : Heap) (locs1 : List Loc), hp_B Γ (cw w) s α0 α H1 locs1 → (∀ b, r = some b → hp_K α0 b = κ) → W p l e R s m args below meth c H1 locs1 (cells + mc) (slots + ms) Q (F0 m pc' ls (va_rf r :: rest))) : W p l e R s m args below meth c H locs cells slots Q (F0 m pc ls st) :=
  q_cq B hr (fun _ _ h => by rw [h.1.1]; exact B.2.2) hpc (fun r' β H1 L1 h B1 => by
    rw [h.1.2]; rw [h.1.1] at B1
    exact kk H1 L1 B1 (fun b hb => cw_k' B.2.2 (h.2 b (h.1.2.trans hb))))
end HPD
end JN7_8
