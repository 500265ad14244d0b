/-! ===== tell ===== -/
def p10 (i : Nat) : Int := ((10 ^ i : Nat) : Int)
theorem p10_s (i : Nat) : p10 (i + 1) = 10 * p10 i := by unfold p10; rw [Nat.pow_succ]; omega
theorem p10_p (i : Nat) : 1 ≤ p10 i := by
  have := Nat.one_le_pow i 10 (by decide)
  unfold p10; omega
theorem p10_m {i j : Nat} (h : i ≤ j) : p10 i ≤ p10 j := by
  have := Nat.pow_le_pow_right (n := 10) (by decide) h
  unfold p10; omega
/-- what telling changes -/
def tl (σ0 σ : ms_T) (c : Nat) : Prop := fr [657, 697] [42, 43, 44, 59] σ0 σ ∧ (ms_I σ 697).toInt = (c : Int)
theorem s_tells (n : Nat) {σ0 σ : ms_T} {c : Nat} (h : tl σ0 σ c) (hc : c < 900) (x : Int32) : ws (f_X12_tells n σ x) (fun τ => tl σ0 τ (c + 1) ∧ ms_I τ 657 = ms_I σ 657) := by
  obtain ⟨hf, hi⟩ := h
  unfold f_X12_tells
  have e1 : (ms_I σ 697 + 1).toInt = (c : Int) + 1 := by rw [iw_add, lt1]; omega
  refine ws_g (by omega) (by omega) (ws_l (ws_l (ws_s ⟨⟨fr_tr hf (fr_tr (fr_sE (by decide)) (fr_sI (by decide))), ?_⟩, ?_⟩)))
  · rw [mI_sI, if_pos rfl, mI_sE, e1]; omega
  · rw [mI_sI, if_neg (by decide), mI_sE]
theorem s_tn18 (n : Nat) (a : Int32) : ∀ (i k c : Nat) (σ0 σ : ms_T) (v : Int32), v.toInt = p10 i → i + 1 < k → tl σ0 σ c → c + i + 1 ≤ 900 → ws (f_X12_tellsNumber_L18 n k σ a v) (fun τ => tl σ0 τ (c + i + 1) ∧ ms_I τ 657 = ms_I σ 657) := by
  intro i
  induction i with
  | zero =>
    intro k c σ0 σ v hv hk ht hc
    have hp : p10 0 = 1 := by decide
    obtain ⟨k, rfl⟩ : ∃ k', k = k' + 1 := ⟨k - 1, by omega⟩
    rw [f_X12_tellsNumber_L18.eq_2]
    refine ws_le (fun g => by rw [lt0] at g; omega) (fun _ => ws_n (fun q => by have := il_eq q; rw [lt0] at this; omega) (ws_b (s_tells n ht (by omega) _) (fun τ hτ => ws_l ?_)))
    obtain ⟨k, rfl⟩ : ∃ k', k = k' + 1 := ⟨k - 1, by omega⟩
    have e1 : (v / 10).toInt = 0 := by rw [ii_div (by omega) (by decide), hv, hp, t_10]; decide
    rw [f_X12_tellsNumber_L18.eq_2]
    exact ws_le (fun _ => ws_s hτ) (fun g => by rw [lt0] at g; omega)
  | succ i ih =>
    intro k c σ0 σ v hv hk ht hc
    have hp := p10_p i
    rw [p10_s] at hv
    obtain ⟨k, rfl⟩ : ∃ k', k = k' + 1 := ⟨k - 1, by omega⟩
    rw [f_X12_tellsNumber_L18.eq_2]
    refine ws_le (fun g => by rw [lt0] at g; omega) (fun _ => ws_n (fun q => by have := il_eq q; rw [lt0] at this; omega) (ws_b (s_tells n ht (by omega) _) (fun τ hτ => ws_l ?_)))
    have e1 : (v / 10).toInt = p10 i := by rw [ii_div (by omega) (by decide), hv, t_10]; omega
    refine ws_m (ih k (c + 1) σ0 τ (v / 10) e1 (by omega) hτ.1 (by omega)) (fun υ hυ => ⟨?_, hυ.2.trans hτ.2⟩)
    rw [show c + (i + 1) + 1 = c + 1 + i + 1 by omega]
    exact hυ.1
theorem s_tn2 (n : Nat) (hn : 70000 ≤ n) (a : Int32) : ∀ (k i c : Nat) (σ0 σ : ms_T) (v : Int32), v.toInt = p10 i → i ≤ 9 → (i = 0 ∨ 0 ≤ a.toInt) → 10 < k + i → tl σ0 σ c → c + 10 ≤ 900 → ws (f_X12_tellsNumber_L2 n k σ a v) (fun τ => (∃ c', tl σ0 τ c' ∧ c' ≤ c + 10) ∧ ms_I τ 657 = ms_I σ 657) := by
  intro k
  induction k with
  | zero => intro i c σ0 σ v hv hi ha hk ht hc; omega
  | succ k ih =>
    intro i c σ0 σ v hv hi ha hk ht hc
    have hp := p10_p i
    rw [f_X12_tellsNumber_L2.eq_2]
    have ba := ib_hi a
    refine ws_n (fun q => by have := il_eq q; rw [lt0] at this; omega) (ws_le (fun _ => ?_) (fun g => ws_l ?_))
    · exact ws_m (s_tn18 n a i n c σ0 σ v hv (by omega) ht (by omega)) (fun τ hτ => ⟨⟨_, hτ.1, by omega⟩, hτ.2⟩)
    · rw [t_9] at g
      have ha0 : 0 ≤ a.toInt := by
        rcases ha with e | e
        · subst e
          have h1 : p10 0 = 1 := by decide
          have ev : v = 1 := Int32.toInt_inj.mp (by rw [hv, h1, lt1])
          have ed : (a / v).toInt = a.toInt := by
            have e2 : (a / v).toInt = (a.toInt.tdiv v.toInt).bmod (2 ^ 32) := Int32.toInt_div a v
            have := ib_lo a
            rw [e2, ev, lt1, Int.tdiv_one]
            rw [Int.bmod_eq_of_le] <;> omega
          omega
        · exact e
      have ed : (a / v).toInt = a.toInt / p10 i := by rw [ii_div ha0 (by omega), hv]
      have hge : 10 * p10 i ≤ a.toInt := by
        have h1 := Int.emod_nonneg a.toInt (show p10 i ≠ 0 by omega)
        have h2 := Int.emod_add_mul_ediv a.toInt (p10 i)
        have h3 : p10 i * 10 ≤ p10 i * (a.toInt / p10 i) := Int.mul_le_mul_of_nonneg_left (by omega) (by omega)
        omega
      have hi9 : i + 1 ≤ 9 := by
        rcases Nat.lt_or_ge 8 i with h | h
        · have h9 : p10 9 = 1000000000 := by decide
          have := p10_m (show 9 ≤ i by omega)
          omega
        · omega
      have em : (v * 10).toInt = p10 (i + 1) := by rw [ii_mul (by rw [t_10]; omega) (by rw [t_10]; omega), t_10, hv, p10_s]; omega
      exact ih (i + 1) c σ0 σ (v * 10) em hi9 (Or.inr ha0) (by omega) ht hc
theorem s_tellsNumber (n : Nat) (hn : 70000 ≤ n) (a : Int32) {c : Nat} {σ0 σ : ms_T} (ht : tl σ0 σ c) (hc : c + 10 ≤ 900) : ws (f_X12_tellsNumber n σ a) (fun τ => (∃ c', tl σ0 τ c' ∧ c' ≤ c + 10) ∧ ms_I τ 657 = ms_I σ 657) := by
  unfold f_X12_tellsNumber
  exact s_tn2 n hn a n 0 c σ0 σ 1 (by decide) (by omega) (Or.inl rfl) (by omega) ht hc
theorem s_says_L (n : Nat) (hn : 70000 ≤ n) (i : Nat) (h8 : (hp_len i).toInt ≤ 20) (a : Int32) : ∀ (k c : Nat) (σ0 σ : ms_T) (v : Int32), 0 ≤ v.toInt → v.toInt ≤ 20 → 21 - v.toInt ≤ (k : Int) → tl σ0 σ c → (c : Int) - v.toInt + 31 ≤ 900 → ws (f_X12_says_L15 n i k σ a v) (fun τ => ∃ c' : Nat, tl σ0 τ c' ∧ (c' : Int) ≤ (c : Int) - v.toInt + 31) := by
  intro k
  induction k with
  | zero => intro c σ0 σ v g0 g1 g2; omega
  | succ k ih =>
    intro c σ0 σ v g0 g1 g2 ht hc
    rw [f_X12_says_L15.eq_2]
    refine ws_le (fun _ => ?_) (fun g => ws_q g0 g ?_)
    · refine ws_b (s_tells n ht (by omega) _) (fun τ hτ => ws_b (s_tellsNumber n hn a hτ.1 (by omega)) (fun υ hυ => ?_))
      obtain ⟨⟨c', h1, h2⟩, -⟩ := hυ
      exact ws_s ⟨c', h1, by omega⟩
    · have e1 : (v + 1).toInt = v.toInt + 1 := by (try simp only [iw_add, iw_sub, iw_mul, t_m1, lt0, lt1, t_2, t_3, t_4, t_5, t_6, t_8, t_9, t_10, t_16, t_20, t_24, t_26, t_30, t_31, t_48, t_64, t_72, t_76, t_92, t_101, t_252, t_444, t_512, t_900, t_1980, t_65521, t_99999, t_mil]) <;> omega
      refine ws_b (s_tells n ht (by omega) _) (fun τ hτ => ws_l (ws_m (ih (c + 1) σ0 τ (v + 1) (by omega) (by omega) (by omega) hτ.1 (by omega)) (fun υ hυ => ?_)))
      obtain ⟨c', h1, h2⟩ := hυ
      exact ⟨c', h1, by omega⟩
theorem s_says (n : Nat) (hn : 70000 ≤ n) (i : Nat) (h8 : (hp_len i).toInt ≤ 20) (a : Int32) {c : Nat} {σ0 σ : ms_T} (ht : tl σ0 σ c) (hc : c + 32 ≤ 900) : ws (f_X12_says n σ i a) (fun τ => ∃ c', tl σ0 τ c' ∧ c' ≤ c + 32) := by
  unfold f_X12_says f_X12_says_J13
  refine ws_i (fun _ => ?_) (fun _ => ws_b (s_tells n ht (by omega) _) (fun τ hτ => ?_))
  · refine ws_m (s_says_L n hn i h8 a n c σ0 σ 0 (by decide) (by decide) (by rw [lt0]; omega) ht (by rw [lt0]; omega)) (fun υ hυ => ?_)
    obtain ⟨c', h1, h2⟩ := hυ
    rw [lt0] at h2
    exact ⟨c', h1, by omega⟩
  · refine ws_m (s_says_L n hn i h8 a n (c + 1) σ0 τ 0 (by decide) (by decide) (by rw [lt0]; omega) hτ.1 (by rw [lt0]; omega)) (fun υ hυ => ?_)
    obtain ⟨c', h1, h2⟩ := hυ
    rw [lt0] at h2
    exact ⟨c', h1, by omega⟩
theorem RI_697 {σ τ : ms_T} {c : Nat} (h : RI σ) (t : tl σ τ c) (hc : c ≤ 900) : RI τ ∧ ms_I τ 667 = ms_I σ 667 := by
  obtain ⟨f, hi⟩ := t
  refine ⟨⟨⟨?_, ?_, ?_, by omega⟩, rC_fr h.2 f (by decide)⟩, f.1 667 (by decide)⟩
  · rw [f.1 664 (by decide)]; exact h.1.1
  · rw [f.1 667 (by decide)]; exact h.1.2.1
  · rw [f.1 682 (by decide)]; exact h.1.2.2.1
theorem s_tellsMarks_L (n : Nat) (hn : 70000 ≤ n) {w : Nat} (hw : w ≤ 32) : ∀ (k c : Nat) (σ0 σ : ms_T) (v : Int32), 0 ≤ v.toInt → v.toInt ≤ (w : Int) → (w : Int) - v.toInt < (k : Int) → (ms_I σ 657).toInt = (w : Int) → tl σ0 σ c → (c : Int) ≤ 400 + 11 * v.toInt → ws (f_X12_tellsMarks_L25 n k σ v) (fun q => ∃ c', tl σ0 q.2 c' ∧ c' ≤ 900) := by
  intro k
  induction k with
  | zero => intro c σ0 σ v g0 g1 g2; omega
  | succ k ih =>
    intro c σ0 σ v g0 g1 g2 hi ht hc
    rw [f_X12_tellsMarks_L25.eq_2]
    refine ws_le (fun _ => ws_b (s_tells n ht (by omega) _) (fun τ hτ => ws_s ⟨_, hτ.1, by omega⟩)) (fun g => ?_)
    have e1 : (v + 1).toInt = v.toInt + 1 := by (try simp only [iw_add, iw_sub, iw_mul, t_m1, lt0, lt1, t_2, t_3, t_4, t_5, t_6, t_8, t_9, t_10, t_16, t_20, t_24, t_26, t_30, t_31, t_48, t_64, t_72, t_76, t_92, t_101, t_252, t_444, t_512, t_900, t_1980, t_65521, t_99999, t_mil]) <;> omega
    refine ws_b (s_tells n ht (by omega) _) (fun τ hτ => ws_g g0 (by omega) (ws_b (s_tellsNumber n hn _ hτ.1 (by omega)) (fun υ hυ => ?_)))
    obtain ⟨⟨c', h1, h2⟩, h3⟩ := hυ
    exact ws_l (ih c' σ0 υ (v + 1) (by omega) (by omega) (by omega) (by rw [h3, hτ.2]; exact hi) h1 (by omega))
theorem s_tellsMarks (n : Nat) (hn : 70000 ≤ n) {B : Int} {σ0 σ1 σ : ms_T} {w c : Nat} (hC : rC (ms_E σ 40)) (hy : wy B σ1 σ w) (hB : B ≤ 48) (hw : w ≤ 32) (ht : tl σ0 σ c) (hc : c ≤ 300) (r : Int32) (h0 : 0 ≤ r.toInt) (h1 : r.toInt ≤ 3) : ws (f_X12_tellsMarks n σ r) (fun q => ∃ c', tl σ0 q.2 c' ∧ c' ≤ 900) := by
  unfold f_X12_tellsMarks
  refine ws_b (s_fetches n hn hC hy hB (by omega) r h0 h1) (fun τ hτ => ?_)
  have t1 : tl σ0 τ c := ⟨fr_tr ht.1 (fr_sb hτ (by decide) (by decide)), by rw [hτ.1 697 (by simp)]; exact ht.2⟩
  refine ws_b (s_tells n t1 (by omega) _) (fun τ2 h2 => ws_b (s_tells n h2.1 (by omega) _) (fun τ3 h3 => ws_b (s_tells n h3.1 (by omega) _) (fun τ4 h4 => ?_)))
  exact s_tellsMarks_L n hn hw n (c + 1 + 1 + 1) σ0 τ4 0 (by decide) (by rw [lt0]; omega) (by rw [lt0]; omega) (by rw [h4.2, h3.2, h2.2, hτ.1 657 (by simp)]; exact hy.2.1) h4.1 (by rw [lt0]; omega)
theorem s_tell (n : Nat) (hn : 70000 ≤ n) (σ : ms_T) (hR : RI σ) (a1 a2 a3 : Int32) : ws (f_X12_tell n σ a1 a2 a3) (PK σ) := by
  unfold f_X12_tell
  refine ws_b (s_noEntry hR.2 a1 a2 a3) (fun r hr => ws_isP hR (fun e τ hτ hE hf => ?_))
  have := hr e
  have t0 : tl τ (ms_sI τ 697 0) 0 := ⟨fr_sI (by decide), by rw [mI_sI, if_pos rfl]; rfl⟩
  refine ws_l (ws_b (s_says n hn 14 (by decide +kernel) a2 t0 (by omega)) (fun σ1 h1 => ?_))
  obtain ⟨k1, t1, l1⟩ := h1
  refine ws_b (s_says n hn 18 (by decide +kernel) a3 t1 (by omega)) (fun σ2 h2 => ?_)
  obtain ⟨k2, t2, l2⟩ := h2
  refine ws_b (s_entryMark hn (rC_fr hτ.2 t2.1 (by decide)) a1 a2 (by omega) (by omega) (by omega) (by omega)) (fun x _ => ws_b (s_says n hn 16 (by decide +kernel) x t2 (by omega)) (fun σ3 h3 => ?_))
  obtain ⟨k3, t3, l3⟩ := h3
  refine ws_b (s_headOf n hn (rC_fr hτ.2 t3.1 (by decide)) a1 a3 (by omega) (by omega) (by omega) (by omega)) (fun y _ => ws_b (s_says n hn 13 (by decide +kernel) y t3 (by omega)) (fun σ4 h4 => ?_))
  obtain ⟨k4, t4, l4⟩ := h4
  refine ws_b (s_inclusion n hn σ4 a2 a3 (by omega) (by omega)) (fun σ5 h5 => ?_)
  obtain ⟨w, hw, hl⟩ := h5
  have t5 : tl τ σ5 k4 := ⟨fr_tr t4.1 (fr_sb hw.1 (by decide) (by decide)), by rw [hw.1.1 697 (by decide)]; exact t4.2⟩
  refine ws_c (s_tellsMarks n hn (rC_fr hτ.2 t5.1 (by decide)) hw (by omega) (by omega) t5 (by omega) a1 (by omega) (by omega)) (fun z ρ hρ => ?_)
  obtain ⟨c, hc, hc9⟩ := hρ
  exact ws_s (RI_697 hτ hc hc9)
theorem s_tellGrowth (n : Nat) (hn : 70000 ≤ n) (σ : ms_T) (hR : RI σ) (a1 a2 a3 : Int32) : ws (f_X12_tellGrowth n σ a1 a2 a3) (PK σ) := by
  have L := lits
  have hC := hR.2
  have hJ : ∀ w : Int32, (w = 0 → 0 ≤ a1.toInt ∧ a1.toInt ≤ 3 ∧ 0 ≤ a2.toInt ∧ a2.toInt ≤ a3.toInt ∧ a3.toInt ≤ 48) → ws (f_X12_tellGrowth_J20 n σ a1 a2 a3 w) (PK σ) := by
    intro w hw
    unfold f_X12_tellGrowth_J20
    refine ws_isP hR (fun e τ hτ hE hf => ?_)
    have := hw e
    have t0 : tl τ (ms_sI τ 697 0) 0 := ⟨fr_sI (by decide), by rw [mI_sI, if_pos rfl]; rfl⟩
    refine ws_l (ws_b (s_says n hn 11 (by decide +kernel) a2 t0 (by omega)) (fun σ1 h1 => ?_))
    obtain ⟨k1, t1, l1⟩ := h1
    refine ws_b (s_headOf n hn (rC_fr hτ.2 t1.1 (by decide)) a1 a2 (by omega) (by omega) (by omega) (by omega)) (fun x _ => ws_b (s_says n hn 16 (by decide +kernel) x t1 (by omega)) (fun σ2 h2 => ?_))
    obtain ⟨k2, t2, l2⟩ := h2
    refine ws_b (s_says n hn 20 (by decide +kernel) a3 t2 (by omega)) (fun σ3 h3 => ?_)
    obtain ⟨k3, t3, l3⟩ := h3
    refine ws_b (s_headOf n hn (rC_fr hτ.2 t3.1 (by decide)) a1 a3 (by omega) (by omega) (by omega) (by omega)) (fun y _ => ws_b (s_says n hn 13 (by decide +kernel) y t3 (by omega)) (fun σ4 h4 => ?_))
    obtain ⟨k4, t4, l4⟩ := h4
    refine ws_b (s_growth0 n hn σ4 a2 a3) (fun σ5 h5 => ?_)
    obtain ⟨w, hw, hl⟩ := h5
    have t5 : tl τ σ5 k4 := ⟨fr_tr t4.1 (fr_sb hw.1 (by decide) (by decide)), by rw [hw.1.1 697 (by decide)]; exact t4.2⟩
    refine ws_c (s_tellsMarks n hn (rC_fr hτ.2 t5.1 (by decide)) hw (by omega) (by omega) t5 (by omega) a1 (by omega) (by omega)) (fun z ρ hρ => ?_)
    obtain ⟨c, hc, hc9⟩ := hρ
    exact ws_s (RI_697 hτ hc hc9)
  unfold f_X12_tellGrowth
  repeat' (first
    | with_reducible refine ws_bo (s_isRecord (by assumption) _) (fun _ => ?_) (fun _ => ?_)
    | with_reducible refine ws_bo (s_isMark (by assumption) _) (fun _ => ?_) (fun _ => ?_)
    | with_reducible refine ws_bo (s_isIn _ _ _ _) (fun _ => ?_) (fun _ => ?_)
    | with_reducible refine ws_bo (s_isWatcher _ _) (fun _ => ?_) (fun _ => ?_)
    | with_reducible refine ws_bo (s_isThing _ _ _ _) (fun _ => ?_) (fun _ => ?_)
    | with_reducible refine ws_b (s_noSize (by assumption) _ _) (fun _ _ => ?_)
    | with_reducible refine ws_b (s_noEntry (by assumption) _ _ _) (fun _ _ => ?_)
    | with_reducible refine ws_b (s_sizeOf (by assumption) _ (by omega) (by omega)) (fun _ _ => ?_)
    | with_reducible refine ws_lt (fun _ => ?_) (fun _ => ?_)
    | with_reducible refine ws_le (fun _ => ?_) (fun _ => ?_)
    | with_reducible refine ws_ee (fun _ _ => ?_) (fun _ => ?_)
    | with_reducible refine ws_g (by decide) (by decide) ?_
    | with_reducible refine ws_g (by omega) (by omega) ?_)
  all_goals first
    | exact hJ _ (fun h => absurd h (by decide))
    | exact hJ _ (fun _ => by omega)
    | (refine hJ _ (fun h => ?_); rename_i q; have := q h; omega)
