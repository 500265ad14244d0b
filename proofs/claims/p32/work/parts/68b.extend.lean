theorem s_extend_L (n : Nat) (A P : Nat) (hA : A < 1048576) (hP : P = bc A) (hP63 : P ≤ 63) : ∀ (k t : Nat) (τ : ms_T) (x v : Int32), RI τ → (ms_E τ 40 2).toInt = (P : Int) - t → A % 2 ^ t = 2 ^ t - 1 → v.toInt = ((A / 2 ^ t : Nat) : Int) → t ≤ 20 → 21 - (t : Int) ≤ (k : Int) → ws (f_X12_extend_L55 n k τ x v) (PK τ) := by
  intro k
  induction k with
  | zero => intro t τ x v hR hc hm hv ht hk; omega
  | succ k ih =>
    intro t τ x v hR hc hm hv ht hk
    rw [f_X12_extend_L55.eq_2, c2]
    have h64 := hR.2.2.2.1
    have hv0 : 0 ≤ v.toInt := by
      generalize A / 2 ^ t = Q at hv
      omega
    have hrem : (v - v / 2 * 2).toInt = v.toInt % 2 := by rw [ii_rem (x := v) (y := 2) hv0 (by decide), t_2]
    have l1 := lt1
    refine ws_ee (fun _ e => ?_) (fun e => ?_)
    · have ho : A / 2 ^ t % 2 = 1 := by omega
      have hp := Nat.one_le_two_pow (n := t)
      have ht2 : t + 1 ≤ 20 := by
        rcases Nat.lt_or_ge t 20 with q | q
        · omega
        · have e20 : t = 20 := by omega
          rw [e20, Nat.div_eq_of_lt (by omega)] at ho
          omega
      have hm2 : A % 2 ^ (t + 1) = 2 ^ (t + 1) - 1 := by
        rw [Nat.pow_succ, Nat.mod_mul, hm, ho]
        omega
      have hle := bc_t A (t + 1) hA ht2 hm2
      rw [← hP] at hle
      have e1 : (ms_E τ 40 2 - 1).toInt = (P : Int) - t - 1 := by rw [iw_sub, lt1]; omega
      have ed : (v / 2).toInt = ((A / 2 ^ (t + 1) : Nat) : Int) := by
        rw [ii_div hv0 (by decide), t_2, hv, Nat.pow_succ, ← Nat.div_div_eq_div_mul]
        generalize A / 2 ^ t = Q
        omega
      refine ws_g (by decide) (by decide) (ws_g (by decide) (by decide) (ws_ln (fun σ1 hs => ?_)))
      have hR1 : RI σ1 := by rw [hs]; exact RI_sE hR ⟨fun _ => by omega, fun _ => by omega, fun _ => by omega, fun _ => by omega, fun _ _ _ => by omega, fun _ _ _ => by omega, fun _ _ _ => by omega, fun _ _ _ => by omega, fun _ _ _ => by omega⟩
      have ez : ms_E σ1 40 2 = ms_E τ 40 2 - 1 := by rw [hs, mE_sE, if_pos ⟨rfl, rfl⟩]
      have e7 : ms_I σ1 667 = ms_I τ 667 := by rw [hs]; rfl
      have e8 : ((8 : Int32) + ms_E σ1 40 2).toInt = 8 + ((P : Int) - t - 1) := by rw [iw_add, ez, e1, t_8]; omega
      refine ws_g (by decide) (by decide) (ws_g (by omega) (by omega) (ws_b (s_both hR1.2 _ _) (fun y _ => ws_l (ws_m (ih (t + 1) σ1 y (v / 2) hR1 (by rw [ez, e1]; omega) hm2 ed ht2 (by omega)) (fun q hq => pk_tr e7 hq)))))
    · have e8 : ((8 : Int32) + ms_E τ 40 2).toInt = 8 + (ms_E τ 40 2).toInt := by rw [iw_add, t_8]; omega
      have e1 : (ms_E τ 40 2 + 1).toInt = (ms_E τ 40 2).toInt + 1 := by rw [iw_add, lt1]; omega
      have ec := cl_n (i := (8 : Int32) + ms_E τ 40 2) (k := 8 + (ms_E τ 40 2).toInt.toNat) (by omega)
      refine ws_g (by decide) (by decide) (ws_g (by omega) (by omega) (ws_l (ws_g (by decide) (by decide) (ws_g (by decide) (by decide) (ws_l (ws_g (by decide) (by decide) (ws_s (PKs ?_ rfl _))))))))
      rw [ec]
      refine RI_sE (RI_sE hR (rc_f (by omega))) ?_
      rw [mE_sE, if_neg (fun q => by omega)]
      exact ⟨fun _ => by omega, fun _ => by omega, fun _ => by omega, fun _ => by omega, fun _ _ _ => by omega, fun _ _ _ => by omega, fun _ _ _ => by omega, fun _ _ _ => by omega, fun _ _ _ => by omega⟩
theorem s_extend (n : Nat) (hn : 70000 ≤ n) (σ : ms_T) (hR : RI σ) (a1 a2 : Int32) : ws (f_X12_extend n σ a1 a2) (PK σ) := by
  have L := lits
  have tm := t_mil
  have hC := hR.2
  have hJ : ∀ w : Int32, (w = 0 → 0 ≤ a1.toInt ∧ a1.toInt ≤ 1000000 ∧ (ms_E σ 40 2).toInt = (bc a1.toInt.toNat : Int) ∧ bc a1.toInt.toNat ≤ 63) → ws (f_X12_extend_J42 n σ a1 a2 w) (PK σ) := by
    intro w hw
    unfold f_X12_extend_J42
    refine ws_isP hR (fun e τ hτ hE hf => ?_)
    obtain ⟨q1, q2, q3, q4⟩ := hw e
    rw [← hE] at q3
    exact s_extend_L n a1.toInt.toNat _ (by omega) rfl q4 n 0 τ a2 a1 hτ (by omega) (by rw [Nat.pow_zero, Nat.mod_one]) (by rw [Nat.pow_zero, Nat.div_one]; omega) (by omega) (by omega)
  unfold f_X12_extend
  rw [c2]
  refine ws_bo (s_isIn n _ _ _) (fun _ => hJ _ (fun h => absurd h (by decide))) (fun q => ws_bo (s_isMark hC _) (fun _ => hJ _ (fun h => absurd h (by decide))) (fun _ => ?_))
  obtain ⟨r, er, hr⟩ := s_bitCount2 n a1 (by omega) (by omega)
  obtain ⟨r', er', hr'⟩ := s_bitCount n a1
  rw [er] at er'
  cases er'
  refine ws_b (S := fun x => x = r) ⟨r, er, rfl⟩ (fun x hx => ?_)
  subst hx
  refine ws_g (by decide) (by decide) (ws_ee (fun _ e => hJ _ (fun _ => ⟨by omega, by omega, by omega, by omega⟩)) (fun _ => hJ _ (fun h => absurd h (by decide))))
