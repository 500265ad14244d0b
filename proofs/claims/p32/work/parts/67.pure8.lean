/-! ===== bundles folded, trees sought, steps ===== -/
/-- what foldsBundle changes -/
def fb (σ0 σ : ms_T) (w s : Nat) : Prop := fr [658, 661] [] σ0 σ ∧ (ms_I σ 658).toInt = (w : Int) ∧ (ms_I σ 661).toInt = (s : Int)
theorem fb_w {σ0 σ : ms_T} {w s : Nat} (h : fb σ0 σ w s) (hw : w < 128) : fb σ0 (ms_sI σ 658 (ms_I σ 658 + 1)) (w + 1) s ∧ (ms_I (ms_sI σ 658 (ms_I σ 658 + 1)) 658 - 1).toInt = (w : Int) := by
  obtain ⟨h1, h2, h3⟩ := h
  have e1 : (ms_I σ 658 + 1).toInt = (w : Int) + 1 := by rw [iw_add, lt1]; omega
  have e2 : ms_I (ms_sI σ 658 (ms_I σ 658 + 1)) 658 = ms_I σ 658 + 1 := by rw [mI_sI, if_pos rfl]
  refine ⟨⟨fr_tr h1 (fr_sI (by decide)), by rw [e2, e1]; omega, by rw [mI_sI, if_neg (by decide)]; exact h3⟩, ?_⟩
  rw [e2, iw_sub, lt1, e1]; omega
theorem fb_s {σ0 σ : ms_T} {w s : Nat} (h : fb σ0 σ w s) (hs : s < 128) : fb σ0 (ms_sI σ 661 (ms_I σ 661 + 1)) w (s + 1) ∧ (ms_I (ms_sI σ 661 (ms_I σ 661 + 1)) 661 - 1).toInt = (s : Int) := by
  obtain ⟨h1, h2, h3⟩ := h
  have e1 : (ms_I σ 661 + 1).toInt = (s : Int) + 1 := by rw [iw_add, lt1]; omega
  have e2 : ms_I (ms_sI σ 661 (ms_I σ 661 + 1)) 661 = ms_I σ 661 + 1 := by rw [mI_sI, if_pos rfl]
  refine ⟨⟨fr_tr h1 (fr_sI (by decide)), by rw [mI_sI, if_neg (by decide)]; exact h2, by rw [e2, e1]; omega⟩, ?_⟩
  rw [e2, iw_sub, lt1, e1]; omega
theorem s_fbOut (n : Nat) {σ0 σ : ms_T} {w s : Nat} (h : fb σ0 σ w s) (hw : w < 128) : ws (ms_l (ms_sI σ 658 (ms_I σ 658 + 1)) fun τ => ms_g (ms_I τ 658 - 1) 128 <| some ((ms_E τ 44 ((ms_I τ 658 - 1)).toNatClampNeg), τ)) (fun q => fb σ0 q.2 (w + 1) s) := by
  obtain ⟨h1, h2⟩ := fb_w h hw
  exact ws_l (ws_g (by omega) (by omega) (ws_s h1))
theorem s_fbIn (n : Nat) {σ0 σ : ms_T} {w s : Nat} (h : fb σ0 σ w s) (hs : s < 128) : ws (ms_l (ms_sI σ 661 (ms_I σ 661 + 1)) fun τ => ms_g (ms_I τ 661 - 1) 128 <| some ((ms_E τ 44 ((ms_I τ 661 - 1)).toNatClampNeg), τ)) (fun q => fb σ0 q.2 w (s + 1)) := by
  obtain ⟨h1, h2⟩ := fb_s h hs
  exact ws_l (ws_g (by omega) (by omega) (ws_s h1))
theorem s_foldsA (n : Nat) (hn : 70000 ≤ n) : ∀ (k d w s : Nat) (σ0 σ : ms_T) (b f m : Int32), k < d → rC (ms_E σ0 40) → fb σ0 σ w s → (w : Int) + m.toInt ≤ 127 → (s : Int) + m.toInt ≤ 127 → 0 ≤ f.toInt → 1 ≤ m.toInt → f.toInt + m.toInt ≤ 2147483647 → m.toInt ≤ p2 k → ws (f_X12_foldsBundle n d σ b f m) (fun q => ∃ w' s', fb σ0 q.2 w' s' ∧ (w' : Int) ≤ w + m.toInt ∧ (s' : Int) ≤ s + m.toInt) := by
  intro k
  induction k with
  | zero =>
    intro d w s σ0 σ b f m hd hC hf hw hs h0 h1 h2 h3
    have : p2 0 = 1 := by decide
    obtain ⟨d, rfl⟩ : ∃ d', d = d' + 1 := ⟨d - 1, by omega⟩
    rw [f_X12_foldsBundle.eq_2]
    refine ws_b (s_hasAny n hn b f m) (fun r hr => ws_i (fun _ => ?_) (fun _ => ws_e (fun _ => ?_) (fun c => ?_)))
    · exact ws_m (s_fbOut n hf (by omega)) (fun q hq => ⟨w + 1, s, hq, by omega, by omega⟩)
    · exact ws_m (s_fbIn n hf (by omega)) (fun q hq => ⟨w, s + 1, hq, by omega, by omega⟩)
    · rw [lt1] at c; omega
  | succ k ih =>
    intro d w s σ0 σ b f m hd hC hf hw hs h0 h1 h2 h3
    obtain ⟨d, rfl⟩ : ∃ d', d = d' + 1 := ⟨d - 1, by omega⟩
    rw [f_X12_foldsBundle.eq_2]
    refine ws_b (s_hasAny n hn b f m) (fun r hr => ws_i (fun _ => ?_) (fun _ => ws_e (fun _ => ?_) (fun c => ?_)))
    · exact ws_m (s_fbOut n hf (by omega)) (fun q hq => ⟨w + 1, s, hq, by omega, by omega⟩)
    · exact ws_m (s_fbIn n hf (by omega)) (fun q hq => ⟨w, s + 1, hq, by omega, by omega⟩)
    · have h2m := ne1_2 (a := m) h1 c
      refine ws_b (s_part0 n hn m h2m) (fun p hp => ?_)
      obtain ⟨j, hp⟩ := hp
      obtain ⟨q1, q2, q3, q4, q5⟩ := pt_k hp h3
      have e1 : (f + p).toInt = f.toInt + p.toInt := ii_add (by omega) (by omega)
      have e2 : (m - p).toInt = m.toInt - p.toInt := ii_sub (by omega) (by omega)
      refine ws_c (ih d w s σ0 σ b f p (by omega) hC hf (by omega) (by omega) h0 q3 (by omega) q1) (fun x τ hτ => ?_)
      obtain ⟨w', s', hf', hl, hl'⟩ := hτ
      refine ws_c (ih d w' s' σ0 τ b (f + p) (m - p) (by omega) hC hf' (by omega) (by omega) (by omega) (by omega) (by omega) (by omega)) (fun y υ hυ => ?_)
      obtain ⟨w2, s2, hf2, hl2, hl3⟩ := hυ
      exact ws_b (s_both (rC_fr hC hf2.1 (by decide)) _ _) (fun _ _ => ws_s ⟨w2, s2, hf2, by omega, by omega⟩)
theorem s_foldsB (n : Nat) (hn : 70000 ≤ n) : ∀ (k d w : Nat) (σ0 σ : ms_T) (b m : Int32), k + 6 < d → rC (ms_E σ0 40) → fb σ0 σ w 0 → w ≤ 63 → 1 ≤ m.toInt → m.toInt ≤ p2 (k + 5) → k ≤ 26 → ws (f_X12_foldsBundle n d σ b 0 m) (fun q => ∃ w' s', fb σ0 q.2 w' s' ∧ w' ≤ w + 32 + k ∧ s' ≤ 32) := by
  intro k
  induction k with
  | zero =>
    intro d w σ0 σ b m hd hC hf hw h1 h3 hk
    have : p2 5 = 32 := by decide
    have h3' : m.toInt ≤ p2 5 := h3
    refine ws_m (s_foldsA n hn 5 d w 0 σ0 σ b 0 m (by omega) hC hf (by omega) (by omega) (by decide) h1 (by rw [lt0]; omega) h3) (fun q hq => ?_)
    obtain ⟨w', s', h, h4, h5⟩ := hq
    exact ⟨w', s', h, by omega, by omega⟩
  | succ k ih =>
    intro d w σ0 σ b m hd hC hf hw h1 h3 hk
    by_cases hm : m.toInt ≤ p2 (k + 5)
    · refine ws_m (ih d w σ0 σ b m (by omega) hC hf hw h1 hm (by omega)) (fun q hq => ?_)
      obtain ⟨w', s', h, h4, h5⟩ := hq
      exact ⟨w', s', h, by omega, by omega⟩
    have h32 : p2 5 = 32 := by decide
    have hk5 := p2_m (show 5 ≤ k + 5 by omega)
    have bm := ib_hi m
    obtain ⟨d, rfl⟩ : ∃ d', d = d' + 1 := ⟨d - 1, by omega⟩
    rw [f_X12_foldsBundle.eq_2]
    refine ws_b (s_hasAny n hn b 0 m) (fun r hr => ws_i (fun _ => ?_) (fun _ => ws_e (fun _ => ?_) (fun c => ?_)))
    · exact ws_m (s_fbOut n hf (by omega)) (fun q hq => ⟨w + 1, 0, hq, by omega, by omega⟩)
    · exact ws_m (s_fbIn n hf (by omega)) (fun q hq => ⟨w, 0 + 1, hq, by omega, by omega⟩)
    · have h2m := ne1_2 (a := m) h1 c
      refine ws_b (s_part0 n hn m h2m) (fun p hp => ?_)
      obtain ⟨j, hp⟩ := hp
      obtain ⟨q1, q2, q3, q4, q5⟩ := pt_k hp h3
      have hp1 : p2 (k + 5) ≤ p.toInt := by
        obtain ⟨a1, a2, a3⟩ := hp
        have : k + 5 < j + 1 := p2_lt (by omega)
        have := p2_m (show k + 5 ≤ j by omega)
        omega
      have e1 : ((0 : Int32) + p).toInt = p.toInt := by rw [ii_add (by rw [lt0]; omega) (by rw [lt0]; omega), lt0]; omega
      have e2 : (m - p).toInt = m.toInt - p.toInt := ii_sub (by omega) (by omega)
      refine ws_c (ih d w σ0 σ b p (by omega) hC hf hw q3 q1 (by omega)) (fun x τ hτ => ?_)
      obtain ⟨w', s', hf', hl, hl'⟩ := hτ
      obtain ⟨d, rfl⟩ : ∃ d', d = d' + 1 := ⟨d - 1, by omega⟩
      have hrest : ws (f_X12_foldsBundle n (d + 1) τ b (0 + p) (m - p)) (fun q => fb σ0 q.2 (w' + 1) s') := by
        rw [f_X12_foldsBundle.eq_2]
        refine ws_b (s_hasAny n hn b (0 + p) (m - p)) (fun r hr => ws_i (fun _ => ?_) (fun g => absurd (hr.2.1 (by omega)) g))
        exact s_fbOut n hf' (by omega)
      refine ws_c hrest (fun y υ hυ => ?_)
      exact ws_b (s_both (rC_fr hC hυ.1 (by decide)) _ _) (fun _ _ => ws_s ⟨w' + 1, s', hυ, by omega, by omega⟩)
theorem s_bundled (n : Nat) (hn : 70000 ≤ n) (σ : ms_T) (hR : RI σ) (a1 a2 a3 : Int32) : ws (f_X12_bundled n σ a1 a2 a3) (PK σ) := by
  have L := lits
  have hJ : ∀ w : Int32, (w = 0 → 0 ≤ a2.toInt) → ws (f_X12_bundled_J30 n σ a1 a2 a3 w) (PK σ) := by
    intro w hw
    unfold f_X12_bundled_J30
    refine ws_isP hR (fun e τ hτ hE hf => ?_)
    have h0 := hw e
    have hB : ws (f_X12_bundleOf n τ a1 a2) (fun υ => fr [657] [42, 43] τ υ) := by
      by_cases hm : 1 ≤ a2.toInt
      · refine ws_m (s_bundleOf n hn τ a1 a2 hm) (fun υ hυ => ?_)
        obtain ⟨w, hw, hl⟩ := hυ
        exact hw.1
      · exact ws_m (s_bundleOf0 n hn τ a1 a2 (by omega)) (fun υ hυ => hυ.1)
    refine ws_b hB (fun υ hυ => ?_)
    have hυR := RI_fr hτ hυ (by decide)
    refine ws_pk hτ hυ (by decide) (ws_b (s_bitCount n a1) (fun c hc => ws_l (ws_c (s_fromPad n hn υ hυR.2) (fun g ρ hρ => ?_))))
    have hρR := RI_fr hυR hρ.1 (by decide)
    refine ws_pk hυR hρ.1 (by decide) (ws_l (ws_l ?_))
    have hg : fr [658, 661] [] ρ (ms_sI (ms_sI ρ 658 c) 661 0) := fr_tr (fr_sI (by decide)) (fr_sI (by decide))
    have hJ4 : ∀ φ x y z, fr [658, 661] [] ρ φ → ws (f_X12_bundled_J104 n φ x y z) (PK ρ) := by
      intro φ x y z h
      unfold f_X12_bundled_J104
      exact ws_b (s_why n φ _ _ _) (fun _ _ => ws_s (pk hρR h (by decide) _))
    refine ws_i (fun _ => ?_) (fun _ => hJ4 _ _ _ _ hg)
    have hfold : ws (f_X12_foldsBundle n 40 (ms_sI (ms_sI ρ 658 c) 661 0) a1 0 a2) (fun q => fr [658, 661] [] ρ q.2) := by
      have hfb : fb ρ (ms_sI (ms_sI ρ 658 c) 661 0) c.toInt.toNat 0 := ⟨hg, by rw [mI_sI, if_neg (by decide), mI_sI, if_pos rfl]; omega, by rw [mI_sI, if_pos rfl]; rfl⟩
      by_cases hm : 1 ≤ a2.toInt
      · have b := ib_hi a2
        refine ws_m (s_foldsB n hn 26 40 _ ρ _ a1 a2 (by omega) hρR.2 hfb (by omega) hm (by rw [p2_31]; omega) (by omega)) (fun q hq => ?_)
        obtain ⟨w', s', h, -, -⟩ := hq
        exact h.1
      · rw [f_X12_foldsBundle.eq_2]
        refine ws_b (s_hasAny n hn a1 0 a2) (fun r hr => ws_i (fun _ => ?_) (fun g => absurd (hr.2.2 rfl (by omega)) g))
        exact ws_m (s_fbOut n hfb (by omega)) (fun q hq => hq.1)
    exact ws_c hfold (fun x φ hφ => ws_i (fun _ => hJ4 _ _ _ _ hφ) (fun _ => hJ4 _ _ _ _ hφ))
  unfold f_X12_bundled
  refine ws_lt (fun _ => hJ _ (fun h => absurd h (by decide))) (fun _ => ws_le (fun _ => hJ _ (fun h => absurd h (by decide))) (fun _ => ws_b (s_isBeyond n hn a1 a2) (fun _ _ => ws_i (fun _ => ws_bo (s_isMark hR.2 _) (fun _ => hJ _ (fun h => absurd h (by decide))) (fun _ => hJ _ (fun _ => by omega))) (fun _ => hJ _ (fun h => absurd h (by decide))))))
/-! fold -/
theorem s_fold_L (n : Nat) {τ : ms_T} (hR : RI τ) : ∀ (k : Nat) (x v : Int32), -1 ≤ v.toInt → v.toInt ≤ 62 → v.toInt + 1 < (k : Int) → ws (f_X12_fold_L43 n k τ x v) (PK τ) := by
  intro k
  induction k with
  | zero => intro x v g0 g1 g2; omega
  | succ k ih =>
    intro x v g0 g1 g2
    have l0 := lt0
    rw [f_X12_fold_L43.eq_2]
    refine ws_lt (fun _ => ws_s (PKr hR _)) (fun _ => ?_)
    have e8 : ((8 : Int32) + v).toInt = 8 + v.toInt := by (try simp only [iw_add, iw_sub, iw_mul, t_m1, lt0, lt1, t_2, t_3, t_4, t_5, t_6, t_8, t_9, t_10, t_16, t_20, t_24, t_26, t_30, t_31, t_48, t_64, t_72, t_76, t_92, t_101, t_252, t_444, t_512, t_900, t_1980, t_65521, t_99999, t_mil]) <;> omega
    refine ws_g (by omega) (by omega) (ws_b (s_both hR.2 _ _) (fun _ _ => ws_l ?_))
    generalize hu : v + (-1) = u
    have e1 : u.toInt = v.toInt - 1 := by rw [← hu, iw_add, t_m1]; omega
    clear hu
    exact ih _ u (by omega) (by omega) (by omega)
theorem s_fold (n : Nat) (hn : 70000 ≤ n) (σ : ms_T) (hR : RI σ) : ws (f_X12_fold n σ) (PK σ) := by
  unfold f_X12_fold
  refine ws_is0 hR (fun τ hτ _ _ => ?_)
  have h64 := hτ.2.2.2.1
  rw [c2]
  refine ws_g (by decide) (by decide) (ws_e (fun _ => ws_s (PKr hτ _)) (fun c => ?_))
  rw [lt0] at c
  have e8 : ((8 : Int32) + ms_E τ 40 2).toInt = 8 + (ms_E τ 40 2).toInt := by (try simp only [iw_add, iw_sub, iw_mul, t_m1, lt0, lt1, t_2, t_3, t_4, t_5, t_6, t_8, t_9, t_10, t_16, t_20, t_24, t_26, t_30, t_31, t_48, t_64, t_72, t_76, t_92, t_101, t_252, t_444, t_512, t_900, t_1980, t_65521, t_99999, t_mil]) <;> omega
  have e9 : ((8 : Int32) + ms_E τ 40 2 - 1).toInt = 7 + (ms_E τ 40 2).toInt := by rw [iw_sub, e8, lt1]; omega
  have e10 : (ms_E τ 40 2 - 2).toInt = (ms_E τ 40 2).toInt - 2 := by rw [iw_sub, t_2]; omega
  exact ws_g (by decide) (by decide) (ws_g (by omega) (by omega) (ws_l (ws_g (by decide) (by decide) (ws_l (s_fold_L n hτ n _ _ (by omega) (by omega) (by omega))))))
/-! part -/
theorem s_part_L (n : Nat) (hn : 70000 ≤ n) {τ : ms_T} (hR : RI τ) (a1 a2 a3 : Int32) (h0 : 0 ≤ a1.toInt) (h1 : a1.toInt ≤ 3) (h2 : 0 ≤ a2.toInt) (h3 : a2.toInt ≤ 3) : ∀ (k : Nat) (m f x : Int32), 0 ≤ f.toInt → 0 ≤ m.toInt → f.toInt + m.toInt ≤ 48 → m.toInt < (k : Int) → ws (f_X12_part_L123 n k τ a1 a2 a3 m f x) (PK τ) := by
  intro k
  induction k with
  | zero => intro m f x g0 g1 g2 g3; omega
  | succ k ih =>
    intro m f x g0 g1 g2 g3
    have l1 := lt1
    rw [f_X12_part_L123.eq_2]
    refine ws_le (fun _ => ws_i (fun _ => ws_s (PKr hR _)) (fun _ => ws_s (PKr hR _))) (fun _ => ?_)
    refine ws_b (s_part0 n hn m (by omega)) (fun p hp => ?_)
    obtain ⟨j, hp1, hp2, hp3⟩ := hp
    have hj := p2_p j
    rw [p2_s] at hp3
    have e1 : (f + p).toInt = f.toInt + p.toInt := ii_add (by omega) (by omega)
    have e2 : (m - p).toInt = m.toInt - p.toInt := ii_sub (by omega) (by omega)
    have e0 : f + 0 = f := by simp
    have hJ : ∀ w, ws (f_X12_part_J165 n (f_X12_part_L123 n k) τ a1 a2 a3 m f (x + 1) p w) (PK τ) := by
      intro w
      unfold f_X12_part_J165 f_X12_part_J180 f_X12_part_J198
      refine ws_i (fun e => ws_l (ws_i (fun _ => ?_) (fun g => absurd e g))) (fun e => ws_l (ws_i (fun g => absurd g e) (fun _ => ?_)))
      · rw [e0]
        exact ih p f (x + 1) g0 (by omega) (by omega) (by omega)
      · exact ih (m - p) (f + p) (x + 1) (by omega) (by omega) (by omega) (by omega)
    exact ws_l (ws_b (s_tree0 n hn hR.2 a1 f p h0 h1 g0 (by omega) (by omega)) (fun _ _ => ws_b (s_tree0 n hn hR.2 a2 f p h2 h3 g0 (by omega) (by omega)) (fun _ _ => ws_i (fun _ => hJ _) (fun _ => hJ _))))
theorem s_part (n : Nat) (hn : 70000 ≤ n) (σ : ms_T) (hR : RI σ) (a1 a2 a3 : Int32) : ws (f_X12_part n σ a1 a2 a3) (PK σ) := by
  have hC := hR.2
  have h4 := hC.1
  have hJ : ∀ w : Int32, (w = 0 → 0 ≤ a1.toInt ∧ a1.toInt ≤ 3 ∧ 0 ≤ a2.toInt ∧ a2.toInt ≤ 3) → ws (f_X12_part_J35 n σ a1 a2 a3 w) (PK σ) := by
    intro w hw
    unfold f_X12_part_J35
    refine ws_isP hR (fun e τ hτ hE hf => ?_)
    have := hw e
    have hJ6 : ∀ m : Int32, 0 ≤ m.toInt → m.toInt ≤ 48 → ws (f_X12_part_J69 n τ a1 a2 a3 m) (PK τ) := by
      intro m h0 h1
      unfold f_X12_part_J69
      refine ws_b (s_headOf n hn hτ.2 a1 m (by omega) (by omega) h0 h1) (fun _ _ => ws_b (s_headOf n hn hτ.2 a2 m (by omega) (by omega) h0 h1) (fun _ _ => ws_i (fun _ => ws_i (fun _ => ws_s (PKr hτ _)) (fun _ => ?_)) (fun _ => ?_)))
      · exact ws_b (s_sizeOf hτ.2 a1 (by omega) (by omega)) (fun _ _ => ws_b (s_sizeOf hτ.2 a2 (by omega) (by omega)) (fun _ _ => ws_i (fun _ => ws_s (PKr hτ _)) (fun _ => ws_s (PKr hτ _))))
      · exact s_part_L n hn hτ a1 a2 a3 (by omega) (by omega) (by omega) (by omega) n m 0 0 (by decide) h0 (by rw [lt0]; omega) (by omega)
    exact ws_b (s_sizeOf hτ.2 a1 (by omega) (by omega)) (fun _ _ => ws_b (s_sizeOf hτ.2 a2 (by omega) (by omega)) (fun _ _ => ws_i (fun _ => ws_b (s_sizeOf hτ.2 a2 (by omega) (by omega)) (fun _ h => hJ6 _ h.2.1 h.2.2)) (fun _ => ws_b (s_sizeOf hτ.2 a1 (by omega) (by omega)) (fun _ h => hJ6 _ h.2.1 h.2.2))))
  unfold f_X12_part
  repeat' (first
    | with_reducible refine ws_bo (s_isRecord (by assumption) _) (fun _ => ?_) (fun _ => ?_)
    | with_reducible refine ws_bo (s_isMark (by assumption) _) (fun _ => ?_) (fun _ => ?_)
    | with_reducible refine ws_bo (s_isIn _ _ _ _) (fun _ => ?_) (fun _ => ?_)
    | with_reducible refine ws_bo (s_isWatcher _ _) (fun _ => ?_) (fun _ => ?_)
    | with_reducible refine ws_bo (s_isThing _ _ _ _) (fun _ => ?_) (fun _ => ?_)
    | with_reducible refine ws_b (s_noSize (by assumption) _ _) (fun _ _ => ?_)
    | with_reducible refine ws_b (s_noEntry (by assumption) _ _ _) (fun _ _ => ?_)
    | with_reducible refine ws_b (s_sizeOf (by assumption) _ (by omega) (by omega)) (fun _ _ => ?_)
    | with_reducible refine ws_lt (fun _ => ?_) (fun _ => ?_)
    | with_reducible refine ws_le (fun _ => ?_) (fun _ => ?_)
    | with_reducible refine ws_ee (fun _ _ => ?_) (fun _ => ?_)
    | with_reducible refine ws_g (by decide) (by decide) ?_
    | with_reducible refine ws_g (by omega) (by omega) ?_)
  all_goals first
    | exact hJ _ (fun h => absurd h (by decide))
    | exact hJ _ (fun _ => by omega)
    | (refine hJ _ (fun h => ?_); rename_i q; have := q h; omega)
