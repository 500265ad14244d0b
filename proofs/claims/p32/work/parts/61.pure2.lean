/-! ===== more of the reference's inner functions ===== -/
theorem s_is (n : Nat) (σ : ms_T) (a : Int32) : ws (f_X12_is n σ a) (fun q => fr [652, 653] [] σ q.2 ∧ bo q.1 (a = 0)) := by
  unfold f_X12_is
  refine ws_l (ws_l (ws_i (fun h => ws_s ⟨fr_tr (fr_sI (by decide)) (fr_sI (by decide)), Or.inl ⟨rfl, h⟩⟩) (fun h => ws_s ⟨fr_tr (fr_sI (by decide)) (fr_sI (by decide)), Or.inr ⟨rfl, h⟩⟩)))
theorem s_refuse (n : Nat) (σ : ms_T) (a : Int32) : ws (f_X12_refuse n σ a) (fun q => fr [652, 653] [] σ q.2 ∧ q.1 = -1) := by
  unfold f_X12_refuse
  exact ws_l (ws_s ⟨fr_sI (by decide), rfl⟩)
/-- a call that refuses, or goes on -/
theorem ws_is {n : Nat} {σ : ms_T} {w : Int32} {k : ms_T → Option (Int32 × ms_T)} {P : Int32 × ms_T → Prop} (h0 : ∀ τ, fr [652, 653] [] σ τ → P (-1, τ)) (h1 : w = 0 → ∀ τ, fr [652, 653] [] σ τ → ws (k τ) P) : ws (ms_c (f_X12_is n σ w) fun r τ => if r = 0 then some ((-1 : Int32), τ) else k τ) P :=
  ws_c (s_is n σ w) (fun r τ hr => ws_i (fun _ => ws_s (h0 τ hr.1)) (fun e => h1 (bo_1 hr.2 (fun q => e (Int32.toInt_inj.mp q))) τ hr.1))
def PK (σ : ms_T) (res : Int32 × ms_T) : Prop := RI res.2 ∧ ms_I res.2 667 = ms_I σ 667
theorem pk {wI wE : List Nat} {σ τ : ms_T} (h : RI σ) (f : fr wI wE σ τ) (k : fk wI wE = true) (r : Int32) : PK σ (r, τ) := by
  refine ⟨RI_fr h f k, f.1 667 ?_⟩
  simp only [fk, Bool.and_eq_true] at k
  simpa using k.1.1.1.2
theorem pk_is {σ τ : ms_T} (h : RI σ) (f : fr [652, 653] [] σ τ) (r : Int32) : PK σ (r, τ) := pk h f (by decide) r
theorem pk_tr {σ σ1 : ms_T} {res : Int32 × ms_T} (h : ms_I σ1 667 = ms_I σ 667) (g : PK σ1 res) : PK σ res := ⟨g.1, g.2.trans h⟩
/-- behind is(): the same cells, the same counts -/
theorem is_R {σ τ : ms_T} (h : RI σ) (f : fr [652, 653] [] σ τ) : RI τ ∧ ms_I τ 667 = ms_I σ 667 ∧ ms_E τ = ms_E σ := ⟨RI_fr h f (by decide), f.1 667 (by decide), funext fun κ => funext fun j => f.2 κ (by simp) j⟩
theorem s_hasAny_L (n : Nat) : ∀ (k : Nat) (s f m v : Int32), 0 ≤ v.toInt → v.toInt ≤ 30 → 31 - v.toInt ≤ (k : Int) → ws (f_X12_hasAny_L2 n k s f m v) (fun r => (r = 0 ∨ r = 1) ∧ (30 ≤ f.toInt → r = 0) ∧ (f = 0 → m.toInt ≤ 0 → r = 0)) := by
  intro k
  induction k with
  | zero => intro s f m v h0 h1 h2; omega
  | succ k ih =>
    intro s f m v h0 h1 h2
    have l30 : (30 : Int32).toInt = 30 := by decide
    have e1 : (v + 1).toInt = v.toInt + 1 := by rw [ii_add (by rw [lt1]; omega) (by rw [lt1]; omega), lt1]
    rw [f_X12_hasAny_L2.eq_2]
    refine ws_le (fun c => ws_s ⟨Or.inl rfl, fun _ => rfl, fun _ _ => rfl⟩) (fun c => ?_)
    have hJ : ws (f_X12_hasAny_J31 n (f_X12_hasAny_L2 n k) s f m v) (fun r => (r = 0 ∨ r = 1) ∧ (30 ≤ f.toInt → r = 0) ∧ (f = 0 → m.toInt ≤ 0 → r = 0)) := by
      unfold f_X12_hasAny_J31
      exact ws_l (ih s f m (v + 1) (by omega) (by omega) (by omega))
    refine ws_i (fun _ => ws_lt (fun _ => hJ) (fun d => ws_le (fun _ => hJ) (fun g => ws_s ⟨Or.inr rfl, fun q => by omega, fun q1 q2 => ?_⟩))) (fun _ => hJ)
    rw [q1, show v - 0 = v by simp] at g
    omega
theorem s_hasAny (n : Nat) (hn : 70000 ≤ n) (s f m : Int32) : ws (f_X12_hasAny n s f m) (fun r => (r = 0 ∨ r = 1) ∧ (30 ≤ f.toInt → r = 0) ∧ (f = 0 → m.toInt ≤ 0 → r = 0)) := by
  unfold f_X12_hasAny
  exact s_hasAny_L n n s f m 0 (by decide) (by decide) (by rw [lt0]; omega)
theorem s_bundlesA (n : Nat) (hn : 70000 ≤ n) {B : Int} (hB : B ≤ 2147483647) : ∀ (k d w : Nat) (σ0 σ : ms_T) (s f m : Int32), k < d → wy B σ0 σ w → (w : Int) + m.toInt ≤ 127 → 0 ≤ f.toInt → 1 ≤ m.toInt → f.toInt + m.toInt ≤ B → m.toInt ≤ p2 k → ws (f_X12_bundlesIn n d σ s f m) (fun τ => ∃ w', wy B σ0 τ w' ∧ (w' : Int) ≤ w + m.toInt) := by
  intro k
  induction k with
  | zero =>
    intro d w σ0 σ s f m hd hw hk h0 h1 h2 h3
    have : p2 0 = 1 := by decide
    obtain ⟨d, rfl⟩ : ∃ d', d = d' + 1 := ⟨d - 1, by omega⟩
    rw [f_X12_bundlesIn.eq_2]
    refine ws_b (s_hasAny n hn s f m) (fun r hr => ws_i (fun _ => ?_) (fun _ => ws_e (fun _ => ws_s ⟨w, hw, by omega⟩) (fun c => ?_)))
    · exact ws_b (s_asks n hw (by omega) f m h0 (by omega) (by omega)) (fun υ hυ => ws_s ⟨w + 1, hυ, by omega⟩)
    · rw [lt1] at c; omega
  | succ k ih =>
    intro d w σ0 σ s f m hd hw hk h0 h1 h2 h3
    obtain ⟨d, rfl⟩ : ∃ d', d = d' + 1 := ⟨d - 1, by omega⟩
    rw [f_X12_bundlesIn.eq_2]
    refine ws_b (s_hasAny n hn s f m) (fun r hr => ws_i (fun _ => ?_) (fun _ => ws_e (fun _ => ws_s ⟨w, hw, by omega⟩) (fun c => ?_)))
    · exact ws_b (s_asks n hw (by omega) f m h0 (by omega) (by omega)) (fun υ hυ => ws_s ⟨w + 1, hυ, by omega⟩)
    · have h2m := ne1_2 (a := m) h1 c
      refine ws_b (s_part0 n hn m h2m) (fun p hp => ?_)
      obtain ⟨j, hp⟩ := hp
      obtain ⟨q1, q2, q3, q4, q5⟩ := pt_k hp h3
      have e1 : (f + p).toInt = f.toInt + p.toInt := ii_add (by omega) (by omega)
      have e2 : (m - p).toInt = m.toInt - p.toInt := ii_sub (by omega) (by omega)
      refine ws_b (ih d w σ0 σ s f p (by omega) hw (by omega) h0 q3 (by omega) q1) (fun τ hτ => ?_)
      obtain ⟨w', hw', hl⟩ := hτ
      refine ws_b (ih d w' σ0 τ s (f + p) (m - p) (by omega) hw' (by omega) (by omega) (by omega) (by omega) (by omega)) (fun υ hυ => ?_)
      obtain ⟨w2, hw2, hl2⟩ := hυ
      exact ws_s ⟨w2, hw2, by omega⟩
theorem s_bundlesB (n : Nat) (hn : 70000 ≤ n) {B : Int} (hB : B ≤ 2147483647) : ∀ (k d : Nat) (σ0 σ : ms_T) (s m : Int32), k + 6 < d → wy B σ0 σ 0 → 1 ≤ m.toInt → m.toInt ≤ B → m.toInt ≤ p2 (k + 5) → k ≤ 26 → ws (f_X12_bundlesIn n d σ s 0 m) (fun τ => ∃ w', wy B σ0 τ w' ∧ w' ≤ 32 + k) := by
  intro k
  induction k with
  | zero =>
    intro d σ0 σ s m hd hw h1 h2 h3 hk
    have : p2 5 = 32 := by decide
    have h3' : m.toInt ≤ p2 5 := h3
    refine ws_m (s_bundlesA n hn hB 5 d 0 σ0 σ s 0 m (by omega) hw (by omega) (by decide) h1 (by rw [lt0]; omega) h3) (fun τ hτ => ?_)
    obtain ⟨w, hw, hl⟩ := hτ
    exact ⟨w, hw, by omega⟩
  | succ k ih =>
    intro d σ0 σ s m hd hw h1 h2 h3 hk
    by_cases hm : m.toInt ≤ p2 (k + 5)
    · refine ws_m (ih d σ0 σ s m (by omega) hw h1 h2 hm (by omega)) (fun τ hτ => ?_)
      obtain ⟨w, hw, hl⟩ := hτ
      exact ⟨w, hw, by omega⟩
    have h32 : p2 5 = 32 := by decide
    have hk5 := p2_m (show 5 ≤ k + 5 by omega)
    obtain ⟨d, rfl⟩ : ∃ d', d = d' + 1 := ⟨d - 1, by omega⟩
    rw [f_X12_bundlesIn.eq_2]
    refine ws_b (s_hasAny n hn s 0 m) (fun r hr => ws_i (fun _ => ?_) (fun _ => ws_e (fun _ => ws_s ⟨0, hw, by omega⟩) (fun c => ?_)))
    · exact ws_b (s_asks n hw (by omega) 0 m (by decide) (by omega) (by rw [lt0]; omega)) (fun υ hυ => ws_s ⟨0 + 1, hυ, by omega⟩)
    · have h2m := ne1_2 (a := m) h1 c
      refine ws_b (s_part0 n hn m h2m) (fun p hp => ?_)
      obtain ⟨j, hp⟩ := hp
      obtain ⟨q1, q2, q3, q4, q5⟩ := pt_k hp h3
      have hp1 : p2 (k + 5) ≤ p.toInt := by
        obtain ⟨a1, a2, a3⟩ := hp
        have : k + 5 < j + 1 := p2_lt (by omega)
        have := p2_m (show k + 5 ≤ j by omega)
        omega
      have e1 : ((0 : Int32) + p).toInt = p.toInt := by rw [ii_add (by rw [lt0]; omega) (by rw [lt0]; omega), lt0]; omega
      have e2 : (m - p).toInt = m.toInt - p.toInt := ii_sub (by omega) (by omega)
      refine ws_b (ih d σ0 σ s p (by omega) hw q3 (by omega) q1 (by omega)) (fun τ hτ => ?_)
      obtain ⟨w', hw', hl⟩ := hτ
      obtain ⟨d, rfl⟩ : ∃ d', d = d' + 1 := ⟨d - 1, by omega⟩
      have hrest : ws (f_X12_bundlesIn n (d + 1) τ s (0 + p) (m - p)) (fun υ => wy B σ0 υ (w' + 1)) := by
        rw [f_X12_bundlesIn.eq_2]
        refine ws_b (s_hasAny n hn s (0 + p) (m - p)) (fun r hr => ws_i (fun _ => ?_) (fun g => absurd (hr.2.1 (by omega)) g))
        exact ws_b (s_asks n hw' (by omega) (0 + p) (m - p) (by omega) (by omega) (by omega)) (fun υ hυ => ws_s hυ)
      exact ws_b hrest (fun υ hυ => ws_s ⟨w' + 1, hυ, by omega⟩)
theorem s_bundleOf (n : Nat) (hn : 70000 ≤ n) (σ : ms_T) (s m : Int32) (h : 1 ≤ m.toInt) : ws (f_X12_bundleOf n σ s m) (fun τ => ∃ w, wy m.toInt σ τ w ∧ w ≤ 58) := by
  unfold f_X12_bundleOf
  have b := ib_hi m
  refine ws_l (ws_b (s_bundlesB n hn b 26 40 σ _ s m (by omega) wy_0 h (Int.le_refl _) (by rw [p2_31]; omega) (by omega)) (fun τ hτ => ?_))
  obtain ⟨w, hw, hl⟩ := hτ
  exact ws_s ⟨w, hw, by omega⟩
theorem s_bundleOf0 (n : Nat) (hn : 70000 ≤ n) (σ : ms_T) (s m : Int32) (h : m.toInt ≤ 0) : ws (f_X12_bundleOf n σ s m) (fun τ => fr [657] [42, 43] σ τ ∧ (ms_I τ 657).toInt = 1) := by
  unfold f_X12_bundleOf
  refine ws_l ?_
  have h0 : ws (f_X12_bundlesIn n 40 (ms_sI σ 657 0) s 0 m) (fun τ => fr [657] [42, 43] σ τ ∧ (ms_I τ 657).toInt = 1) := by
    rw [f_X12_bundlesIn.eq_2]
    refine ws_b (s_hasAny n hn s 0 m) (fun r hr => ws_i (fun _ => ?_) (fun g => absurd (hr.2.2 rfl h) g))
    unfold f_X12_asks
    have e0 : ms_I (ms_sI σ 657 0) 657 = 0 := by rw [mI_sI, if_pos rfl]
    refine ws_b (S := fun τ => fr [657] [42, 43] σ τ ∧ (ms_I τ 657).toInt = 1) (ws_g (by rw [e0]; decide) (by rw [e0]; decide) (ws_l (ws_g (by rw [mI_sE, e0]; decide) (by rw [mI_sE, e0]; decide) (ws_l (ws_l (ws_s ?_)))))) (fun υ hυ => ws_s hυ)
    refine ⟨fr_tr (fr_sI (by decide)) (fr_tr (fr_sE (by decide)) (fr_tr (fr_sE (by decide)) (fr_sI (by decide)))), ?_⟩
    rw [mI_sI, if_pos rfl, mI_sE, mI_sE, e0]; decide
  exact ws_b h0 (fun υ hυ => ws_s hυ)
/-- a power of 2 halves -/
theorem p2_half {v : Int32} {j : Nat} (h : v.toInt = p2 (j + 1)) : (v / 2).toInt = p2 j := by
  have h1 := p2_p j
  rw [ii_div (by rw [h]; have := p2_p (j + 1); omega) (by decide), h, p2_s]
  have : (2 : Int32).toInt = 2 := rfl
  rw [this]
  omega
theorem s_peaksOf_L (n : Nat) : ∀ (k j w : Nat) (σ0 σ : ms_T) (a f v : Int32), j + 1 < k → v.toInt = p2 j → wy 48 σ0 σ w → w + j + 1 ≤ 31 → 0 ≤ a.toInt → 0 ≤ f.toInt → f.toInt + a.toInt % (2 * p2 j) ≤ 48 → ws (f_X12_peaksOf_L10 n k σ a f v) (fun τ => ∃ w', wy 48 σ0 τ w' ∧ w' ≤ 31) := by
  intro k
  induction k with
  | zero => intro j w σ0 σ a f v h0; omega
  | succ k ih =>
    intro j w σ0 σ a f v h0 hv hw hk ha hf hs
    have hp := p2_p j
    have l2 : (2 : Int32).toInt = 2 := rfl
    have hda : (a / v).toInt = a.toInt / p2 j := by rw [ii_div ha (by omega), hv]
    have hq0 : 0 ≤ a.toInt / p2 j := Int.ediv_nonneg ha (by omega)
    have hrem : ((a / v) - (a / v) / 2 * 2).toInt = (a.toInt / p2 j) % 2 := by rw [ii_rem (x := a / v) (y := 2) (by omega) (by decide), hda, l2]
    have hmm : a.toInt % (2 * p2 j) = a.toInt % p2 j + p2 j * ((a.toInt / p2 j) % 2) := by
      obtain ⟨A, hA⟩ := Int.eq_ofNat_of_zero_le ha
      have h := Nat.mod_mul (a := 2 ^ j) (b := 2) (x := A)
      unfold p2
      rw [hA, Int.mul_comm 2]
      exact_mod_cast h
    have hm0 := Int.emod_nonneg a.toInt (show p2 j ≠ 0 by omega)
    rw [f_X12_peaksOf_L10.eq_2]
    refine ws_le (fun c => by rw [lt0, hv] at c; omega) (fun c => ws_n (fun q => by have := il_eq q; rw [lt0] at this; omega) ?_)
    have hJ : ∀ (w' : Nat) (τ : ms_T) (g : Int32), wy 48 σ0 τ w' → w' + j ≤ 31 → 0 ≤ g.toInt → g.toInt + a.toInt % p2 j ≤ 48 → ws (f_X12_peaksOf_J35 n (f_X12_peaksOf_L10 n k) τ a g v) (fun τ => ∃ w', wy 48 σ0 τ w' ∧ w' ≤ 31) := by
      intro w' τ g hw' hk' hg hs'
      unfold f_X12_peaksOf_J35
      refine ws_l ?_
      cases j with
      | zero =>
        have hz : (v / 2).toInt = 0 := by
          rw [ii_div (by omega) (by decide), hv, l2]
          decide
        obtain ⟨k, rfl⟩ : ∃ k', k = k' + 1 := ⟨k - 1, by omega⟩
        rw [f_X12_peaksOf_L10.eq_2]
        exact ws_le (fun _ => ws_s ⟨w', hw', by omega⟩) (fun c => by rw [lt0] at c; omega)
      | succ j =>
        refine ih j w' σ0 τ a g (v / 2) (by omega) (p2_half hv) hw' (by omega) ha hg ?_
        rw [← p2_s]; exact hs'
    refine ws_i (fun q => ?_) (fun q => ?_)
    · have q1 := il_eq q
      rw [hrem, lt0] at q1
      rw [q1] at hmm
      exact hJ w σ f hw (by omega) hf (by omega)
    · have q1 := il_ne q
      rw [hrem, lt0] at q1
      have q2 : (a.toInt / p2 j) % 2 = 1 := by omega
      rw [q2] at hmm
      have e3 : (f + v).toInt = f.toInt + v.toInt := ii_add (by omega) (by omega)
      refine ws_b (s_asks n hw (by omega) f v hf (by omega) (by omega)) (fun υ hυ => ws_l ?_)
      exact hJ (w + 1) υ (f + v) hυ (by omega) (by omega) (by omega)
theorem s_peaksOf (n : Nat) (hn : 70000 ≤ n) (σ : ms_T) (a : Int32) (h0 : 0 ≤ a.toInt) (h1 : a.toInt ≤ 48) : ws (f_X12_peaksOf n σ a) (fun τ => ∃ w, wy 48 σ τ w ∧ w ≤ 31) := by
  unfold f_X12_peaksOf
  refine ws_l (s_peaksOf_L n n 30 0 σ _ a 0 1073741824 (by omega) (by decide) wy_0 (by omega) h0 (by decide) ?_)
  have h30 : p2 30 = 1073741824 := by decide
  have hm : a.toInt % (2 * p2 30) ≤ a.toInt := by rw [h30]; omega
  rw [lt0]
  omega
