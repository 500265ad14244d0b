/-! ===== stores into the cells; marks; folds ===== -/
def rc_j (j : Nat) (v : Int32) : Prop := (j = 0 → 1 ≤ v.toInt ∧ v.toInt ≤ 4) ∧ (j = 1 → 101 ≤ v.toInt ∧ v.toInt ≤ 65521) ∧ (j = 2 → 0 ≤ v.toInt ∧ v.toInt ≤ 64) ∧ (j = 3 → 0 ≤ v.toInt ∧ v.toInt ≤ 16) ∧ (∀ r, r < 4 → j = 72 + r → 0 ≤ v.toInt ∧ v.toInt ≤ 48) ∧ (∀ w, w < 4 → j = 76 + 4 * w → 0 ≤ v.toInt ∧ v.toInt ≤ 48) ∧ (∀ i, i < 16 → j = 92 + 10 * i → 0 ≤ v.toInt ∧ v.toInt ≤ 3) ∧ (∀ i, i < 16 → j = 93 + 10 * i → 0 ≤ v.toInt ∧ v.toInt ≤ 48) ∧ (∀ q, q < 192 → j = 252 + q → 0 ≤ v.toInt ∧ v.toInt ≤ 8)
theorem rC_up {f : Nat → Int32} {j : Nat} {v : Int32} (h : rC f) (g : rc_j j v) : rC (fun i => if i = j then v else f i) := by
  obtain ⟨h1, h2, h3, h4, h5, h6, h7, h8, h9⟩ := h
  obtain ⟨g1, g2, g3, g4, g5, g6, g7, g8, g9⟩ := g
  refine ⟨?_, ?_, ?_, ?_, fun r hr => ?_, fun r hr => ?_, fun r hr => ?_, fun r hr => ?_, fun r hr => ?_⟩ <;> dsimp only <;> split
  · rename_i e; exact g1 e.symm
  · exact h1
  · rename_i e; exact g2 e.symm
  · exact h2
  · rename_i e; exact g3 e.symm
  · exact h3
  · rename_i e; exact g4 e.symm
  · exact h4
  · rename_i e; exact g5 r hr e.symm
  · exact h5 r hr
  · rename_i e; exact g6 r hr e.symm
  · exact h6 r hr
  · rename_i e; exact g7 r hr e.symm
  · exact h7 r hr
  · rename_i e; exact g8 r hr e.symm
  · exact h8 r hr
  · rename_i e; exact g9 r hr e.symm
  · exact h9 r hr
theorem mE40 {σ : ms_T} {j : Nat} {v : Int32} : ms_E (ms_sE σ 40 j v) 40 = fun i => if i = j then v else ms_E σ 40 i := by
  funext i
  rw [mE_sE]
  by_cases e : i = j
  · rw [if_pos ⟨rfl, e⟩, if_pos e]
  · rw [if_neg (fun q => e q.2), if_neg e]
theorem rC_sE {σ : ms_T} {j : Nat} {v : Int32} (h : rC (ms_E σ 40)) (g : rc_j j v) : rC (ms_E (ms_sE σ 40 j v) 40) := by
  rw [mE40]; exact rC_up h g
theorem RI_sE {σ : ms_T} {j : Nat} {v : Int32} (h : RI σ) (g : rc_j j v) : RI (ms_sE σ 40 j v) := ⟨h.1, rC_sE h.2 g⟩
/-- cells of which nothing is asked -/
theorem rc_f {j : Nat} {v : Int32} (h : (j = 4 ∨ (8 ≤ j ∧ j < 72) ∨ 444 ≤ j)) : rc_j j v :=
  ⟨fun _ => by omega, fun _ => by omega, fun _ => by omega, fun _ => by omega, fun r _ _ => by omega, fun r _ _ => by omega, fun r _ _ => by omega, fun r _ _ => by omega, fun r _ _ => by omega⟩
theorem s_fetches_L (n : Nat) (hn : 70000 ≤ n) : ∀ (k w : Nat) (σ0 σ : ms_T) (r v : Int32), rC (ms_E σ0 40) → fr [] [44] σ0 σ → (ms_I σ0 657).toInt = (w : Int) → wg 48 σ0 w → w ≤ 128 → 0 ≤ r.toInt → r.toInt ≤ 3 → 0 ≤ v.toInt → v.toInt ≤ (w : Int) → (w : Int) - v.toInt < (k : Int) → ws (f_X12_fetches_L2 n k σ r v) (fun τ => fr [] [44] σ0 τ) := by
  intro k
  induction k with
  | zero => intro w σ0 σ r v hC hf hw hg hw2 h0 h1 h2 h3 h4; omega
  | succ k ih =>
    intro w σ0 σ r v hC hf hw hg hw2 h0 h1 h2 h3 h4
    rw [f_X12_fetches_L2.eq_2]
    have eI : ms_I σ 657 = ms_I σ0 657 := hf.1 657 (by simp)
    have e42 := hf.2 42 (by simp)
    have e43 := hf.2 43 (by simp)
    have hv := ic_clamp h2
    have e1 : (v + 1).toInt = v.toInt + 1 := by rw [ii_add (by rw [lt1]; omega) (by rw [lt1]; omega), lt1]
    rw [eI]
    refine ws_le (fun c => ws_s hf) (fun c => ?_)
    have hq := hg v.toNatClampNeg (by omega)
    refine ws_g h2 (by omega) (ws_g h2 (by omega) ?_)
    rw [e42, e43]
    refine ws_b (s_tree0 n hn (rC_fr hC hf (by decide)) r _ _ h0 h1 hq.1 hq.2.1 hq.2.2) (fun t _ => ws_g h2 (by omega) (ws_l (ws_l ?_)))
    exact ih w σ0 _ r (v + 1) hC (fr_tr hf (fr_sE (by decide))) hw hg hw2 h0 h1 (by omega) (by omega) (by omega)
theorem s_fetches (n : Nat) (hn : 70000 ≤ n) {B : Int} {σ0 σ : ms_T} {w : Nat} (hC : rC (ms_E σ 40)) (hw : wy B σ0 σ w) (hB : B ≤ 48) (hw2 : w ≤ 128) (r : Int32) (h0 : 0 ≤ r.toInt) (h1 : r.toInt ≤ 3) : ws (f_X12_fetches n σ r) (fun τ => fr [] [44] σ τ) := by
  unfold f_X12_fetches
  exact s_fetches_L n hn n w σ σ r 0 hC fr_rf hw.2.1 (fun q hq => by have := hw.2.2 q hq; omega) hw2 h0 h1 (by decide) (by rw [lt0]; omega) (by rw [lt0]; omega)
theorem s_pads_L (n : Nat) : ∀ (k w : Nat) (σ0 σ : ms_T) (v : Int32), RI σ → ms_I σ 667 = ms_I σ0 667 → (ms_I σ 657).toInt = (w : Int) → w ≤ 64 → 0 ≤ v.toInt → v.toInt ≤ (w : Int) → (w : Int) - v.toInt < (k : Int) → ws (f_X12_pads_L7 n k σ v) (PK σ0) := by
  intro k
  induction k with
  | zero => intro w σ0 σ v hR hx hw hw2 h0 h1 h2; omega
  | succ k ih =>
    intro w σ0 σ v hR hx hw hw2 h0 h1 h2
    rw [f_X12_pads_L7.eq_2]
    have hv := ic_clamp h0
    have l8 : (8 : Int32).toInt = 8 := by decide
    have e1 : (v + 1).toInt = v.toInt + 1 := by rw [ii_add (by rw [lt1]; omega) (by rw [lt1]; omega), lt1]
    have e8 : ((8 : Int32) + v).toInt = 8 + v.toInt := by rw [ii_add (by omega) (by omega), l8]
    refine ws_le (fun c => ?_) (fun c => ?_)
    · refine ws_g (by decide) (by decide) (ws_l (ws_s ⟨RI_sE hR ?_, hx⟩))
      rw [c2]
      exact ⟨fun _ => by omega, fun _ => by omega, fun _ => by omega, fun _ => by omega, fun r _ _ => by omega, fun r _ _ => by omega, fun r _ _ => by omega, fun r _ _ => by omega, fun r _ _ => by omega⟩
    · refine ws_g h0 (by omega) (ws_g (by omega) (by omega) (ws_l (ws_l ?_)))
      exact ih w σ0 _ (v + 1) (RI_sE hR (rc_f (by have := cl_n (i := 8 + v) (k := 8 + v.toNatClampNeg) (by omega); omega))) hx hw hw2 (by omega) (by omega) (by omega)
theorem s_pads (n : Nat) (hn : 70000 ≤ n) {B : Int} {σ0 σ : ms_T} {w : Nat} (hR : RI σ) (hw : wy B σ0 σ w) (hB : B ≤ 48) (hw2 : w ≤ 64) (r : Int32) (h0 : 0 ≤ r.toInt) (h1 : r.toInt ≤ 3) : ws (f_X12_pads n σ r) (PK σ) := by
  unfold f_X12_pads
  refine ws_b (s_fetches n hn hR.2 hw hB (by omega) r h0 h1) (fun τ hτ => ?_)
  exact s_pads_L n n w σ τ 0 (RI_fr hR hτ (by decide)) (hτ.1 667 (by simp)) (by rw [hτ.1 657 (by simp)]; exact hw.2.1) hw2 (by decide) (by rw [lt0]; omega) (by rw [lt0]; omega)
theorem s_fromPad_L (n : Nat) : ∀ (k : Nat) (σ0 σ : ms_T) (v : Int32), fr [] [44] σ0 σ → rC (ms_E σ0 40) → 0 ≤ v.toInt → v.toInt ≤ (ms_E σ0 40 2).toInt → (ms_E σ0 40 2).toInt - v.toInt < (k : Int) → ws (f_X12_fromPad_L2 n k σ v) (fun q => fr [] [44] σ0 q.2 ∧ q.1 = ms_E σ0 40 2) := by
  intro k
  induction k with
  | zero => intro σ0 σ v hf hC h0 h1 h2; omega
  | succ k ih =>
    intro σ0 σ v hf hC h0 h1 h2
    rw [f_X12_fromPad_L2.eq_2, c2]
    have e2 : ms_E σ 40 2 = ms_E σ0 40 2 := hf.2 40 (by simp) 2
    have h64 := hC.2.2.1
    have l8 : (8 : Int32).toInt = 8 := by decide
    have e1 : (v + 1).toInt = v.toInt + 1 := by rw [ii_add (by rw [lt1]; omega) (by rw [lt1]; omega), lt1]
    have e8 : ((8 : Int32) + v).toInt = 8 + v.toInt := by rw [ii_add (by omega) (by omega), l8]
    rw [e2]
    refine ws_g (by decide) (by decide) (ws_le (fun c => ws_g (by decide) (by decide) (ws_s ⟨hf, rfl⟩)) (fun c => ?_))
    refine ws_g (by omega) (by omega) (ws_g h0 (by omega) (ws_l (ws_l ?_)))
    exact ih σ0 _ (v + 1) (fr_tr hf (fr_sE (by decide))) hC (by omega) (by omega) (by omega)
theorem s_fromPad (n : Nat) (hn : 70000 ≤ n) (σ : ms_T) (hC : rC (ms_E σ 40)) : ws (f_X12_fromPad n σ) (fun q => fr [] [44] σ q.2 ∧ q.1 = ms_E σ 40 2) := by
  unfold f_X12_fromPad
  have h := hC.2.2.1
  exact s_fromPad_L n n σ σ 0 fr_rf hC (by decide) (by rw [lt0]; omega) (by rw [lt0]; omega)
theorem s_foldsIn (n : Nat) (hn : 70000 ≤ n) : ∀ (k d w : Nat) (σ0 σ : ms_T) (t i m : Int32), k < d → rC (ms_E σ0 40) → fr [658] [] σ0 σ → (ms_I σ 658).toInt = (w : Int) → w + k ≤ 128 → 0 ≤ i.toInt → i.toInt < m.toInt → m.toInt ≤ p2 k → ws (f_X12_foldsIn n d σ t i m) (fun q => fr [658] [] σ0 q.2 ∧ ∃ w' : Nat, (ms_I q.2 658).toInt = (w' : Int) ∧ w' ≤ w + k) := by
  intro k
  induction k with
  | zero =>
    intro d w σ0 σ t i m hd hC hf hw hk h0 h1 h2
    have : p2 0 = 1 := by decide
    obtain ⟨d, rfl⟩ : ∃ d', d = d' + 1 := ⟨d - 1, by omega⟩
    rw [f_X12_foldsIn.eq_2]
    exact ws_e (fun c => ws_s ⟨hf, w, hw, by omega⟩) (fun c => by rw [lt1] at c; omega)
  | succ k ih =>
    intro d w σ0 σ t i m hd hC hf hw hk h0 h1 h2
    obtain ⟨d, rfl⟩ : ∃ d', d = d' + 1 := ⟨d - 1, by omega⟩
    rw [f_X12_foldsIn.eq_2]
    refine ws_e (fun c => ws_s ⟨hf, w, hw, by omega⟩) (fun c => ?_)
    have h2m := ne1_2 (a := m) (by omega) c
    refine ws_b (s_part0 n hn m h2m) (fun p hp => ?_)
    obtain ⟨j, hp⟩ := hp
    obtain ⟨q1, q2, q3, q4, q5⟩ := pt_k hp h2
    have bm := ib_hi m
    have bi := ib_hi i
    have e2 : (m - p).toInt = m.toInt - p.toInt := ii_sub (by omega) (by omega)
    have step : ∀ (τ : ms_T) (w' : Nat), (ms_I τ 658).toInt = (w' : Int) → w' < 128 → ms_I (ms_sI τ 658 (ms_I τ 658 + 1)) 658 = ms_I τ 658 + 1 ∧ (ms_I τ 658 + 1).toInt = (w' : Int) + 1 ∧ (ms_I τ 658 + 1 - 1).toInt = (w' : Int) := by
      intro τ w' h hl
      have e3 : (ms_I τ 658 + 1).toInt = (w' : Int) + 1 := by rw [ii_add (by rw [lt1]; omega) (by rw [lt1]; omega), lt1, h]
      refine ⟨by rw [mI_sI, if_pos rfl], e3, ?_⟩
      rw [ii_sub (by rw [lt1]; omega) (by rw [lt1]; omega), lt1, e3]
      omega
    refine ws_le (fun c => ?_) (fun c => ?_)
    · have e3 : (i - p).toInt = i.toInt - p.toInt := ii_sub (by omega) (by omega)
      refine ws_c (ih d w σ0 σ t (i - p) (m - p) (by omega) hC hf hw (by omega) (by omega) (by omega) (by omega)) (fun a τ hτ => ?_)
      obtain ⟨hf2, w', hw', hl⟩ := hτ
      obtain ⟨t1, t2, t3⟩ := step τ w' hw' (by omega)
      have hf3 : fr [658] [] σ0 (ms_sI τ 658 (ms_I τ 658 + 1)) := fr_tr hf2 (fr_sI (by decide))
      refine ws_l (ws_g (by rw [t1, t3]; omega) (by rw [t1, t3]; omega) (ws_b (s_both (rC_fr hC hf3 (by decide)) _ _) (fun _ _ => ws_s ⟨hf3, w' + 1, ?_, by omega⟩)))
      rw [t1, t2]; omega
    · refine ws_c (ih d w σ0 σ t i p (by omega) hC hf hw (by omega) h0 c q1) (fun a τ hτ => ?_)
      obtain ⟨hf2, w', hw', hl⟩ := hτ
      obtain ⟨t1, t2, t3⟩ := step τ w' hw' (by omega)
      have hf3 : fr [658] [] σ0 (ms_sI τ 658 (ms_I τ 658 + 1)) := fr_tr hf2 (fr_sI (by decide))
      refine ws_l (ws_g (by rw [t1, t3]; omega) (by rw [t1, t3]; omega) (ws_b (s_both (rC_fr hC hf3 (by decide)) _ _) (fun _ _ => ws_s ⟨hf3, w' + 1, ?_, by omega⟩)))
      rw [t1, t2]; omega
theorem s_folded (n : Nat) (hn : 70000 ≤ n) (σ : ms_T) (hC : rC (ms_E σ 40)) (t i m : Int32) (h0 : 0 ≤ i.toInt) (h1 : i.toInt < m.toInt) : ws (f_X12_folded n σ t i m) (fun q => fr [658] [] σ q.2) := by
  unfold f_X12_folded
  have b := ib_hi m
  exact ws_l (ws_c (s_foldsIn n hn 31 40 0 σ _ t i m (by omega) hC (fr_sI (by decide)) (by rw [mI_sI, if_pos rfl]; rfl) (by omega) h0 h1 (by rw [p2_31]; omega)) (fun a τ hτ => ws_s hτ.1))
theorem s_why (n : Nat) (σ : ms_T) (a b c : Int32) : ws (f_X12_why n σ a b c) (fun r => r = 0 ∨ r = 1 ∨ r = 2 ∨ r = 3) := by
  unfold f_X12_why
  refine ws_i (fun _ => ws_i (fun _ => ws_i (fun _ => ws_s ?_) (fun _ => ws_s ?_)) (fun _ => ws_s ?_)) (fun _ => ws_s ?_) <;> decide
theorem s_whyIn (n : Nat) (hn : 70000 ≤ n) (σ : ms_T) (hC : rC (ms_E σ 40)) (a t i m hd : Int32) (h0 : 0 ≤ i.toInt) (h1 : i.toInt < m.toInt) : ws (f_X12_whyIn n σ a t i m hd) (fun q => fr [657, 658] [42, 43] σ q.2) := by
  have hJ41 : ∀ (τ : ms_T) (x y z : Int32), fr [657, 658] [42, 43] σ τ → ws (f_X12_whyIn_J41 n τ x y z) (fun q => fr [657, 658] [42, 43] σ q.2) := by
    intro τ x y z h
    unfold f_X12_whyIn_J41
    exact ws_b (s_why n τ _ _ _) (fun _ _ => ws_s h)
  have hJ36 : ∀ (τ : ms_T) (x y : Int32), fr [657, 658] [42, 43] σ τ → ws (f_X12_whyIn_J36 n τ x y) (fun q => fr [657, 658] [42, 43] σ q.2) := by
    intro τ x y h
    unfold f_X12_whyIn_J36
    exact hJ41 τ _ _ _ h
  unfold f_X12_whyIn
  refine ws_b (s_inclusion n hn σ i m h0 h1) (fun τ hτ => ?_)
  obtain ⟨w, hw, hl⟩ := hτ
  have hf : fr [657, 658] [42, 43] σ τ := fr_sb hw.1 (by decide) (by decide)
  refine ws_l (ws_i (fun _ => ?_) (fun _ => hJ36 τ _ _ hf))
  refine ws_c (s_folded n hn τ (rC_fr hC hf (by decide)) t i m h0 h1) (fun b υ hυ => ?_)
  have hf2 : fr [657, 658] [42, 43] σ υ := fr_tr hf (fr_sb hυ (by decide) (by decide))
  exact ws_i (fun _ => hJ36 υ _ _ hf2) (fun _ => hJ41 υ _ _ _ hf2)
/-- what foldsGrowth changes -/
def fg (σ0 σ : ms_T) (w : Nat) : Prop := fr [658, 659, 660] [] σ0 σ ∧ (ms_I σ 658).toInt = (w : Int)
theorem s_fgJ157 (n : Nat) (rc : ms_T → Int32 → Int32 → Int32 → Int32 → Option ms_T) {σ0 σ : ms_T} {w : Nat} (h : fg σ0 σ w) (hw : w < 128) : ws (f_X12_foldsGrowth_J157 n rc σ) (fun τ => fg σ0 τ (w + 1)) := by
  unfold f_X12_foldsGrowth_J157
  refine ws_l (ws_s ⟨fr_tr h.1 (fr_sI (by decide)), ?_⟩)
  have := h.2
  rw [mI_sI, if_pos rfl, ii_add (by rw [lt1]; omega) (by rw [lt1]; omega), lt1, this]
  omega
theorem s_fgJ24 (n : Nat) (rc : ms_T → Int32 → Int32 → Int32 → Int32 → Option ms_T) {σ0 σ : ms_T} {w : Nat} (h : fg σ0 σ w) (hw : w < 128) (z x : Int32) : ws (f_X12_foldsGrowth_J24 n rc σ z x) (fun τ => ∃ w', fg σ0 τ w' ∧ w' ≤ w + 1) := by
  unfold f_X12_foldsGrowth_J24
  have h2 := h.2
  have hf : fr [658, 659, 660] [] σ0 (ms_sI (ms_sI σ 659 x) 660 (ms_I (ms_sI σ 659 x) 659)) := fr_tr h.1 (fr_tr (fr_sI (by decide)) (fr_sI (by decide)))
  have e : ms_I (ms_sI (ms_sI σ 659 x) 660 (ms_I (ms_sI σ 659 x) 659)) 658 = ms_I σ 658 := by rw [mI_sI, if_neg (by decide), mI_sI, if_neg (by decide)]
  refine ws_l (ws_l (ws_i (fun _ => ?_) (fun _ => ?_)))
  · unfold f_X12_foldsGrowth_J50
    refine ws_l (ws_s ⟨w + 1, ⟨fr_tr hf (fr_sI (by decide)), ?_⟩, by omega⟩)
    rw [mI_sI, if_pos rfl, e, ii_add (by rw [lt1]; omega) (by rw [lt1]; omega), lt1, h2]
    omega
  · unfold f_X12_foldsGrowth_J50
    refine ws_l (ws_s ⟨w, ⟨fr_tr hf (fr_sI (by decide)), ?_⟩, by omega⟩)
    rw [mI_sI, if_pos rfl, e, ii_add (by rw [lt0]; omega) (by rw [lt0]; omega), lt0, h2]
    omega
theorem s_foldsGrowth (n : Nat) (hn : 70000 ≤ n) : ∀ (k d w : Nat) (σ0 σ : ms_T) (t i m z : Int32), k < d → rC (ms_E σ0 40) → fg σ0 σ w → w + k + 1 ≤ 128 → 1 ≤ i.toInt → i.toInt ≤ m.toInt → m.toInt ≤ p2 k → ws (f_X12_foldsGrowth n d σ t i m z) (fun τ => ∃ w', fg σ0 τ w' ∧ w' ≤ w + k + 1) := by
  intro k
  induction k with
  | zero =>
    intro d w σ0 σ t i m z hd hC hf hk h0 h1 h2
    have : p2 0 = 1 := by decide
    have hw := hf.2
    obtain ⟨d, rfl⟩ : ∃ d', d = d' + 1 := ⟨d - 1, by omega⟩
    rw [f_X12_foldsGrowth.eq_2]
    refine ws_e (fun c => ws_i (fun _ => ws_g (by omega) (by omega) ?_) (fun _ => ?_)) (fun c => by omega)
    · exact ws_m (s_fgJ24 n _ hf (by omega) _ _) (fun τ hτ => by obtain ⟨w', a, b⟩ := hτ; exact ⟨w', a, by omega⟩)
    · exact ws_m (s_fgJ24 n _ hf (by omega) _ _) (fun τ hτ => by obtain ⟨w', a, b⟩ := hτ; exact ⟨w', a, by omega⟩)
  | succ k ih =>
    intro d w σ0 σ t i m z hd hC hf hk h0 h1 h2
    have hw := hf.2
    obtain ⟨d, rfl⟩ : ∃ d', d = d' + 1 := ⟨d - 1, by omega⟩
    rw [f_X12_foldsGrowth.eq_2]
    refine ws_e (fun c => ws_i (fun _ => ws_g (by omega) (by omega) ?_) (fun _ => ?_)) (fun c => ?_)
    · exact ws_m (s_fgJ24 n _ hf (by omega) _ _) (fun τ hτ => by obtain ⟨w', a, b⟩ := hτ; exact ⟨w', a, by omega⟩)
    · exact ws_m (s_fgJ24 n _ hf (by omega) _ _) (fun τ hτ => by obtain ⟨w', a, b⟩ := hτ; exact ⟨w', a, by omega⟩)
    refine ws_b (s_part0 n hn m (by omega)) (fun p hp => ?_)
    obtain ⟨j, hp⟩ := hp
    obtain ⟨q1, q2, q3, q4, q5⟩ := pt_k hp h2
    have bm := ib_hi m
    have bi := ib_hi i
    have e2 : (m - p).toInt = m.toInt - p.toInt := ii_sub (by omega) (by omega)
    refine ws_lt (fun c => ?_) (fun c => ?_)
    · have e3 : (i - p).toInt = i.toInt - p.toInt := ii_sub (by omega) (by omega)
      refine ws_b (ih d w σ0 σ t (i - p) (m - p) 0 (by omega) hC hf (by omega) (by omega) (by omega) (by omega)) (fun τ hτ => ?_)
      obtain ⟨w', hf2, hl⟩ := hτ
      have hw2 := hf2.2
      refine ws_g (by omega) (by omega) (ws_b (s_both (rC_fr hC hf2.1 (by decide)) _ _) (fun a _ => ws_l ?_))
      have hf3 : fg σ0 (ms_sI τ 659 a) w' := ⟨fr_tr hf2.1 (fr_sI (by decide)), by rw [mI_sI, if_neg (by decide)]; exact hw2⟩
      have hw3 := hf3.2
      refine ws_g (by omega) (by omega) (ws_b (s_both (rC_fr hC hf3.1 (by decide)) _ _) (fun b _ => ws_l ?_))
      have hf4 : fg σ0 (ms_sI (ms_sI τ 659 a) 660 b) w' := ⟨fr_tr hf3.1 (fr_sI (by decide)), by rw [mI_sI, if_neg (by decide)]; exact hw3⟩
      exact ws_m (s_fgJ157 n _ hf4 (by omega)) (fun υ hυ => ⟨w' + 1, hυ, by omega⟩)
    · refine ws_b (ih d w σ0 σ t i p z (by omega) hC hf (by omega) h0 (by omega) q1) (fun τ hτ => ?_)
      obtain ⟨w', hf2, hl⟩ := hτ
      have hw2 := hf2.2
      refine ws_g (by omega) (by omega) (ws_b (s_both (rC_fr hC hf2.1 (by decide)) _ _) (fun a _ => ws_l ?_))
      have hf3 : fg σ0 (ms_sI τ 660 a) w' := ⟨fr_tr hf2.1 (fr_sI (by decide)), by rw [mI_sI, if_neg (by decide)]; exact hw2⟩
      exact ws_m (s_fgJ157 n _ hf3 (by omega)) (fun υ hυ => ⟨w' + 1, hυ, by omega⟩)
theorem s_whyGrown (n : Nat) (hn : 70000 ≤ n) (σ : ms_T) (hC : rC (ms_E σ 40)) (a i o m w : Int32) (h0 : 0 ≤ i.toInt) (h1 : i.toInt ≤ m.toInt) : ws (f_X12_whyGrown n σ a i o m w) (fun q => fr [657, 658, 659, 660] [42, 43] σ q.2) := by
  have b := ib_hi m
  have hJ : ∀ τ : ms_T, fr [657, 658, 659, 660] [42, 43] σ τ → ws (f_X12_whyGrown_J39 n τ i o m w) (fun q => fr [657, 658, 659, 660] [42, 43] σ q.2) := by
    intro τ h
    unfold f_X12_whyGrown_J39
    refine ws_e (fun _ => ws_i (fun _ => ws_s h) (fun _ => ws_s h)) (fun c => ws_e (fun _ => ws_s h) (fun c0 => ws_l ?_))
    rw [lt0] at c0
    refine ws_b (s_foldsGrowth n hn 31 40 0 τ _ o i m 1 (by omega) (rC_fr hC h (by decide)) ⟨fr_sI (by decide), by rw [mI_sI, if_pos rfl]; rfl⟩ (by omega) (by omega) h1 (by rw [p2_31]; omega)) (fun υ hυ => ?_)
    obtain ⟨w', hf, -⟩ := hυ
    have h2 : fr [657, 658, 659, 660] [42, 43] σ υ := fr_tr h (fr_sb hf.1 (by decide) (by decide))
    exact ws_i (fun _ => ws_i (fun _ => ws_s h2) (fun _ => ws_s h2)) (fun _ => ws_s h2)
  unfold f_X12_whyGrown
  refine ws_b (s_growth0 n hn σ i m) (fun τ hτ => ?_)
  obtain ⟨w', hw, -⟩ := hτ
  have h : fr [657, 658, 659, 660] [42, 43] σ τ := fr_sb hw.1 (by decide) (by decide)
  exact ws_i (fun _ => ws_i (fun _ => ws_i (fun _ => hJ τ h) (fun _ => ws_s h)) (fun _ => hJ τ h)) (fun _ => ws_i (fun _ => ws_s h) (fun _ => ws_s h))
theorem s_whyByRecord (n : Nat) (hn : 70000 ≤ n) (σ : ms_T) (hC : rC (ms_E σ 40)) (r i o m w : Int32) (hr0 : 0 ≤ r.toInt) (hr1 : r.toInt ≤ 3) (h0 : 0 ≤ i.toInt) (h1 : i.toInt ≤ m.toInt) (h2 : m.toInt ≤ 48) : ws (f_X12_whyByRecord n σ r i o m w) (fun q => fr [657, 658, 659, 660] [42, 43, 44] σ q.2) := by
  unfold f_X12_whyByRecord
  refine ws_b (s_growth0 n hn σ i m) (fun τ hτ => ?_)
  obtain ⟨w', hw, hl⟩ := hτ
  have hC2 := rC_fr hC hw.1 (by decide)
  refine ws_b (s_fetches n hn hC2 hw h2 (by omega) r hr0 hr1) (fun υ hυ => ?_)
  refine ws_c (s_whyGrown n hn υ (rC_fr hC2 hυ (by decide)) _ i o m w h0 h1) (fun a φ hφ => ws_s ?_)
  exact fr_tr (fr_sb hw.1 (by decide) (by decide)) (fr_tr (fr_sb hυ (by decide) (by decide)) (fr_sb hφ (by decide) (by decide)))
