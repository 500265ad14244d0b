/-! ===== load ===== -/
theorem s_begins (n : Nat) (hn : 70000 ≤ n) {σ : ms_T} (a : Int32) (h0 : 0 ≤ a.toInt) (h1 : a.toInt ≤ 900) : ws (f_X12_begins n σ a) (fun τ => fr [670, 672, 673, 674, 675, 676] [] σ τ ∧ PI τ ∧ (ms_I τ 670).toInt = 0 ∧ ms_I τ 676 = a) := by
  unfold f_X12_begins
  refine ws_l (ws_l (ws_ln (fun σ3 hs => ?_)))
  have e6 : ms_I σ3 676 = a := by rw [hs, mI_sI, if_neg (by decide), mI_sI, if_neg (by decide), mI_sI, if_pos rfl]
  have e3 : ms_I σ3 673 = 0 := by rw [hs, mI_sI, if_neg (by decide), mI_sI, if_pos rfl]
  have e0 : ms_I σ3 670 = 0 := by rw [hs, mI_sI, if_pos rfl]
  have f3 : fr [670, 672, 673, 674, 675, 676] [] σ σ3 := by rw [hs]; exact fr_tr (fr_sI (by decide)) (fr_tr (fr_sI (by decide)) (fr_sI (by decide)))
  refine ws_b (s_reads n hn σ3 (by rw [e6]; exact h1) (by rw [e3]; decide) (by rw [e3, e6]; exact h0)) (fun τ hτ => ws_s ?_)
  have g := hτ.1.1
  have g6 := g.1 676 (by decide)
  have g0 := g.1 670 (by decide)
  refine ⟨fr_tr f3 (fr_sb g (by decide) (by decide)), ⟨by rw [g6, e6]; exact ⟨h0, h1⟩, hτ.1.2.1, hτ.1.2.2.1, fun q => by rw [g6]; exact hτ.1.2.2.2 q, by rw [g0, e0]; decide⟩, by rw [g0, e0]; rfl, by rw [g6, e6]⟩
theorem s_ends (n : Nat) (σ : ms_T) : ws (f_X12_ends n σ) (fun τ => fr [667, 668, 669, 652] [] σ τ ∧ ms_I τ 667 = 0) := by
  have hJ : ∀ (τ : ms_T) (w : Int32), fr [667, 668, 669, 652] [] σ τ → ms_I τ 667 = 0 → ws (f_X12_ends_J29 n τ w) (fun τ => fr [667, 668, 669, 652] [] σ τ ∧ ms_I τ 667 = 0) := by
    intro τ w hf h0
    unfold f_X12_ends_J29
    refine ws_l (ws_i (fun _ => ws_l (ws_s ⟨fr_tr hf (fr_tr (fr_sI (by decide)) (fr_sI (by decide))), ?_⟩)) (fun _ => ws_l (ws_s ⟨fr_tr hf (fr_tr (fr_sI (by decide)) (fr_sI (by decide))), ?_⟩)))
    · rw [mI_sI, if_neg (by decide), mI_sI, if_neg (by decide)]; exact h0
    · rw [mI_sI, if_neg (by decide), mI_sI, if_neg (by decide)]; exact h0
  unfold f_X12_ends
  have e : ms_I (ms_sI (ms_sI σ 667 0) 668 (ms_I (ms_sI σ 667 0) 670)) 667 = 0 := by rw [mI_sI, if_neg (by decide), mI_sI, if_pos rfl]
  have f : fr [667, 668, 669, 652] [] σ (ms_sI (ms_sI σ 667 0) 668 (ms_I (ms_sI σ 667 0) 670)) := fr_tr (fr_sI (by decide)) (fr_sI (by decide))
  exact ws_l (ws_l (ws_i (fun _ => hJ _ _ f e) (fun _ => hJ _ _ f e)))
theorem rC_ag {f g : Nat → Int32} (h : rC g) (e : ∀ j, j < 1980 → f j = g j) : rC f := by
  obtain ⟨h1, h2, h3, h4, h5, h6, h7, h8, h9⟩ := h
  refine ⟨?_, ?_, ?_, ?_, fun r hr => ?_, fun r hr => ?_, fun r hr => ?_, fun r hr => ?_, fun r hr => ?_⟩
  · rw [e _ (by omega)]; exact h1
  · rw [e _ (by omega)]; exact h2
  · rw [e _ (by omega)]; exact h3
  · rw [e _ (by omega)]; exact h4
  · rw [e _ (by omega)]; exact h5 r hr
  · rw [e _ (by omega)]; exact h6 r hr
  · rw [e _ (by omega)]; exact h7 r hr
  · rw [e _ (by omega)]; exact h8 r hr
  · rw [e _ (by omega)]; exact h9 r hr
/-- what load may change; what it keeps apart -/
def GW : List Nat := [652, 653, 657, 658, 659, 660, 665, 667, 668, 669, 670, 671, 672, 673, 674, 675, 676, 679]
def GE : List Nat := [40, 41, 42, 43, 44, 46]
def SV (σ0 τ : ms_T) : Prop := fr GW GE σ0 τ ∧ ∀ j, j < 1980 → ms_E τ 41 j = ms_E σ0 40 j
theorem RI_SV {σ0 τ : ms_T} (h : RI σ0) (s : fr GW GE σ0 τ) (hC : rC (ms_E τ 40)) (h0 : ms_I τ 667 = 0) : RI τ := by
  refine ⟨⟨?_, by rw [h0]; decide, ?_, ?_⟩, hC⟩
  · rw [s.1 664 (by decide)]; exact h.1.1
  · rw [s.1 682 (by decide)]; exact h.1.2.2.1
  · rw [s.1 697 (by decide)]; exact h.1.2.2.2
theorem s_load138 (n : Nat) {σ0 : ms_T} (hR : RI σ0) : ∀ (k : Nat) (σ : ms_T) (v : Int32), SV σ0 σ → ms_I σ 667 = 0 → (∀ j : Nat, (j : Int) < v.toInt → ms_E σ 40 j = ms_E σ0 40 j) → 0 ≤ v.toInt → v.toInt ≤ 1980 → 1981 - v.toInt ≤ (k : Int) → ws (f_X12_load_L138 n k σ v) (fun q => RI q.2 ∧ ms_I q.2 667 = 0) := by
  intro k
  induction k with
  | zero => intro σ v hs h7 hj g0 g1 g2; omega
  | succ k ih =>
    intro σ v hs h7 hj g0 g1 g2
    have t := t_1980
    rw [f_X12_load_L138.eq_2]
    refine ws_le (fun _ => ws_s ⟨RI_SV hR hs.1 (rC_ag hR.2 (fun j h => hj j (by omega))) h7, h7⟩) (fun _ => ?_)
    have e1 : (v + 1).toInt = v.toInt + 1 := by (try simp only [iw_add, iw_sub, iw_mul, t_m1, lt0, lt1, t_2, t_3, t_4, t_5, t_6, t_8, t_9, t_10, t_16, t_20, t_24, t_26, t_30, t_31, t_48, t_64, t_72, t_76, t_92, t_101, t_252, t_444, t_512, t_900, t_1980, t_65521, t_99999, t_mil]) <;> omega
    have hc := ic_clamp g0
    refine ws_g g0 (by omega) (ws_g g0 (by omega) (ws_l (ws_l (ih _ (v + 1) ⟨fr_tr hs.1 (fr_sE (by decide)), fun j h => ?_⟩ h7 (fun j h => ?_) (by omega) (by omega) (by omega)))))
    · rw [mE_sE, if_neg (fun q => absurd q.1 (by decide))]; exact hs.2 j h
    · rw [mE_sE]
      by_cases e : j = v.toNatClampNeg
      · rw [if_pos ⟨rfl, e⟩, e]; exact hs.2 _ (by omega)
      · rw [if_neg (fun q => e q.2)]; exact hj j (by omega)
theorem s_load118 (n : Nat) (hn : 70000 ≤ n) {σ0 σ : ms_T} (hR : RI σ0) (hs : SV σ0 σ) (hC : (ms_I σ 670).toInt = 0 → rC (ms_E σ 40)) : ws (f_X12_load_J118 n σ) (fun q => RI q.2 ∧ ms_I q.2 667 = 0) := by
  have l0 := lt0
  unfold f_X12_load_J118
  refine ws_b (s_ends n σ) (fun τ hτ => ?_)
  have fτ : fr GW GE σ0 τ := fr_tr hs.1 (fr_sb hτ.1 (by decide) (by decide))
  refine ws_ee (fun _ e => ws_g (by decide) (by decide) (ws_s ?_)) (fun _ => ?_)
  · rw [hτ.1.1 670 (by decide)] at e
    exact ⟨RI_SV hR fτ (rC_fr (hC (by omega)) hτ.1 (by decide)) hτ.2, hτ.2⟩
  · exact s_load138 n hR n τ 0 ⟨fτ, fun j h => by rw [hτ.1.2 41 (by decide)]; exact hs.2 j h⟩ hτ.2 (fun j h => by rw [lt0] at h; omega) (by decide) (by decide) (by rw [lt0]; omega)
theorem s_load97 (n : Nat) (hn : 70000 ≤ n) {σ0 : ms_T} (hR : RI σ0) : ∀ (k : Nat) (σ : ms_T), SV σ0 σ → ((ms_I σ 670).toInt = 0 → LI σ) → 1 ≤ k → ((ms_I σ 670).toInt = 0 → ¬ (ms_I σ 674).toInt = 0 → 902 - (ms_I σ 673).toInt ≤ (k : Int)) → ws (f_X12_load_L97 n k σ) (fun q => RI q.2 ∧ ms_I q.2 667 = 0) := by
  intro k
  induction k with
  | zero => intro σ hs hL hk hm; omega
  | succ k ih =>
    intro σ hs hL hk hm
    have l0 := lt0
    rw [f_X12_load_L97.eq_2]
    refine ws_ee (fun _ e => ws_ee (fun _ e4 => s_load118 n hn hR hs (fun q => (hL q).2.1)) (fun e4 => ?_)) (fun _ => s_load118 n hn hR hs (fun q => (hL q).2.1))
    have hL' := hL (by omega)
    have hm' := hm (by omega) (by omega)
    have hPP := hL'.1
    unfold PI at hPP
    have h3 := hPP.2.2.2.1 (by omega)
    refine ws_b (s_line n hn hL' (by omega)) (fun τ hτ => ih τ ⟨fr_tr hs.1 (fr_sb hτ.1 (by decide) (by decide)), fun j h => by rw [hτ.1.2 41 (by decide)]; exact hs.2 j h⟩ (fun _ => hτ.2.1) (by omega) (fun q _ => by have := hτ.2.2 q; omega))
theorem s_load28 (n : Nat) (hn : 70000 ≤ n) {σ0 : ms_T} (hR : RI σ0) (a : Int32) (h0 : 0 ≤ a.toInt) (h1 : a.toInt ≤ 900) : ∀ (k : Nat) (σ : ms_T) (v : Int32), fr [] [41] σ0 σ → (∀ j : Nat, (j : Int) < v.toInt → ms_E σ 41 j = ms_E σ0 40 j) → 0 ≤ v.toInt → v.toInt ≤ 1980 → 1981 - v.toInt ≤ (k : Int) → ws (f_X12_load_L28 n k σ a v) (fun q => RI q.2 ∧ ms_I q.2 667 = 0) := by
  intro k
  induction k with
  | zero => intro σ v hf hj g0 g1 g2; omega
  | succ k ih =>
    intro σ v hf hj g0 g1 g2
    have t := t_1980
    rw [f_X12_load_L28.eq_2]
    refine ws_le (fun _ => ?_) (fun _ => ?_)
    · refine ws_b (s_clears n (by omega) σ) (fun σ7 h7 => ?_)
      have hC7 := cl_rC h7
      have f7 : fr [] [40] σ σ7 := ⟨fun φ _ => h7.1 φ, fun κ hκ j => h7.2.1 κ j (by simpa using hκ)⟩
      have f8 : fr [679] [40] σ (ms_sI σ7 679 0) := fr_tr (fr_sb f7 (by decide) (by decide)) (fr_sI (by decide))
      have e8 : ms_I (ms_sI σ7 679 0) 679 = 0 := by rw [mI_sI, if_pos rfl]
      refine ws_l (ws_b (s_begins n hn a h0 h1) (fun σ9 h9 => ?_))
      have hL9 : LI σ9 := ⟨h9.2.1, rC_fr (rC_fr hC7 (fr_sI (wI := [679]) (wE := []) (by decide)) (by decide)) h9.1 (by decide), by rw [h9.1.1 679 (by decide), e8]; decide⟩
      have s9 : SV σ0 σ9 := ⟨fr_tr (fr_sb hf (by decide) (by decide)) (fr_tr (fr_sb f8 (by decide) (by decide)) (fr_sb h9.1 (by decide) (by decide))), fun j h => by rw [h9.1.2 41 (by decide), f8.2 41 (by decide)]; exact hj j (by omega)⟩
      have hfuel : ∀ τ : ms_T, PI τ → 902 - (ms_I τ 673).toInt ≤ (n : Int) := by
        intro τ h
        have h' := h
        obtain ⟨q1, q2, q3, q4, q5⟩ := h'
        omega
      refine ws_b (s_isWord n σ9 0 (by decide) (by decide)) (fun r hr => ws_i (fun _ => s_load97 n hn hR n σ9 s9 (fun _ => hL9) (by omega) (fun _ _ => hfuel _ h9.2.1)) (fun q => ?_))
      have hq := hr q
      refine ws_b (s_reads1 n hn h9.2.1 (by omega)) (fun σa ha => ?_)
      have fa : fr [672, 673, 674, 675] [] σ9 σa := ha.1.1
      have hLa : LI σa := ⟨ha.2.1, rC_fr hL9.2.1 fa (by decide), by rw [fa.1 679 (by decide)]; exact hL9.2.2⟩
      refine ws_c (s_takesNumber n hn ha.2.1 101 65521) (fun x σb hb => ws_g (by decide) (by decide) (ws_l ?_))
      have hLb := LI_T hLa hb.1
      have fe : fr [] [40] σb (ms_sE σb 40 (1 : Int32).toNatClampNeg x) := fr_sE (by decide)
      have hPe := PI_fr hLb.1 fe (by decide) (by decide) (by decide) (by decide) (by decide)
      refine ws_b (s_takesEnd n hn hPe) (fun σd hd => ?_)
      have fall : fr GW GE σ9 σd := fr_tr (fr_sb fa (by decide) (by decide)) (fr_tr (fr_sb hb.1.1 (by decide) (by decide)) (fr_tr (fr_sb fe (by decide) (by decide)) (fr_sb hd.1 (by decide) (by decide))))
      have e41 : ∀ j, ms_E σd 41 j = ms_E σ9 41 j := fun j => by rw [hd.1.2 41 (by decide), fe.2 41 (by decide), hb.1.1.2 41 (by decide), fa.2 41 (by decide)]
      refine s_load97 n hn hR n σd ⟨fr_tr s9.1 fall, fun j h => by rw [e41]; exact s9.2 j h⟩ (fun e => ⟨hd.2.1, ?_, ?_⟩) (by omega) (fun _ _ => hfuel _ hd.2.1)
      · have q1 := (hd.2.2 e).1
        have q1' : (ms_I σb 670).toInt = 0 := q1
        have q2 : (101 : Int32).toInt ≤ x.toInt ∧ x.toInt ≤ (65521 : Int32).toInt := hb.2 q1'
        rw [t_101, t_65521] at q2
        refine rC_fr (rC_sE hLb.2.1 ?_) hd.1 (by decide)
        rw [c1]
        exact ⟨fun _ => by omega, fun _ => by omega, fun _ => by omega, fun _ => by omega, fun _ _ _ => by omega, fun _ _ _ => by omega, fun _ _ _ => by omega, fun _ _ _ => by omega, fun _ _ _ => by omega⟩
      · rw [hd.1.1 679 (by decide), fe.1 679 (by decide)]; exact hLb.2.2
    · have e1 : (v + 1).toInt = v.toInt + 1 := by (try simp only [iw_add, iw_sub, iw_mul, t_m1, lt0, lt1, t_2, t_3, t_4, t_5, t_6, t_8, t_9, t_10, t_16, t_20, t_24, t_26, t_30, t_31, t_48, t_64, t_72, t_76, t_92, t_101, t_252, t_444, t_512, t_900, t_1980, t_65521, t_99999, t_mil]) <;> omega
      have hc := ic_clamp g0
      refine ws_g g0 (by omega) (ws_g g0 (by omega) (ws_l (ws_l (ih _ (v + 1) (fr_tr hf (fr_sE (by decide))) (fun j h => ?_) (by omega) (by omega) (by omega)))))
      rw [mE_sE]
      by_cases e : j = v.toNatClampNeg
      · rw [if_pos ⟨rfl, e⟩, e]; exact hf.2 40 (by decide) _
      · rw [if_neg (fun q => e q.2)]; exact hj j (by omega)
theorem s_load (n : Nat) (hn : 70000 ≤ n) (σ : ms_T) (hR : RI σ) (a1 : Int32) : ws (f_X12_load n σ a1) (fun res => RI res.2 ∧ ld_M σ a1 res.2) := by
  have l0 := lt0
  have h9 := hR.1.2.1
  unfold f_X12_load f_X12_load_J18
  refine ws_bo (s_isIn n _ _ _) (fun q => ?_) (fun q => ?_)
  · refine ws_is (fun τ h => ?_) (fun e => absurd e (by decide))
    obtain ⟨a, b, c⟩ := is_R hR h
    exact ⟨a, Or.inl ⟨by omega, b⟩⟩
  · refine ws_c (s_is n σ 0) (fun r τ h => ws_i (fun e => absurd rfl (bo_0 h.2 e)) (fun _ => ?_))
    obtain ⟨a, b, c⟩ := is_R hR h.1
    exact ws_m (s_load28 n hn a a1 (by omega) (by omega) n τ 0 fr_rf (fun j h => by rw [lt0] at h; omega) (by decide) (by decide) (by rw [lt0]; omega)) (fun res hres => ⟨hres.1, Or.inr ⟨by omega, hres.2⟩⟩)
