set_option maxRecDepth 100000
/-! ===== the lines of a text, one behind another ===== -/
theorem r_aft (n : Nat) (hn : 70000 ≤ n) {α : hp_T} {rd w r : Nat} {f : Nat → Int32} {σ τ : ms_T} {t : Nat → Int32} {N q : Nat} (hS : RS α rd) (a : Int32 × hp_T) (ha : rfr rd α a.2 ∧ ((a.1 = 0 ∧ BAD a.2 rd τ) ∨ (a.1 = 1 ∧ (∃ p, q < p ∧ PRE a.2 rd τ t N p) ∧ LNK a.2 rd w r f σ τ ∧ KF rd α a.2))) : ws (f_X3_readLine_J197 n rd a.2 a.1) (LNR α rd w r f σ τ t N q) := by
  obtain ⟨a1, a2⟩ := a
  obtain ⟨hF, ⟨h0, hB⟩ | ⟨h1, ⟨p, hp, hP⟩, hK, hKF⟩⟩ := ha
  · dsimp only at h0
    subst h0
    exact r_bad n hF hB
  · dsimp only at h1
    subst h1
    refine r_fin n hn hS hF hp hP hKF (fun γ hg hl => ?_)
    rcases hK with ⟨k1, k2, ⟨l, k3, k4⟩, k5⟩ | k | k | k | k
    · exact Or.inl ⟨by rw [hl 206 (by decide)]; exact k1, k2, ⟨l, WD_rdf k3 hg, k4⟩, k5⟩
    · refine Or.inr (Or.inl ?_)
      rw [hl 206 (by decide), hl 209 (by decide)]; exact k
    · refine Or.inr (Or.inr (Or.inl ?_))
      rw [hl 206 (by decide), hl 209 (by decide)]; exact k
    · refine Or.inr (Or.inr (Or.inr (Or.inl ?_)))
      rw [hl 206 (by decide)]; exact k
    · refine Or.inr (Or.inr (Or.inr (Or.inr ?_)))
      rw [hl 206 (by decide), hl 208 (by decide), hl 209 (by decide)]; exact k
theorem v_isW (n : Nat) {α : hp_T} {rd : Nat} {σ : ms_T} {t : Nat → Int32} {N q : Nat} (hT : TOK α rd σ t N q) (w : Nat) (hw : w < 12) (wI : Int32) (hwI : wI.toInt = (w : Int)) {x : Int32} (ex : f_X12_isWord n σ wI = some x) : (spl t N q (wtx w) → x = 1) ∧ (¬ spl t N q (wtx w) → x = 0) := by
  have hN := hT.2.1.1
  have hq := hT.1
  rcases v_isWord n hT.2.2.2.2.1 (by omega) hN w hw wI hwI x ex with ⟨h, g⟩ | ⟨h, g⟩
  · exact ⟨fun _ => h, fun k => absurd g.2 k⟩
  · exact ⟨fun k => absurd ⟨hT.2.2.2.2.2, k⟩ g, fun _ => h⟩
theorem r_line (n : Nat) (hn : 70000 ≤ n) {α : hp_T} {rd w r : Nat} {f : Nat → Int32} {σ τ : ms_T} {t : Nat → Int32} {N q : Nat} (hS : RS α rd) (hT : TOK α rd σ t N q) (hqN : q < N) (hW : WR α w f) (hf : ms_E σ 40 = f) (hC : rC f) (hr : r < (f 0).toInt.toNat) (hrI : (ms_I σ 679).toInt = (r : Int)) (e : f_X12_line n σ = some τ) :
    ws (f_X3_readLine n α rd w (lpA w r)) (LNR α rd w r f σ τ t N q) := by
  obtain ⟨q1, q2, q3, q4, q5, q6⟩ := id hT
  unfold f_X12_line at e
  unfold f_X3_readLine
  replace e := ms_bE e
  obtain ⟨x1, ex1, e⟩ := e
  have i1 := v_isW n hT 1 (by decide) 1 (by decide) ex1
  refine ws_l (wk_bo (k_spells n hn (i := 7) (by decide) q2 q3 q1) (fun hno1 => ?_) (fun hyes => ?_))
  · rw [if_pos (i1.2 hno1)] at e
    replace e := ms_bE e
    obtain ⟨x2, ex2, e⟩ := e
    have i2 := v_isW n hT 2 (by decide) 2 (by decide) ex2
    refine ws_l (wk_bo (k_spells n hn (i := 20) (by decide) q2 q3 q1) (fun hno2 => ?_) (fun hyes => ?_))
    · rw [if_pos (i2.2 hno2)] at e
      replace e := ms_bE e
      obtain ⟨x3, ex3, e⟩ := e
      have i3 := v_isW n hT 3 (by decide) 3 (by decide) ex3
      refine ws_l (wk_bo (k_spells n hn (i := 9) (by decide) q2 q3 q1) (fun hno3 => ?_) (fun hyes => ?_))
      · rw [if_pos (i3.2 hno3)] at e
        replace e := ms_bE e
        obtain ⟨x4, ex4, e⟩ := e
        have i4 := v_isW n hT 4 (by decide) 4 (by decide) ex4
        refine ws_l (wk_bo (k_spells n hn (i := 10) (by decide) q2 q3 q1) (fun hno4 => ?_) (fun hyes => ?_))
        · rw [if_pos (i4.2 hno4)] at e
          refine ws_l (wk_bo (k_spells n hn (i := 19) (by decide) q2 q3 q1) (fun hno5 => ?_) (fun hyes => ?_))
          · replace e := ms_bE e
            obtain ⟨σ1, e1, e⟩ := e
            unfold f_X12_takes at e1
            replace e1 := ms_bE e1
            obtain ⟨x5, ex5, e1⟩ := e1
            have i5 := (v_isW n hT 5 (by decide) 5 (by decide) ex5).2 hno5
            subst i5
            refine ws_hc (k_stray n q3) (fun r2 γ hr2 => ?_)
            obtain ⟨g1, g2, g3, g4⟩ := hr2
            rw [hS.1] at g4
            have hB1 : BAD γ rd σ1 := r_must n hT 0 (Or.inl rfl) (fun h => absurd h (by decide)) (R := ms_T) (fun τ => BAD γ rd τ) (fun h => absurd h (by decide)) (fun _ τ t1 t2 t3 t4 => ⟨t1, by rw [g2, t2], Int32.toInt_inj.mp (by rw [g3, t3])⟩) σ1 e1
            replace e := ms_cE e
            obtain ⟨v, σ2, e2, e⟩ := e
            replace e := ms_bE e
            obtain ⟨sz, -, e⟩ := e
            replace e := ms_cE e
            obtain ⟨u, σ3, e3, e⟩ := e
            replace e := ms_bE e
            obtain ⟨σ4, e4, e⟩ := e
            have hB2 : BAD γ rd σ2 := BAD_B hB1 (v_takesNumber_B n _ _ _ hB1.1 _ e2)
            have hB3 : BAD γ rd σ3 := BAD_B hB2 (v_takesNumber_B n _ _ _ hB2.1 _ e3)
            have hB4 := BAD_B hB3 (v_takesEnd_B n _ hB3.1 _ e4)
            rw [if_neg (BAD_p hB4)] at e
            cases e
            dsimp only at g1
            subst g1
            exact r_bad n (rfr_rdf g4) hB4
          · exact r_showL n hn hS hT hqN hW hf hC hr hrI hyes e
        · rw [if_neg (by rw [i4.1 hyes]; decide)] at e
          exact r_freezeL n hn hS hT hqN hW hf hC hr hrI e
      · rw [if_neg (by rw [i3.1 hyes]; decide)] at e
        replace e := ms_bE e
        obtain ⟨σ1, e1, e⟩ := e
        cases e
        exact r_forkL n hn hS hT hqN hW hf hC hr hrI e1
    · rw [if_neg (by rw [i2.1 hyes]; decide)] at e
      exact r_toL n hn hS hT hqN hW hf hC hr e
  · rw [if_neg (by rw [i1.1 hyes]; decide)] at e
    replace e := ms_bE e
    obtain ⟨σ1, e1, e⟩ := e
    cases e
    exact ws_hc (r_addR n hn hS hT hqN hW hf hC hr hrI e1) (fun a β h => r_aft n hn hS (a, β) h)
/-- only a world's and a reader's cells change -/
def lfr (w rd : Nat) (α β : hp_T) : Prop := hp_R β = hp_R α ∧ hp_K β = hp_K α ∧ hp_Q β = hp_Q α ∧ hp_N β = hp_N α ∧ (∀ φ b, b < w ∨ w + 459 ≤ b → b < rd ∨ rd + 11 ≤ b → hp_I β φ b = hp_I α φ b) ∧ ∀ κ b j, b < w ∨ w + 459 ≤ b → b < rd ∨ rd + 11 ≤ b → hp_E β κ b j = hp_E α κ b j
theorem lfr_rf {w rd : Nat} {α : hp_T} : lfr w rd α α := ⟨rfl, rfl, rfl, rfl, fun _ _ _ _ => rfl, fun _ _ _ _ _ => rfl⟩
theorem lfr_tr {w rd : Nat} {α β γ : hp_T} (h : lfr w rd α β) (g : lfr w rd β γ) : lfr w rd α γ := by
  obtain ⟨h1, h2, h3, h4, h5, h6⟩ := h
  obtain ⟨g1, g2, g3, g4, g5, g6⟩ := g
  exact ⟨g1.trans h1, g2.trans h2, g3.trans h3, g4.trans h4, fun φ b p q => (g5 φ b p q).trans (h5 φ b p q), fun κ b j p q => (g6 κ b j p q).trans (h6 κ b j p q)⟩
theorem lfr_w {w rd : Nat} {α β : hp_T} (h : wfr w α β) : lfr w rd α β := ⟨h.1, h.2.1, h.2.2.1, h.2.2.2.1, fun φ b p _ => h.2.2.2.2.1 φ b p, fun κ b j p _ => h.2.2.2.2.2 κ b j p⟩
theorem lfr_r {w rd : Nat} {α β : hp_T} (h : rfr rd α β) : lfr w rd α β := ⟨h.1, h.2.1, h.2.2.1, h.2.2.2.1, fun φ b _ p => h.2.2.2.2.1 φ b p, fun κ b j _ p => h.2.2.2.2.2 κ b j p⟩
theorem TOK_wfr {α β : hp_T} {w rd N q : Nat} {σ : ms_T} {t : Nat → Int32} (h : TOK α rd σ t N q) (hR : hp_R α 200 rd = rd + 1) (g : wfr w α β) (hw : w + 459 ≤ rd) (ht : w + 459 ≤ hp_R α 350 (rd + 1)) : TOK β rd σ t N q := by
  obtain ⟨h1, h2, h3, h4⟩ := h
  rw [hR] at h2 h3
  obtain ⟨g1, g2, g3, g4, g5, g6⟩ := g
  have e : ∀ φ, hp_I β φ (rd + 1) = hp_I α φ (rd + 1) := fun φ => g5 φ _ (by omega)
  refine ⟨h1, ?_, ?_, h4⟩
  · rw [g1, hR]
    exact ⟨h2.1, by rw [e]; exact h2.2.1, by rw [g1, g2]; exact h2.2.2.1, fun j hj => by rw [g1, g6 _ _ _ (by omega)]; exact h2.2.2.2 j hj⟩
  · rw [g1, hR]
    obtain ⟨k1, k2, k3, k4, k5⟩ := h3
    exact ⟨by rw [e]; exact k1, by rw [e]; exact k2, by rw [e]; exact k3, by rw [e]; exact k4, fun q => by rw [e]; exact k5 q⟩
theorem PI_TOK {α : hp_T} {rd : Nat} {σ : ms_T} {t : Nat → Int32} {N q : Nat} (h : TOK α rd σ t N q) : PI σ := by
  obtain ⟨h1, -, -, h4, h5, h6⟩ := h
  have hN := h4.1
  have h676 := h4.2.1
  have h672 := h5.1
  have h673 := h5.2.2.1
  have hlt : q < tkN t N q ∧ (q < N → tkN t N q ≤ N) := by
    by_cases hq : q < N
    · have := tkN_le t hq
      exact ⟨by omega, fun _ => this.2⟩
    · refine ⟨?_, fun h => absurd h hq⟩
      unfold tkN
      rw [if_pos (by omega)]
      omega
  refine ⟨⟨by omega, by omega⟩, by omega, by omega, fun h => ?_, by rw [h6]; decide⟩
  have : q < N := by
    refine Nat.lt_of_not_le (fun hq => h ?_)
    rw [h5.2.1]
    unfold tkS tkK
    rw [if_pos hq, if_neg (fun e => absurd e.1 (by decide))]
    decide
  have := hlt.2 this
  omega
theorem AL_eq {f g : Nat → Int32} (hC : rC f) (h : AL01 f) (e0 : g 0 = f 0) (e3 : g 3 = f 3) (e : ∀ j, 72 ≤ j → j < 252 → g j = f j) : AL01 g :=
  ⟨fun v hv => by rw [e _ (by omega) (by omega)]; exact h.1 v hv, FRI_e hC h.2 (by rw [e0]; omega) e3 (fun r hr => by have := hC.1; rw [e _ (by omega) (by omega)]; omega) (fun i hi => ⟨e _ (by omega) (by omega), e _ (by omega) (by omega)⟩)⟩
theorem AL_adF {f g : Nat → Int32} {r s : Nat} {l : List Int32} (hC : rC f) (h : AL01 f) (hr : r < 4) (hs : (f (72 + r)).toInt < 48) (hs2 : s < 48) (hg : adF f r s l g) : AL01 g := by
  obtain ⟨-, -, g3, -, g5⟩ := hg
  have h4 := hC.1
  refine ⟨fun v hv => by rw [g5 _ (by omega) (by omega) (by omega) (by omega)]; exact h.1 v hv, FRI_e hC h.2 (by rw [g5 0 (by omega) (by omega) (by omega) (by omega)]; omega) (g5 3 (by omega) (by omega) (by omega) (by omega)) (fun q hq => ?_) (fun i hi => ⟨g5 _ (by omega) (by omega) (by omega) (by omega), g5 _ (by omega) (by omega) (by omega) (by omega)⟩)⟩
  by_cases e : q = r
  · rw [e, g3, iw_add, lt1]
    have := hC.2.2.2.2.1 r hr
    omega
  · rw [g5 _ (by omega) (by omega) (by omega) (by omega)]; omega
theorem AL_foF {f g : Nat → Int32} {r t n : Nat} (hC : rC f) (h : AL01 f) (ht : (t : Int) = (f 0).toInt) (ht4 : t < 4) (hg : foF f r t n g) : AL01 g := by
  obtain ⟨-, -, g0, -, g5⟩ := hg
  have h4 := hC.1
  refine ⟨fun v hv => by rw [g5 _ (by omega) (by omega) (by omega) (by omega) (by omega)]; exact h.1 v hv, FRI_e hC h.2 (by rw [g0, iw_add, lt1]; omega) (g5 3 (by omega) (by omega) (by omega) (by omega) (by omega)) (fun q hq => by rw [g5 _ (by omega) (by omega) (by omega) (by omega) (by omega)]; omega) (fun i hi => ⟨g5 _ (by omega) (by omega) (by omega) (by omega) (by omega), g5 _ (by omega) (by omega) (by omega) (by omega) (by omega)⟩)⟩
theorem AL_fzF {f g : Nat → Int32} {r : Nat} (hC : rC f) (h : AL01 f) (hr : (r : Int) < (f 0).toInt) (hi : (f 3).toInt < 16) (hg : frF f r (f 3).toInt.toNat g) : AL01 g := by
  obtain ⟨g1, g2, -, -, -, g3, -, g5⟩ := hg
  have h4 := hC.1
  have h3 := hC.2.2.2.1
  have e0 := g5 0 (by omega) (by omega) (by omega)
  have e7 : ∀ q, q < 4 → g (72 + q) = f (72 + q) := fun q hq => g5 _ (by omega) (by omega) (by omega)
  refine ⟨fun v hv => by rw [g5 _ (by omega) (by omega) (by omega)]; exact h.1 v hv, fun i hi2 => ?_⟩
  rw [g3, iw_add, lt1] at hi2
  by_cases e : i = (f 3).toInt.toNat
  · rw [e, g2, g1, Int.toNat_natCast, e0, e7 r (by omega)]
    exact ⟨hr, by omega⟩
  · obtain ⟨b1, b2⟩ := h.2 i (by omega)
    have b0 := (hC.2.2.2.2.2.2.1 i (by omega)).1
    rw [g5 (92 + 10 * i) (by omega) (by omega) (by omega), g5 (93 + 10 * i) (by omega) (by omega) (by omega), e0, e7 _ (by omega)]
    exact ⟨b1, b2⟩
theorem AL_shF {f g : Nat → Int32} (hC : rC f) (h : AL01 f) {v r N : Nat} (hv : v < 4) (hs : shF f v r N g) : AL01 g := by
  obtain ⟨-, g2, -, -, g5⟩ := hs
  have h4 := hC.1
  refine ⟨fun u hu => ?_, FRI_e hC h.2 (by rw [g5 0 (by omega) (by omega)]; omega) (g5 3 (by omega) (by omega)) (fun q hq => by rw [g5 (72 + q) (by omega) (by omega)]; omega) (fun i hi => ⟨g5 _ (by omega) (by omega), g5 _ (by omega) (by omega)⟩)⟩
  by_cases e : u = v
  · subst e
    rw [g2]
    split
    · exact h.1 u hu
    · exact Or.inr rfl
  · rw [g5 (78 + 4 * u) (by omega) (by omega)]
    exact h.1 u hu/-! ===== the loop of lines ===== -/
def LDI (x w rd : Nat) (t : Nat → Int32) (N : Nat) (α : hp_T) (σ : ms_T) (r q : Nat) : Prop := (RS α rd ∧ hp_R α 616 x = rd ∧ hp_R α 602 x = w ∧ w + 459 ≤ rd ∧ w + 459 ≤ hp_R α 350 (rd + 1)) ∧ TOK α rd σ t N q ∧ (WR α w (ms_E σ 40) ∧ rC (ms_E σ 40) ∧ AL01 (ms_E σ 40) ∧ rG α w) ∧ r < (ms_E σ 40 0).toInt.toNat ∧ (ms_I σ 679).toInt = (r : Int)
def UOK (α : hp_T) (u : Nat) : Prop := SHW α u ∧ rG α u ∧ ∀ i, i < 16 → 0 ≤ (hp_I α 301 (fzA u i + 1)).toInt ∧ (hp_I α 301 (fzA u i + 1)).toInt ≤ 64
def LDP (n w rd : Nat) (α : hp_T) (σ : ms_T) (res : Int32 × ms_T) (a : Int32 × hp_T) : Prop := lfr w rd α a.2 ∧ ∃ τ, fr FW FE σ τ ∧ f_X12_load_J118 n τ = some res ∧ ((a.1 = 0 ∧ BAD a.2 rd τ ∧ UOK a.2 w) ∨ (a.1 = 1 ∧ ms_I τ 670 = 0 ∧ (WR a.2 w (ms_E τ 40) ∧ rC (ms_E τ 40) ∧ AL01 (ms_E τ 40) ∧ rG a.2 w) ∧ KF rd α a.2 ∧ ms_E τ 40 2 = ms_E σ 40 2))
theorem LDP_tr {n w rd : Nat} {α β : hp_T} {σ τ : ms_T} {res : Int32 × ms_T} {a : Int32 × hp_T} (hF : lfr w rd α β) (hf : fr FW FE σ τ) (hk : KF rd α β) (h2 : ms_E τ 40 2 = ms_E σ 40 2) (h : LDP n w rd β τ res a) : LDP n w rd α σ res a := by
  obtain ⟨h1, υ, h5, h3, h4⟩ := h
  refine ⟨lfr_tr hF h1, υ, fr_tr hf h5, h3, ?_⟩
  rcases h4 with h4 | ⟨a1, a2, a3, a4, a5⟩
  · exact Or.inl h4
  · exact Or.inr ⟨a1, a2, a3, KF_tr hk a4, a5.trans h2⟩
theorem KF_w {w rd : Nat} {α β : hp_T} (h : wfr w α β) (hw : w + 459 ≤ rd) : KF rd α β := ⟨h.2.2.2.2.1 204 rd (by omega), h.2.2.2.2.1 205 rd (by omega)⟩
theorem tkS_0 {t : Nat → Int32} {N q : Nat} (h : q < N) : ¬ tkS t N q = 0 := by
  unfold tkS tkK
  rw [if_neg (show ¬ N ≤ q by omega)]
  split
  · decide
  · exact kof_0
theorem tkS_e {t : Nat → Int32} {N q : Nat} (h : N ≤ q) : tkS t N q = 0 := by
  unfold tkS tkK
  rw [if_pos h, if_neg (fun e => absurd e.1 (by decide))]
theorem ws_hm {R : Type} {P : R → Prop} {x : Option R} {k : Nat → Option R} {a : Nat} (h : ws (k a) P) : ws (hq_m (some a) x k) P := h
theorem r_loop (n : Nat) (hn : 70000 ≤ n) (x w rd : Nat) (t : Nat → Int32) (N : Nat) (res : Int32 × ms_T) : ∀ (d : Nat) (α : hp_T) (σ : ms_T) (r q k : Nat) (kI : Int32) (k97 : Nat), LDI x w rd t N α σ r q → kI.toInt = (k : Int) → k ≤ q → N + 1 - q ≤ d → f_X12_load_L97 n k97 σ = some res → ws (f_X11_loadLines_L32 n x d α (ms_I σ 679) kI) (LDP n w rd α σ res) := by
  intro d
  induction d with
  | zero => intro α σ r q k kI k97 h hk hkq hd; have := h.2.1.1; omega
  | succ d ih =>
    intro α σ r q k kI k97 h hk hkq hd e
    obtain ⟨⟨hS, h616, h602, hw, htp⟩, hT, ⟨hW, hC, hA, hG⟩, hr, hrI⟩ := id h
    have t900 := t_900
    have hN := hT.2.1.1
    have hqN := hT.1
    obtain ⟨q1, q2, q3, q4, q5, q6⟩ := id hT
    cases k97 with
    | zero => unfold f_X12_load_L97 at e; cases e
    | succ k97 =>
    unfold f_X12_load_L97 at e
    rw [if_pos q6] at e
    unfold f_X11_loadLines_L32
    have hend : q = N → ms_I σ 674 = 0 := fun hq => by
      rw [q5.2.1]; exact tkS_e (by omega)
    have hmid : q < N → ¬ tkS t N q = 0 := fun hq => tkS_0 hq
    have hdone : q = N → LDP n w rd α σ res (1, α) := fun hq => by
      rw [if_pos (hend hq)] at e
      exact ⟨lfr_rf, σ, fr_rf, e, Or.inr ⟨rfl, q6, ⟨hW, hC, hA, hG⟩, ⟨rfl, rfl⟩, rfl⟩⟩
    refine ws_le (fun e9 => ws_s (hdone (by omega))) (fun e9 => ws_l ?_)
    unfold f_X3_isAtEnd
    rw [h616]
    have h353 : hp_I α 353 (hp_R α 200 rd) = tkS t N q := q3.2.1
    by_cases hq : q = N
    · refine ws_b (S := fun v => v = 1) (ws_l (ws_l (ws_i (fun _ => ws_s rfl) (fun hne => absurd (by rw [h353]; rw [← q5.2.1]; exact hend hq) hne)))) (fun v hv => ?_)
      subst hv
      exact ws_i (fun h => absurd h (by decide)) (fun _ => ws_s (hdone hq))
    · have hqN2 : q < N := by omega
      refine ws_b (S := fun v => v = 0) (ws_l (ws_l (ws_i (fun h0 => absurd (by rw [h353] at h0; exact h0) (hmid hqN2)) (fun _ => ws_s rfl)))) (fun v hv => ?_)
      subst hv
      refine ws_i (fun _ => ws_l ?_) (fun h => absurd rfl h)
      rw [h602]
      rw [if_neg (fun h => hmid hqN2 (q5.2.1.symm.trans h))] at e
      replace e := ms_bE e
      obtain ⟨τ, e1, e⟩ := e
      have hLI : LI σ := ⟨PI_TOK hT, hC, by omega, by have := hC.1; omega⟩
      obtain ⟨τ', e1', hln⟩ := s_line n hn hLI (fun h => hmid hqN2 (q5.2.1.symm.trans (Int32.toInt_inj.mp (by rw [h]; decide))))
      have : τ' = τ := by rw [e1] at e1'; cases e1'; rfl
      subst this
      obtain ⟨hfr, hLI2, -⟩ := hln
      refine ws_b (k_logAt n hW hC (ms_I σ 679)) (fun o ho => ?_)
      rw [if_pos ⟨by omega, by omega⟩, hrI, Int.toNat_natCast] at ho
      subst ho
      refine ws_hm (ws_l (ws_l ?_))
      refine ws_hc (r_line n hn hS hT hqN2 hW rfl hC hr hrI e1) (fun a β hab => ?_)
      obtain ⟨hF, ⟨h0, hB⟩ | ⟨h1, ⟨q', hq', hT'⟩, hK, hKF⟩⟩ := hab
      · refine ws_i (fun _ => ws_s ⟨lfr_r hF, τ', hfr, ?_, Or.inl ⟨rfl, hB, ?_⟩⟩) (fun h => absurd h0 h)
        · cases k97 with
          | zero => unfold f_X12_load_L97 at e; cases e
          | succ k97 =>
            unfold f_X12_load_L97 at e
            rw [if_neg (BAD_p hB)] at e
            exact e
        have hWβ : WR β w (ms_E σ 40) := WR_rfr hW hC hw hF
        exact ⟨hWβ.1, by unfold rG; rw [hF.2.2.2.2.1 301 (w + 5) (by omega)]; exact hG, hWβ.2.2.2.2.2⟩
      · dsimp only at h1
        subst h1
        replace hF : rfr rd α β := hF
        replace hT' : TOK β rd τ' t N q' := hT'
        have b616 : hp_R β 616 x = rd := by rw [hF.1]; exact h616
        have b602 : hp_R β 602 x = w := by rw [hF.1]; exact h602
        have hSβ : RS β rd := RS_R hS hF.1
        have btp : w + 459 ≤ hp_R β 350 (rd + 1) := by rw [hF.1]; exact htp
        have hWβ : WR β w (ms_E σ 40) := WR_rfr hW hC hw hF
        have hGβ : rG β w := by unfold rG; rw [hF.2.2.2.2.1 301 (w + 5) (by omega)]; exact hG
        have hC2 : rC (ms_E τ' 40) := hLI2.2.1
        -- what is left behind a line's act
        have hgo : ∀ (γ : hp_T) (vI : Int32) (r2 : Nat), wfr w β γ → WR γ w (ms_E τ' 40) → rG γ w → AL01 (ms_E τ' 40) → vI = ms_I τ' 679 → r2 < (ms_E τ' 40 0).toInt.toNat → (ms_I τ' 679).toInt = (r2 : Int) → ms_E τ' 40 2 = ms_E σ 40 2 → ws (f_X11_loadLines_J213 n x (f_X11_loadLines_L32 n x d) γ vI kI) (LDP n w rd α σ res) := by
          intro γ vI r2 g1 g2 g3 g4 g5 g6 g7 g8
          unfold f_X11_loadLines_J213
          subst g5
          refine ws_l (ws_m (ih γ τ' r2 q' (k + 1) _ k97 ⟨⟨RS_R hSβ g1.1, by rw [g1.1]; exact b616, by rw [g1.1]; exact b602, hw, by rw [g1.1]; exact btp⟩, TOK_wfr hT' hSβ.1 g1 hw btp, ⟨g2, hC2, g4, g3⟩, g6, g7⟩ (by rw [ii_add (by rw [lt1]; omega) (by rw [lt1]; omega), lt1, hk]; omega) (by omega) (by omega) e) (fun a ha => ?_))
          exact LDP_tr (lfr_tr (lfr_r hF) (lfr_w g1)) hfr (KF_tr hKF (KF_w g1 hw)) g8 ha
        have wfr_rf : wfr w β β := ⟨rfl, rfl, rfl, rfl, fun _ _ _ => rfl, fun _ _ _ _ => rfl⟩
        have h0c := hC.1
        refine ws_i (fun h => absurd h (by decide)) (fun _ => ws_l (ws_l ?_))
        rw [b616, b602]
        have hWD500 : hp_R β 500 (rd + 9) = rd + 10 := hSβ.2.2
        replace hK : LNK β rd w r (ms_E σ 40) σ τ' := hK
        rcases hK with ⟨k1, k2, ⟨l, k3, k4⟩, k5⟩ | ⟨k1, k2, k3, k4, k5⟩ | ⟨k1, k2, k3, k4, k5, k6⟩ | ⟨k1, k2, k3, k4⟩ | ⟨k1, k2, k3, k4, k5, k6, k7⟩
        · rw [k1]
          refine ws_i (fun _ => ws_l (ws_l (ws_l ?_))) (fun h => absurd rfl h)
          rw [hSβ.2.1]
          refine ws_b (k_addWord n hn β w (ms_E σ 40) hWβ hC r (ms_E σ 40 (72 + r)).toInt.toNat hr (by omega) (by have := hC.2.2.2.2.1 r (by omega); omega) (rd + 9) l k3 (by omega) (by omega)) (fun γ hγ => ?_)
          obtain ⟨a1, a2, a3, a4, a5, a6, a7, a8, a9⟩ := hγ
          refine hgo γ _ r ⟨a3, a4, a5, a6, a8, a9⟩ (a1 _ k4) (by unfold rG; rw [a2]; exact hGβ) (AL_adF hC hA (by have := hC.1; omega) (by have := hC.1; omega) (by have := hC.1; omega) k4) k5.symm ?_ (by rw [k5]; exact hrI) (k4.2.2.2.2 2 (by omega) (by omega) (by omega) (by omega))
          rw [k4.2.2.2.2 0 (by omega) (by omega) (by omega) (by omega)]; exact hr
        · rw [k1]
          refine ws_i (fun h => absurd h (by decide)) (fun _ => ws_i (fun _ => ws_l (ws_l ?_)) (fun h => absurd rfl h))
          exact hgo β _ (hp_I β 209 rd).toInt.toNat wfr_rf (by rw [k4]; exact hWβ) hGβ (by rw [k4]; exact hA) k5.symm (by rw [k4]; omega) (by rw [k5]; omega) (by rw [k4])
        · rw [k1]
          refine ws_i (fun h => absurd h (by decide)) (fun _ => ws_i (fun h => absurd h (by decide)) (fun _ => ws_i (fun _ => ws_l (ws_l (ws_l ?_))) (fun h => absurd rfl h)))
          refine ws_hc (k_forkLog n hn β w (ms_E σ 40) hWβ hC r (hp_I β 209 rd).toInt.toNat hr k2 (by omega) (hp_I β 209 rd) (by omega)) (fun v γ hγ => ?_)
          obtain ⟨a1, a2, a3, a4, a5, a6, a7, a8, a9⟩ := hγ
          refine hgo γ v (ms_E σ 40 0).toInt.toNat ⟨a4, a5, a6, a7, a8, a9⟩ (a2 _ k5) (by unfold rG; rw [a3]; exact hGβ) (AL_foF hC hA (by have := hC.1; omega) (by have := hC.1; omega) k5) (by rw [k6]; exact a1) ?_ (by rw [k6]; omega) (k5.2.2.2.2 2 (by omega) (by omega) (by omega) (by omega) (by omega))
          rw [k5.2.2.1, ii_add (by rw [lt1]; omega) (by rw [lt1]; omega), lt1]
          omega
        · rw [k1]
          refine ws_i (fun h => absurd h (by decide)) (fun _ => ws_i (fun h => absurd h (by decide)) (fun _ => ws_i (fun h => absurd h (by decide)) (fun _ => ws_i (fun _ => ws_l ?_) (fun h => absurd rfl h))))
          refine ws_hc (k_freezeHead n hn β w (ms_E σ 40) hWβ hC r hr k2 (ms_I σ 679) hrI) (fun v γ hγ => ?_)
          obtain ⟨a1, a2, a3, a4⟩ := hγ
          have h16 : (ms_E σ 40 3).toInt.toNat < 16 := by omega
          refine hgo γ _ r a3 (a2 _ k3) (by unfold rG; rw [a4]; exact hGβ) (AL_fzF hC hA (by have := hC.1; omega) (by have := hC.1; omega) k3) k4.symm ?_ (by rw [k4]; exact hrI) (k3.2.2.2.2.2.2.2 2 (by omega) (by omega) (by omega))
          rw [k3.2.2.2.2.2.2.2 0 (by omega) (by omega) (by omega)]; exact hr
        · rw [k1]
          refine ws_i (fun h => absurd h (by decide)) (fun _ => ws_i (fun h => absurd h (by decide)) (fun _ => ws_i (fun h => absurd h (by decide)) (fun _ => ws_i (fun h => absurd h (by decide)) (fun _ => ws_l (ws_l (ws_l (ws_l ?_)))))))
          refine ws_b (k_watcherAt n hWβ.1 (hp_I β 208 rd).toInt.toNat (by omega) (hp_I β 208 rd) (by omega)) (fun o ho => ?_)
          subst ho
          refine ws_hm (ws_l (ws_l ?_))
          refine ws_hc (k_showTo n hn β w (ms_E σ 40) hWβ hC hA hGβ (hp_I β 208 rd).toInt.toNat r (hp_I β 209 rd).toInt.toNat (by omega) hr (by omega) (hp_I β 209 rd) (by omega)) (fun v γ hγ => ?_)
          obtain ⟨a1, a2, a3, a4⟩ := hγ
          refine hgo γ _ r a3 (a2 _ k6) a4 (AL_shF hC hA (by have := hC.1; omega) k6) k7.symm ?_ (by rw [k7]; exact hrI) (k6.2.2.2.2 2 (by omega) (by omega))
          rw [k6.2.2.2.2 0 (by omega) (by omega)]; exact hr
/-! ===== a text begins ===== -/
theorem SHW_x {α β : hp_T} {w : Nat} (h : SHW α w) (eR : ∀ φ b, w ≤ b → b < w + 459 → hp_R β φ b = hp_R α φ b) (eQ : hp_Q β = hp_Q α) : SHW β w := by
  obtain ⟨a1, a2, a3, a4, a5, a6, a7, a8, a9, a10, ⟨a11, a12, a13⟩, a14, a15⟩ := h
  refine ⟨by rw [eR _ _ (by omega) (by omega)]; exact a1, by rw [eR _ _ (by omega) (by omega)]; exact a2, by rw [eR _ _ (by omega) (by omega)]; exact a3, by rw [eR _ _ (by omega) (by omega)]; exact a4, by rw [eR _ _ (by omega) (by omega)]; exact a5, by rw [eR _ _ (by omega) (by omega)]; exact a6, by rw [eQ]; exact a7, by rw [eQ]; exact a8, by rw [eQ]; exact a9, by rw [eR _ _ (by omega) (by omega)]; exact a10, ⟨by rw [eR _ _ (by omega) (by omega)]; exact a11, by rw [eR _ _ (by omega) (by omega)]; exact a12, by rw [eR _ _ (by omega) (by omega)]; exact a13⟩, fun r hr => ?_, fun i hi => ?_⟩
  · obtain ⟨b1, b2, b3⟩ := a14 r hr
    refine ⟨by rw [eR _ _ (by unfold lpA; omega) (by unfold lpA; omega)]; exact b1, by rw [eR _ _ (by unfold lpA; omega) (by unfold lpA; omega)]; exact b2, fun i hi => ⟨by rw [eQ]; exact (b3 i hi).1, by rw [eR _ _ (by unfold wdA; omega) (by unfold wdA; omega)]; exact (b3 i hi).2⟩⟩
  · exact ⟨by rw [eR _ _ (by unfold fzA; omega) (by unfold fzA; omega)]; exact (a15 i hi).1, by rw [eR _ _ (by unfold fzA; omega) (by unfold fzA; omega)]; exact (a15 i hi).2⟩
theorem WR_x {α β : hp_T} {w : Nat} {f : Nat → Int32} (h : WR α w f) (hC : rC f) (eR : ∀ φ b, w ≤ b → b < w + 459 → hp_R β φ b = hp_R α φ b) (eQ : hp_Q β = hp_Q α) (eI : ∀ φ b, w ≤ b → b < w + 459 → hp_I β φ b = hp_I α φ b) (eE : ∀ κ b j, w ≤ b → b < w + 459 → hp_E β κ b j = hp_E α κ b j) : WR β w f := by
  have h4 := hC.1.2
  have h16 := hC.2.2.2.1.2
  obtain ⟨h1, h2, h3, hF, hW, hX⟩ := h
  refine ⟨SHW_x h1 eR eQ, ⟨?_, ?_, ?_, ?_⟩, fun r hr => ?_, fun i hi => ?_, fun i hi => ?_, fun i hi => by rw [eI 301 _ (by unfold fzA; omega) (by unfold fzA; omega)]; exact hX i hi⟩
  · rw [eI 550 w (by omega) (by omega)]; exact h2.1
  · rw [eI 552 w (by omega) (by omega)]; exact h2.2.1
  · rw [eI 554 w (by omega) (by omega)]; exact h2.2.2.1
  · rw [eI 556 w (by omega) (by omega)]; exact h2.2.2.2
  · obtain ⟨a1, a2⟩ := h3 r hr
    have hs := hC.2.2.2.2.1 r (by omega)
    refine ⟨by rw [eI 152 _ (by unfold lpA; omega) (by unfold lpA; omega)]; exact a1, fun i hi => ?_⟩
    obtain ⟨⟨b1, b2, b3, b4⟩, b5⟩ := a2 i hi
    have hsh := (h1.2.2.2.2.2.2.2.2.2.2.2.1 r (by omega)).2.2 i (by omega)
    refine ⟨⟨b1, by rw [eI 501 _ (by unfold wdA; omega) (by unfold wdA; omega)]; exact b2, fun k hk => ?_, b4⟩, ?_⟩
    · rw [eR 500 _ (by unfold wdA; omega) (by unfold wdA; omega), hsh.2, eE 27 _ k (by unfold wdA; omega) (by unfold wdA; omega), ← hsh.2]; exact b3 k hk
    · rw [eE 29 _ i (by unfold lpA; omega) (by unfold lpA; omega)]; exact b5
  · obtain ⟨b1, b2, b3, b4, b5, b6⟩ := hF i hi
    refine ⟨?_, ?_, ?_, ?_, ?_, fun k hk => ?_⟩
    · rw [eI 100 _ (by unfold fzA; omega) (by unfold fzA; omega)]; exact b1
    · rw [eI 101 _ (by unfold fzA; omega) (by unfold fzA; omega)]; exact b2
    · rw [eI 102 _ (by unfold fzA; omega) (by unfold fzA; omega)]; exact b3
    · rw [eI 103 _ (by unfold fzA; omega) (by unfold fzA; omega)]; exact b4
    · rw [eI 301 _ (by unfold fzA; omega) (by unfold fzA; omega)]; exact b5
    · rw [eE 20 _ k (by unfold fzA; omega) (by unfold fzA; omega)]; exact b6 k hk
  · obtain ⟨b1, b2, b3, b4⟩ := hW i hi
    refine ⟨?_, ?_, ?_, ?_⟩
    · rw [eI 400 _ (by unfold wtA; omega) (by unfold wtA; omega)]; exact b1
    · rw [eI 401 _ (by unfold wtA; omega) (by unfold wtA; omega)]; exact b2
    · rw [eI 403 _ (by unfold wtA; omega) (by unfold wtA; omega)]; exact b3
    · rw [eI 402 _ (by unfold wtA; omega) (by unfold wtA; omega)]; exact b4
/-- cells that are alike below 1980 -/
theorem WR_cg {α : hp_T} {w : Nat} {f g : Nat → Int32} (h : WR α w f) (hC : rC f) (e : ∀ j, j < 1980 → g j = f j) : WR α w g := by
  have h4 := hC.1.2
  have h16 := hC.2.2.2.1.2
  obtain ⟨h1, h2, h3, hF, hW, hX⟩ := h
  have e0 := e 0 (by omega)
  have e3 := e 3 (by omega)
  refine ⟨h1, by rw [e 1 (by omega), e0, e3, e 4 (by omega)]; exact h2, fun r hr => ?_, fun i hi => ?_, fun i hi => ?_, hX⟩
  · rw [e0] at hr
    obtain ⟨a1, a2⟩ := h3 r hr
    have hs := hC.2.2.2.2.1 r (by omega)
    rw [e (72 + r) (by omega)]
    refine ⟨a1, fun i hi => ?_⟩
    have hq := hC.2.2.2.2.2.2.2.2 (48 * r + i) (by omega)
    obtain ⟨b1, b2⟩ := a2 i hi
    have k1 := e (252 + (48 * r + i)) (by omega)
    have k2 : ∀ k, k < (f (252 + (48 * r + i))).toInt.toNat → g (444 + 8 * (48 * r + i) + k) = f (444 + 8 * (48 * r + i) + k) := fun k hk => e _ (by omega)
    exact ⟨by rw [ltr_c k1 k2]; exact b1, by rw [EM_c (e 1 (by omega)) k1 k2]; exact b2⟩
  · rw [e3] at hi
    obtain ⟨b1, b2, b3, b4, b5, b6⟩ := hF i hi
    have hp := hC.2.2.2.2.2.2.2.1 i (by omega)
    have hpk : pkn (f (93 + 10 * i)).toInt.toNat ≤ 6 := by unfold pkn; omega
    rw [← e (92 + 10 * i) (by omega)] at b1
    refine ⟨b1, by rw [e (93 + 10 * i) (by omega)]; exact b2, by rw [e (94 + 10 * i) (by omega)]; exact b3, by rw [e (95 + 10 * i) (by omega)]; exact b4, by rw [e (93 + 10 * i) (by omega)]; exact b5, fun k hk => ?_⟩
    rw [e (93 + 10 * i) (by omega)] at hk
    rw [e (96 + 10 * i + k) (by omega)]
    exact b6 k hk
  · obtain ⟨b1, b2, b3, b4⟩ := hW i hi
    exact ⟨by rw [e (76 + 4 * i) (by omega)]; exact b1, by rw [e (77 + 4 * i) (by omega)]; exact b2, by rw [e (78 + 4 * i) (by omega)]; exact b3, by rw [e (79 + 4 * i) (by omega)]; exact b4⟩
/-- what reading begins with -/
def bfr (rd tp : Nat) (α β : hp_T) : Prop := (∀ φ b, ¬ (φ = 350 ∧ b = rd + 1) → hp_R β φ b = hp_R α φ b) ∧ hp_R β 350 (rd + 1) = tp ∧ hp_K β = hp_K α ∧ hp_Q β = hp_Q α ∧ hp_N β = hp_N α ∧ (∀ φ b, b < rd ∨ rd + 11 ≤ b → hp_I β φ b = hp_I α φ b) ∧ ∀ κ b j, hp_E β κ b j = hp_E α κ b j
theorem r_begin9 (n : Nat) (hn : 70000 ≤ n) {α : hp_T} {rd tp N : Nat} {t : Nat → Int32} (hR : hp_R α 200 rd = rd + 1) (hK : hp_K α tp = 24) (hN : N ≤ 900) (nI : Int32) (hnI : nI.toInt = (N : Int)) (ht : ∀ j, j < N → hp_E α 24 tp j = t j) : ws (f_X3_begin n α rd tp nI) (fun β => ((∀ σ τ, (∀ j, j < N → ms_E σ 47 j = t j) → f_X12_begins n σ nI = some τ → TOK β rd τ t N (tkP t N 0) ∧ fr [670, 672, 673, 674, 675, 676] [] σ τ) ∧ hp_I β 204 rd = 0 ∧ hp_I β 205 rd = -1 ∧ bfr rd tp α β) ∧ ∀ b, hp_I β 301 b = hp_I α 301 b) := by
  have t900 := t_900
  unfold f_X3_begin
  refine ws_l (ws_l (ws_l ?_))
  unfold f_X6_begin
  have hR1 : hp_R (hp_sI (hp_sI α 204 rd 0) 205 rd (-1)) 200 rd = rd + 1 := hR
  rw [hR1]
  have hmax : ws (f_J9_max_7cf53 n 0 nI) (fun r => r = nI) := by
    unfold f_J9_max_7cf53
    refine ws_lt (fun _ => ws_s rfl) (fun h => ws_s (Int32.toInt_inj.mp ?_))
    rw [lt0] at h ⊢
    omega
  refine ws_b (S := fun β => β = hp_sI (hp_sI (hp_sR (hp_sI (hp_sI α 204 rd 0) 205 rd (-1)) 350 (rd + 1) tp) 351 (rd + 1) nI) 352 (rd + 1) 0) ?_ (fun β hβ => ?_)
  · refine ws_l (ws_b (k_min n nI 900 (by omega)) (fun r hr => ?_))
    subst hr
    refine ws_b hmax (fun r2 hr2 => ?_)
    subst hr2
    exact ws_l (ws_l (ws_s rfl))
  · refine ws_l ?_
    have bR : ∀ φ b, hp_R β φ b = if φ = 350 ∧ b = rd + 1 then tp else hp_R α φ b := fun φ b => by rw [hβ]; exact hR_sR
    have bE : ∀ κ b j, hp_E β κ b j = hp_E α κ b j := fun κ b j => by rw [hβ]; rfl
    have bK : hp_K β = hp_K α := by rw [hβ]; rfl
    have bI : ∀ φ b, hp_I β φ b = if φ = 352 ∧ b = rd + 1 then 0 else if φ = 351 ∧ b = rd + 1 then nI else if φ = 205 ∧ b = rd then -1 else if φ = 204 ∧ b = rd then 0 else hp_I α φ b := fun φ b => by rw [hβ]; rfl
    have bR2 : hp_R β 200 rd = rd + 1 := by rw [bR, if_neg (fun h => absurd h.1 (by decide))]; exact hR
    have hSB : SB β (rd + 1) t N := by
      refine ⟨hN, by rw [bI, if_neg (fun h => absurd h.1 (by decide)), if_pos ⟨rfl, rfl⟩]; exact hnI, by rw [bR, if_pos ⟨rfl, rfl⟩, bK]; exact hK, fun j hj => by rw [bR, if_pos ⟨rfl, rfl⟩, bE]; exact ht j hj⟩
    rw [bR2]
    refine ws_b (k_advance n hn (p := 0) hSB (by omega) (by rw [bI, if_pos ⟨rfl, rfl⟩]; decide)) (fun γ hγ => ws_s ?_)
    obtain ⟨g1, g2, g3, g4, g5, g6, g7⟩ := hγ
    refine ⟨⟨fun σ τ hσ e => ?_, ?_, ?_, ?_, ?_, by rw [g3]; exact bK, by rw [g4, hβ]; rfl, by rw [g5, hβ]; rfl, fun φ b hb => ?_, fun κ b j => by rw [g6]; exact bE κ b j⟩, fun b => ?_⟩
    · unfold f_X12_begins at e
      replace e := ms_lE rfl (ms_lE rfl (ms_lE rfl e))
      replace e := ms_bE e
      obtain ⟨υ, e1, e⟩ := e
      cases e
      have hRB : RB (ms_sI (ms_sI (ms_sI σ 676 nI) 673 0) 670 0) t N := ⟨hN, hnI, hσ⟩
      obtain ⟨r1, r2⟩ := v_reads n (p := 0) hRB (by omega) (by rw [mI_sI, if_neg (by decide), mI_sI, if_pos rfl]; decide) _ e1
      refine ⟨⟨tkP_le t (by omega), ?_, ?_, RB_rf hRB r2, r1, by rw [r2.1 670 (by decide)]; rfl⟩, fr_tr (fr_tr (fr_tr (fr_sI (by decide)) (fr_sI (by decide))) (fr_sI (by decide))) (fr_sb r2 (by decide) (by decide))⟩
      · rw [g2, bR2]; exact SB_sf hSB ⟨g2, g3, g4, g5, g6, g7⟩
      · rw [g2, bR2]; exact g1
    · rw [g7 204 rd (by omega), bI, if_neg (fun h => absurd h.1 (by decide)), if_neg (fun h => absurd h.1 (by decide)), if_neg (fun h => absurd h.1 (by decide)), if_pos ⟨rfl, rfl⟩]
    · rw [g7 205 rd (by omega), bI, if_neg (fun h => absurd h.1 (by decide)), if_neg (fun h => absurd h.1 (by decide)), if_pos ⟨rfl, rfl⟩]
    · intro φ b hφ; rw [g2, bR, if_neg hφ]
    · rw [g2, bR, if_pos ⟨rfl, rfl⟩]
    · rw [g7 φ b (by omega), bI, if_neg (by omega), if_neg (by omega), if_neg (by omega), if_neg (by omega)]
    · rw [g7 301 b (by omega), bI, if_neg (by omega), if_neg (by omega), if_neg (by omega), if_neg (by omega)]
theorem r_begin (n : Nat) (hn : 70000 ≤ n) {α : hp_T} {rd tp N : Nat} {t : Nat → Int32} (hR : hp_R α 200 rd = rd + 1) (hK : hp_K α tp = 24) (hN : N ≤ 900) (nI : Int32) (hnI : nI.toInt = (N : Int)) (ht : ∀ j, j < N → hp_E α 24 tp j = t j) : ws (f_X3_begin n α rd tp nI) (fun β => (∀ σ τ, (∀ j, j < N → ms_E σ 47 j = t j) → f_X12_begins n σ nI = some τ → TOK β rd τ t N (tkP t N 0) ∧ fr [670, 672, 673, 674, 675, 676] [] σ τ) ∧ hp_I β 204 rd = 0 ∧ hp_I β 205 rd = -1 ∧ bfr rd tp α β) :=
  ws_m (r_begin9 n hn hR hK hN nI hnI ht) (fun _ h => h.1)
/-- mod NUMBER ; or nothing -/
theorem r_modulus (n : Nat) (hn : 70000 ≤ n) {α : hp_T} {rd w : Nat} {σ : ms_T} {t : Nat → Int32} {N q : Nat} (hS : RS α rd) (hT : TOK α rd σ t N q) (hwr : w ≠ rd ∧ w ≠ rd + 1) (res : Int32 × ms_T)
    (e : (ms_b (f_X12_isWord n σ (0 : Int32)) fun rh10 => if rh10 = 0 then f_X12_load_L97 n n σ else ms_b (f_X12_reads n σ) fun σh26 => ms_c (f_X12_takesNumber n σh26 (101 : Int32) (65521 : Int32)) fun rh27 σh27 => ms_g (1 : Int32) 1980 <| ms_l (ms_sE σh27 40 ((1 : Int32)).toNatClampNeg rh27) fun σh29 => ms_b (f_X12_takesEnd n σh29) fun σh30 => f_X12_load_L97 n n σh30) = some res) :
    ws (f_X3_readModulus n α rd w) (fun a => ∃ τ, f_X12_load_L97 n n τ = some res ∧ fr FW [40] σ τ ∧ ms_I τ 679 = ms_I σ 679 ∧ ((a.1 = 0 ∧ rfr rd α a.2 ∧ BAD a.2 rd τ) ∨ (a.1 = 1 ∧ KF rd α a.2 ∧ (∃ q', TOK a.2 rd τ t N q') ∧ ((a.2 = α ∧ τ = σ) ∨ ∃ m : Int32, (101 ≤ m.toInt ∧ m.toInt ≤ 65521) ∧ rfr rd (hp_sI α 550 w m) a.2 ∧ ms_E τ 40 1 = m ∧ ∀ j, j ≠ 1 → ms_E τ 40 j = ms_E σ 40 j)))) := by
  obtain ⟨q1, q2, q3, q4, q5, q6⟩ := id hT
  replace e := ms_bE e
  obtain ⟨x0, ex0, e⟩ := e
  have i0 := v_isW n hT 0 (by decide) 0 (by decide) ex0
  unfold f_X3_readModulus
  have t1 : ((1 : Int32)).toNatClampNeg = 1 := by decide
  refine ws_l (wk_bo (k_spells n hn (i := 17) (by decide) q2 q3 q1) (fun hno => ?_) (fun hyes => ?_))
  · rw [if_pos (i0.2 hno)] at e
    exact ws_s ⟨σ, e, fr_rf, rfl, Or.inr ⟨rfl, ⟨rfl, rfl⟩, ⟨q, hT⟩, Or.inl ⟨rfl, rfl⟩⟩⟩
  · rw [if_neg (by rw [i0.1 hyes]; decide)] at e
    have hqN : q < N := q_lt hyes.1 (by decide)
    replace e := ms_bE e
    obtain ⟨σ1, e1, e⟩ := e
    obtain ⟨hP1, hg1⟩ := r_reads n hT hqN σ1 e1
    replace e := ms_cE e
    obtain ⟨v, σ2, e2, e⟩ := e
    replace e := ms_gE e
    obtain ⟨-, e⟩ := e
    replace e := ms_lE rfl e
    rw [t1] at e
    replace e := ms_bE e
    obtain ⟨σ3, e3, e⟩ := e
    refine ws_hc (r_number n hn hP1 101 65521 101 65521 (fun _ _ _ => Iff.rfl)) (fun a β hab => ?_)
    obtain ⟨hf2, hg2, hc⟩ := hab _ e2
    rw [hS.1] at hf2
    have hgg : fr FW [40] σ (ms_sE σ2 40 1 v) := fr_tr (fr_sb (fr_tr hg1 hg2) (by decide) (by decide)) (fr_sE (by decide))
    have h679 : ms_I (ms_sE σ2 40 1 v) 679 = ms_I σ 679 := by rw [mI_sE, hg2.1 679 (by decide), hg1.1 679 (by decide)]
    rcases hc with ⟨rfl, ⟨p2, hlt2, hP2⟩, ev, v0, v1, v2, v3, hk2⟩ | ⟨rfl, hB⟩
    · refine ws_i (fun h => absurd h (by decide)) (fun _ => ?_)
      have eR2 : hp_R β 200 rd = rd + 1 := by rw [hf2.1]; exact hS.1
      have hP2' : PRE β rd (ms_sE σ2 40 1 v) t N p2 := PRE_fr (wI := []) (wE := [40]) hP2 (fr_sE (by decide)) (by decide) (by decide) rfl
      refine ws_hc (r_sign n hn hP2') (fun a3 γ h3 => ?_)
      obtain ⟨hf3, hg3, hc3⟩ := h3 _ e3
      rw [eR2] at hf3
      have hfr3 : fr FW [40] σ σ3 := fr_tr hgg (fr_sb hg3 (by decide) (by decide))
      have h6793 : ms_I σ3 679 = ms_I σ 679 := by rw [hg3.1 679 (by decide)]; exact h679
      rcases hc3 with ⟨rfl, ⟨p3, hlt3, hP3⟩, hk3⟩ | ⟨rfl, hB⟩
      · refine ws_i (fun h => absurd h (by decide)) (fun _ => ws_l (ws_l (ws_l ?_)))
        have i209 : hp_I γ 209 rd = v := by rw [hk3 209 (by decide)]; exact ev
        rw [i209]
        have eR3 : hp_R γ 200 rd = rd + 1 := by rw [hf3.1, hf2.1]; exact hS.1
        have hP4 : PRE (hp_sI γ 550 w v) rd σ3 t N p3 := by
          have hx : ∀ φ, φ < 550 → ∀ b, hp_I (hp_sI γ 550 w v) φ b = hp_I γ φ b := fun φ hφ b => by rw [hI_sI, if_neg (fun h => by omega)]
          exact PRE_rdf hP3 rfl rfl rfl (hx 351 (by decide) _) (hx 352 (by decide) _)
        refine ws_b (r_adv n hn hP4) (fun δ hδ => ws_s ?_)
        obtain ⟨hT5, hf5, hk5⟩ := hδ
        have eR4 : hp_R (hp_sI γ 550 w v) 200 rd = rd + 1 := eR3
        rw [eR4] at hf5
        have hF : rfr rd (hp_sI α 550 w v) δ := by
          have hrf := rfr_tr (rfr_rdf hf2) (rfr_rdf hf3)
          refine rfr_tr (β := hp_sI γ 550 w v) ⟨hrf.1, hrf.2.1, hrf.2.2.1, hrf.2.2.2.1, fun φ b hb => ?_, hrf.2.2.2.2.2⟩ (rfr_rdf hf5)
          rw [hI_sI, hI_sI, hrf.2.2.2.2.1 φ b hb]
        refine ⟨σ3, e, hfr3, h6793, Or.inr ⟨rfl, ?_, ⟨_, hT5⟩, Or.inr ⟨v, ⟨v2, v3⟩, hF, ?_, ?_⟩⟩⟩
        · have hx : ∀ φ, φ < 350 → φ ≠ 209 → hp_I δ φ rd = hp_I α φ rd := fun φ h1 h2 => by
            rw [hk5 φ h1 rd, hI_sI, if_neg (fun h => by omega), hk3 φ h1]
            exact hk2 φ h1 h2
          exact KF_n hx
        · rw [hg3.2 40 (by decide) 1, mE_sE, if_pos ⟨rfl, rfl⟩]
        · intro j hj
          rw [hg3.2 40 (by decide) j, mE_sE, if_neg (fun h => hj h.2), hg2.2 40 (by decide) j, hg1.2 40 (by decide) j]
      · exact ws_i (fun _ => ws_s ⟨σ3, e, hfr3, h6793, Or.inl ⟨rfl, rfr_tr (rfr_rdf hf2) (rfr_rdf hf3), hB⟩⟩) (fun h => absurd rfl h)
    · have hB' : BAD β rd (ms_sE σ2 40 1 v) := BAD_m (σ := σ2) hB rfl rfl
      have hb : BB (ms_sE σ2 40 1 v) σ3 := v_takesEnd_B n (ms_sE σ2 40 1 v) hB'.1 _ e3
      exact ws_i (fun _ => ws_s ⟨σ3, e, fr_tr hgg (fr_sb hb.2.2 (by decide) (by decide)), by rw [hb.2.2.1 679 (by decide)]; exact h679, Or.inl ⟨rfl, rfr_rdf hf2, BAD_B hB' hb⟩⟩) (fun h => absurd rfl h)
