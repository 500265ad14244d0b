section JN10_0
set_option maxRecDepth 100000
/-! ===== the lines of a text, one behind another ===== -/
theorem r_aft (n : Nat) (hn : 70000 ≤ n) {α : hp_T} {rd w r : Nat} {f : Nat → Int32} {σ τ : ms_T} {t : Nat → Int32} {N q : Nat} (hS : RS α rd) (a : Int32 × hp_T) (ha : rfr rd α a.2 ∧ ((a.1 = 0 ∧ BAD a.2 rd τ) ∨ (a.1 = 1 ∧ (∃ p, q < p ∧ PRE a.2 rd τ t N p) ∧ LNK a.2 rd w r f σ τ ∧ KF rd α a.2))) : ws (f_X3_readLine_J197 n rd a.2 a.1) (LNR α rd w r f σ τ t N q) := by
  obtain ⟨a1, a2⟩ := a
  obtain ⟨hF, ⟨h0, hB⟩ | ⟨h1, ⟨p, hp, hP⟩, hK, hKF⟩⟩ := ha
  · dsimp only at h0
    subst h0
    exact r_bad n hF hB
  · dsimp only at h1
    subst h1
    refine r_fin n hn hS hF hp hP hKF (fun γ hg hl => ?_)
    rcases hK with ⟨k1, k2, ⟨l, k3, k4⟩, k5⟩ | k | k | k | k
    · exact Or.inl ⟨by rw [hl 206 (by decide)]; exact k1, k2, ⟨l, WD_rdf k3 hg, k4⟩, k5⟩
    · refine Or.inr (Or.inl ?_)
      rw [hl 206 (by decide), hl 209 (by decide)]; exact k
    · refine Or.inr (Or.inr (Or.inl ?_))
      rw [hl 206 (by decide), hl 209 (by decide)]; exact k
    · refine Or.inr (Or.inr (Or.inr (Or.inl ?_)))
      rw [hl 206 (by decide)]; exact k
    · refine Or.inr (Or.inr (Or.inr (Or.inr ?_)))
      rw [hl 206 (by decide), hl 208 (by decide), hl 209 (by decide)]; exact k
theorem v_isW (n : Nat) {α : hp_T} {rd : Nat} {σ : ms_T} {t : Nat → Int32} {N q : Nat} (hT : TOK α rd σ t N q) (w : Nat) (hw : w < 12) (wI : Int32) (hwI : wI.toInt = (w : Int)) {x : Int32} (ex : f_X12_isWord n σ wI = some x) : (spl t N q (wtx w) → x = 1) ∧ (¬ spl t N q (wtx w) → x = 0) := by
  have hN := hT.2.1.1
  have hq := hT.1
  rcases v_isWord n hT.2.2.2.2.1 (by omega) hN w hw wI hwI x ex with ⟨h, g⟩ | ⟨h, g⟩
  · exact ⟨fun _ => h, fun k => absurd g.2 k⟩
  · exact ⟨fun k => absurd ⟨hT.2.2.2.2.2, k⟩ g, fun _ => h⟩
theorem r_line (n : Nat) (hn : 70000 ≤ n) {α : hp_T} {rd w r : Nat} {f : Nat → Int32} {σ τ : ms_T} {t : Nat → Int32} {N q : Nat} (hS : RS α rd) (hT : TOK α rd σ t N q) (hqN : q < N) (hW : WR α w f) (hf : ms_E σ 40 = f) (hC : rC f) (hr : r < (f 0).toInt.toNat) (hrI : (ms_I σ 679).toInt = (r : Int)) (e : f_X12_line n σ = some τ) :
    ws (f_X3_readLine n α rd w (lpA w r)) (LNR α rd w r f σ τ t N q) := by
  obtain ⟨q1, q2, q3, q4, q5, q6⟩ := id hT
  unfold f_X12_line at e
  unfold f_X3_readLine
  replace e := ms_bE e
  obtain ⟨x1, ex1, e⟩ := e
  have i1 := v_isW n hT 1 (by decide) 1 (by decide) ex1
  refine ws_l (wk_bo (k_spells n hn (i := 7) (by decide) q2 q3 q1) (fun hno1 => ?_) (fun hyes => ?_))
  · rw [if_pos (i1.2 hno1)] at e
    replace e := ms_bE e
    obtain ⟨x2, ex2, e⟩ := e
    have i2 := v_isW n hT 2 (by decide) 2 (by decide) ex2
    refine ws_l (wk_bo (k_spells n hn (i := 20) (by decide) q2 q3 q1) (fun hno2 => ?_) (fun hyes => ?_))
    · rw [if_pos (i2.2 hno2)] at e
      replace e := ms_bE e
      obtain ⟨x3, ex3, e⟩ := e
      have i3 := v_isW n hT 3 (by decide) 3 (by decide) ex3
      refine ws_l (wk_bo (k_spells n hn (i := 9) (by decide) q2 q3 q1) (fun hno3 => ?_) (fun hyes => ?_))
      · rw [if_pos (i3.2 hno3)] at e
        replace e := ms_bE e
        obtain ⟨x4, ex4, e⟩ := e
        have i4 := v_isW n hT 4 (by decide) 4 (by decide) ex4
        refine ws_l (wk_bo (k_spells n hn (i := 10) (by decide) q2 q3 q1) (fun hno4 => ?_) (fun hyes => ?_))
        · rw [if_pos (i4.2 hno4)] at e
          refine ws_l (wk_bo (k_spells n hn (i := 19) (by decide) q2 q3 q1) (fun hno5 => ?_) (fun hyes => ?_))
          · replace e := ms_bE e
            obtain ⟨σ1, e1, e⟩ := e
            unfold f_X12_takes at e1
            replace e1 := ms_bE e1
            obtain ⟨x5, ex5, e1⟩ := e1
            have i5 := (v_isW n hT 5 (by decide) 5 (by decide) ex5).2 hno5
            subst i5
            refine ws_hc (k_stray n q3) (fun r2 γ hr2 => ?_)
            obtain ⟨g1, g2, g3, g4⟩ := hr2
            rw [hS.1] at g4
            have hB1 : BAD γ rd σ1 := r_must n hT 0 (Or.inl rfl) (fun h => absurd h (by decide)) (R := ms_T) (fun τ => BAD γ rd τ) (fun h => absurd h (by decide)) (fun _ τ t1 t2 t3 t4 => ⟨t1, by rw [g2, t2], Int32.toInt_inj.mp (by rw [g3, t3])⟩) σ1 e1
            replace e := ms_cE e
            obtain ⟨v, σ2, e2, e⟩ := e
            replace e := ms_bE e
            obtain ⟨sz, -, e⟩ := e
            replace e := ms_cE e
            obtain ⟨u, σ3, e3, e⟩ := e
            replace e := ms_bE e
            obtain ⟨σ4, e4, e⟩ := e
            have hB2 : BAD γ rd σ2 := BAD_B hB1 (v_takesNumber_B n _ _ _ hB1.1 _ e2)
            have hB3 : BAD γ rd σ3 := BAD_B hB2 (v_takesNumber_B n _ _ _ hB2.1 _ e3)
            have hB4 := BAD_B hB3 (v_takesEnd_B n _ hB3.1 _ e4)
            rw [if_neg (BAD_p hB4)] at e
            cases e
            dsimp only at g1
            subst g1
            exact r_bad n (rfr_rdf g4) hB4
          · exact r_showL n hn hS hT hqN hW hf hC hr hrI hyes e
        · rw [if_neg (by rw [i4.1 hyes]; decide)] at e
          exact r_freezeL n hn hS hT hqN hW hf hC hr hrI e
      · rw [if_neg (by rw [i3.1 hyes]; decide)] at e
        replace e := ms_bE e
        obtain ⟨σ1, e1, e⟩ := e
        cases e
        exact r_forkL n hn hS hT hqN hW hf hC hr hrI e1
    · rw [if_neg (by rw [i2.1 hyes]; decide)] at e
      exact r_toL n hn hS hT hqN hW hf hC hr e
  · rw [if_neg (by rw [i1.1 hyes]; decide)] at e
    replace e := ms_bE e
    obtain ⟨σ1, e1, e⟩ := e
    cases e
    exact ws_hc (r_addR n hn hS hT hqN hW hf hC hr hrI e1) (fun a β h => r_aft n hn hS (a, β) h)
/-- only a world's and a reader's cells change -/
def lfr (w rd : Nat) (α β : hp_T) : Prop := hp_R β = hp_R α ∧ hp_K β = hp_K α ∧ hp_Q β = hp_Q α ∧ hp_N β = hp_N α ∧ (∀ φ b, b < w ∨ w + 459 ≤ b → b < rd ∨ rd + 11 ≤ b → hp_I β φ b = hp_I α φ b) ∧ ∀ κ b j, b < w ∨ w + 459 ≤ b → b < rd ∨ rd + 11 ≤ b → hp_E β κ b j = hp_E α κ b j
theorem lfr_rf {w rd : Nat} {α : hp_T} : lfr w rd α α := ⟨rfl, rfl, rfl, rfl, fun _ _ _ _ => rfl, fun _ _ _ _ _ => rfl⟩
theorem lfr_tr {w rd : Nat} {α β γ : hp_T} (h : lfr w rd α β) (g : lfr w rd β γ) : lfr w rd α γ := by
  obtain ⟨h1, h2, h3, h4, h5, h6⟩ := h
  obtain ⟨g1, g2, g3, g4, g5, g6⟩ := g
  exact ⟨g1.trans h1, g2.trans h2, g3.trans h3, g4.trans h4, fun φ b p q => (g5 φ b p q).trans (h5 φ b p q), fun κ b j p q => (g6 κ b j p q).trans (h6 κ b j p q)⟩
theorem lfr_w {w rd : Nat} {α β : hp_T} (h : wfr w α β) : lfr w rd α β := ⟨h.1, h.2.1, h.2.2.1, h.2.2.2.1, fun φ b p _ => h.2.2.2.2.1 φ b p, fun κ b j p _ => h.2.2.2.2.2 κ b j p⟩
theorem lfr_r {w rd : Nat} {α β : hp_T} (h : rfr rd α β) : lfr w rd α β := ⟨h.1, h.2.1, h.2.2.1, h.2.2.2.1, fun φ b _ p => h.2.2.2.2.1 φ b p, fun κ b j _ p => h.2.2.2.2.2 κ b j p⟩
theorem TOK_wfr {α β : hp_T} {w rd N q : Nat} {σ : ms_T} {t : Nat → Int32} (h : TOK α rd σ t N q) (hR : hp_R α 200 rd = rd + 1) (g : wfr w α β) (hw : w + 459 ≤ rd) (ht : w + 459 ≤ hp_R α 350 (rd + 1)) : TOK β rd σ t N q := by
  obtain ⟨h1, h2, h3, h4⟩ := h
  rw [hR] at h2 h3
  obtain ⟨g1, g2, g3, g4, g5, g6⟩ := g
  have e : ∀ φ, hp_I β φ (rd + 1) = hp_I α φ (rd + 1) := fun φ => g5 φ _ (by omega)
  refine ⟨h1, ?_, ?_, h4⟩
  · rw [g1, hR]
    exact ⟨h2.1, by rw [e]; exact h2.2.1, by rw [g1, g2]; exact h2.2.2.1, fun j hj => by rw [g1, g6 _ _ _ (by omega)]; exact h2.2.2.2 j hj⟩
  · rw [g1, hR]
    obtain ⟨k1, k2, k3, k4, k5⟩ := h3
    exact ⟨by rw [e]; exact k1, by rw [e]; exact k2, by rw [e]; exact k3, by rw [e]; exact k4, fun q => by rw [e]; exact k5 q⟩
theorem PI_TOK {α : hp_T} {rd : Nat} {σ : ms_T} {t : Nat → Int32} {N q : Nat} (h : TOK α rd σ t N q) : PI σ := by
  obtain ⟨h1, -, -, h4, h5, h6⟩ := h
  have hN := h4.1
  have h676 := h4.2.1
  have h672 := h5.1
  have h673 := h5.2.2.1
  have hlt : q < tkN t N q ∧ (q < N → tkN t N q ≤ N) := by
    by_cases hq : q < N
    · have := tkN_le t hq
      exact ⟨by omega, fun _ => this.2⟩
    · refine ⟨?_, fun h => absurd h hq⟩
      unfold tkN
      rw [if_pos (by omega)]
      omega
  refine ⟨⟨by omega, by omega⟩, by omega, by omega, fun h => ?_, by rw [h6]; decide⟩
  have : q < N := by
    refine Nat.lt_of_not_le (fun hq => h ?_)
    rw [h5.2.1]
    unfold tkS tkK
    rw [if_pos hq, if_neg (fun e => absurd e.1 (by decide))]
    decide
  have := hlt.2 this
  omega
theorem AL_eq {f g : Nat → Int32} (hC : rC f) (h : AL01 f) (e0 : g 0 = f 0) (e3 : g 3 = f 3) (e : ∀ j, 72 ≤ j → j < 252 → g j = f j) : AL01 g :=
  ⟨fun v hv => by rw [e _ (by omega) (by omega)]; exact h.1 v hv, FRI_e hC h.2 (by rw [e0]; omega) e3 (fun r hr => by have := hC.1; rw [e _ (by omega) (by omega)]; omega) (fun i hi => ⟨e _ (by omega) (by omega), e _ (by omega) (by omega)⟩)⟩
theorem AL_adF {f g : Nat → Int32} {r s : Nat} {l : List Int32} (hC : rC f) (h : AL01 f) (hr : r < 4) (hs : (f (72 + r)).toInt < 48) (hs2 : s < 48) (hg : adF f r s l g) : AL01 g := by
  obtain ⟨-, -, g3, -, g5⟩ := hg
  have h4 := hC.1
  refine ⟨fun v hv => by rw [g5 _ (by omega) (by omega) (by omega) (by omega)]; exact h.1 v hv, FRI_e hC h.2 (by rw [g5 0 (by omega) (by omega) (by omega) (by omega)]; omega) (g5 3 (by omega) (by omega) (by omega) (by omega)) (fun q hq => ?_) (fun i hi => ⟨g5 _ (by omega) (by omega) (by omega) (by omega), g5 _ (by omega) (by omega) (by omega) (by omega)⟩)⟩
  by_cases e : q = r
  · rw [e, g3, iw_add, lt1]
    have := hC.2.2.2.2.1 r hr
    omega
  · rw [g5 _ (by omega) (by omega) (by omega) (by omega)]; omega
theorem AL_foF {f g : Nat → Int32} {r t n : Nat} (hC : rC f) (h : AL01 f) (ht : (t : Int) = (f 0).toInt) (ht4 : t < 4) (hg : foF f r t n g) : AL01 g := by
  obtain ⟨-, -, g0, -, g5⟩ := hg
  have h4 := hC.1
  refine ⟨fun v hv => by rw [g5 _ (by omega) (by omega) (by omega) (by omega) (by omega)]; exact h.1 v hv, FRI_e hC h.2 (by rw [g0, iw_add, lt1]; omega) (g5 3 (by omega) (by omega) (by omega) (by omega) (by omega)) (fun q hq => by rw [g5 _ (by omega) (by omega) (by omega) (by omega) (by omega)]; omega) (fun i hi => ⟨g5 _ (by omega) (by omega) (by omega) (by omega) (by omega), g5 _ (by omega) (by omega) (by omega) (by omega) (by omega)⟩)⟩
theorem AL_fzF {f g : Nat → Int32} {r : Nat} (hC : rC f) (h : AL01 f) (hr : (r : Int) < (f 0).toInt) (hi : (f 3).toInt < 16) (hg : frF f r (f 3).toInt.toNat g) : AL01 g := by
  obtain ⟨g1, g2, -, -, -, g3, -, g5⟩ := hg
  have h4 := hC.1
  have h3 := hC.2.2.2.1
  have e0 := g5 0 (by omega) (by omega) (by omega)
  have e7 : ∀ q, q < 4 → g (72 + q) = f (72 + q) := fun q hq => g5 _ (by omega) (by omega) (by omega)
  refine ⟨fun v hv => by rw [g5 _ (by omega) (by omega) (by omega)]; exact h.1 v hv, fun i hi2 => ?_⟩
  rw [g3, iw_add, lt1] at hi2
  by_cases e : i = (f 3).toInt.toNat
  · rw [e, g2, g1, Int.toNat_natCast, e0, e7 r (by omega)]
    exact ⟨hr, by omega⟩
  · obtain ⟨b1, b2⟩ := h.2 i (by omega)
    have b0 := (hC.2.2.2.2.2.2.1 i (by omega)).1
    rw [g5 (92 + 10 * i) (by omega) (by omega) (by omega), g5 (93 + 10 * i) (by omega) (by omega) (by omega), e0, e7 _ (by omega)]
    exact ⟨b1, b2⟩
theorem AL_shF {f g : Nat → Int32} (hC : rC f) (h : AL01 f) {v r N : Nat} (hv : v < 4) (hs : shF f v r N g) : AL01 g := by
  obtain ⟨-, g2, -, -, g5⟩ := hs
  have h4 := hC.1
  refine ⟨fun u hu => ?_, FRI_e hC h.2 (by rw [g5 0 (by omega) (by omega)]; omega) (g5 3 (by omega) (by omega)) (fun q hq => by rw [g5 (72 + q) (by omega) (by omega)]; omega) (fun i hi => ⟨g5 _ (by omega) (by omega), g5 _ (by omega) (by omega)⟩)⟩
  by_cases e : u = v
  · subst e
    rw [g2]
    split
    · exact h.1 u hu
    · exact Or.inr rfl
  · rw [g5 (78 + 4 * u) (by omega) (by omega)]
    exact h.1 u hu/-! ===== the loop of lines ===== -/
def LDI (x w rd : Nat) (t : Nat → Int32) (N : Nat) (α : hp_T) (σ : ms_T) (r q : Nat) : Prop := (RS α rd ∧ hp_R α 616 x = rd ∧ hp_R α 602 x = w ∧ w + 459 ≤ rd ∧ w + 459 ≤ hp_R α 350 (rd + 1)) ∧ TOK α rd σ t N q ∧ (WR α w (ms_E σ 40) ∧ rC (ms_E σ 40) ∧ AL01 (ms_E σ 40) ∧ rG α w) ∧ r < (ms_E σ 40 0).toInt.toNat ∧ (ms_I σ 679).toInt = (r : Int)
def UOK (α : hp_T) (u : Nat) : Prop := SHW α u ∧ rG α u ∧ ∀ i, i < 16 → 0 ≤ (hp_I α 301 (fzA u i + 1)).toInt ∧ (hp_I α 301 (fzA u i + 1)).toInt ≤ 64
def LDP (n w rd : Nat) (α : hp_T) (σ : ms_T) (res : Int32 × ms_T) (a : Int32 × hp_T) : Prop := lfr w rd α a.2 ∧ ∃ τ, fr FW FE σ τ ∧ f_X12_load_J118 n τ = some res ∧ ((a.1 = 0 ∧ BAD a.2 rd τ ∧ UOK a.2 w) ∨ (a.1 = 1 ∧ ms_I τ 670 = 0 ∧ (WR a.2 w (ms_E τ 40) ∧ rC (ms_E τ 40) ∧ AL01 (ms_E τ 40) ∧ rG a.2 w) ∧ KF rd α a.2 ∧ ms_E τ 40 2 = ms_E σ 40 2))
theorem LDP_tr {n w rd : Nat} {α β : hp_T} {σ τ : ms_T} {res : Int32 × ms_T} {a : Int32 × hp_T} (hF : lfr w rd α β) (hf : fr FW FE σ τ) (hk : KF rd α β) (h2 : ms_E τ 40 2 = ms_E σ 40 2) (h : LDP n w rd β τ res a) : LDP n w rd α σ res a := by
  obtain ⟨h1, υ, h5, h3, h4⟩ := h
  refine ⟨lfr_tr hF h1, υ, fr_tr hf h5, h3, ?_⟩
  rcases h4 with h4 | ⟨a1, a2, a3, a4, a5⟩
  · exact Or.inl h4
  · exact Or.inr ⟨a1, a2, a3, KF_tr hk a4, a5.trans h2⟩
theorem KF_w {w rd : Nat} {α β : hp_T} (h : wfr w α β) (hw : w + 459 ≤ rd) : KF rd α β := ⟨h.2.2.2.2.1 204 rd (by omega), h.2.2.2.2.1 205 rd (by omega)⟩
theorem tkS_0 {t : Nat → Int32} {N q : Nat} (h : q < N) : ¬ tkS t N q = 0 := by
  unfold tkS tkK
  rw [if_neg (show ¬ N ≤ q by omega)]
  split
  · decide
  · exact kof_0
theorem tkS_e {t : Nat → Int32} {N q : Nat} (h : N ≤ q) : tkS t N q = 0 := by
  unfold tkS tkK
  rw [if_pos h, if_neg (fun e => absurd e.1 (by decide))]
theorem ws_hm {R : Type} {P : R → Prop} {x : Option R} {k : Nat → Option R} {a : Nat} (h : ws (k a) P) : ws (hq_m (some a) x k) P := h
theorem r_loop (n : Nat) (hn : 70000 ≤ n) (x w rd : Nat) (t : Nat → Int32) (N : Nat) (res : Int32 × ms_T) : ∀ (d : Nat) (α : hp_T) (σ : ms_T) (r q k : Nat) (kI : Int32) (k97 : Nat), LDI x w rd t N α σ r q → kI.toInt = (k : Int) → k ≤ q → N + 1 - q ≤ d → f_X12_load_L97 n k97 σ = some res → ws (f_X11_loadLines_L32 n x d α (ms_I σ 679) kI) (LDP n w rd α σ res) := by
  intro d
  induction d with
  | zero => intro α σ r q k kI k97 h hk hkq hd; have := h.2.1.1; omega
  | succ d ih =>
    intro α σ r q k kI k97 h hk hkq hd e
    obtain ⟨⟨hS, h616, h602, hw, htp⟩, hT, ⟨hW, hC, hA, hG⟩, hr, hrI⟩ := id h
    have t900 := t_900
    have hN := hT.2.1.1
    have hqN := hT.1
    obtain ⟨q1, q2, q3, q4, q5, q6⟩ := id hT
    cases k97 with
    | zero => unfold f_X12_load_L97 at e; cases e
    | succ k97 =>
    unfold f_X12_load_L97 at e
    rw [if_pos q6] at e
    unfold f_X11_loadLines_L32
    have hend : q = N → ms_I σ 674 = 0 := fun hq => by
      rw [q5.2.1]; exact tkS_e (by omega)
    have hmid : q < N → ¬ tkS t N q = 0 := fun hq => tkS_0 hq
    have hdone : q = N → LDP n w rd α σ res (1, α) := fun hq => by
      rw [if_pos (hend hq)] at e
      exact ⟨lfr_rf, σ, fr_rf, e, Or.inr ⟨rfl, q6, ⟨hW, hC, hA, hG⟩, ⟨rfl, rfl⟩, rfl⟩⟩
    refine ws_le (fun e9 => ws_s (hdone (by omega))) (fun e9 => ws_l ?_)
    unfold f_X3_isAtEnd
    rw [h616]
    have h353 : hp_I α 353 (hp_R α 200 rd) = tkS t N q := q3.2.1
    by_cases hq : q = N
    · refine ws_b (S := fun v => v = 1) (ws_l (ws_l (ws_i (fun _ => ws_s rfl) (fun hne => absurd (by rw [h353]; rw [← q5.2.1]; exact hend hq) hne)))) (fun v hv => ?_)
      subst hv
      exact ws_i (fun h => absurd h (by decide)) (fun _ => ws_s (hdone hq))
    · have hqN2 : q < N := by omega
      refine ws_b (S := fun v => v = 0) (ws_l (ws_l (ws_i (fun h0 => absurd (by rw [h353] at h0; exact h0) (hmid hqN2)) (fun _ => ws_s rfl)))) (fun v hv => ?_)
      subst hv
      refine ws_i (fun _ => ws_l ?_) (fun h => absurd rfl h)
      rw [h602]
      rw [if_neg (fun h => hmid hqN2 (q5.2.1.symm.trans h))] at e
      replace e := ms_bE e
      obtain ⟨τ, e1, e⟩ := e
      have hLI : LI σ := ⟨PI_TOK hT, hC, by omega, by have := hC.1; omega⟩
      obtain ⟨τ', e1', hln⟩ := s_line n hn hLI (fun h => hmid hqN2 (q5.2.1.symm.trans (Int32.toInt_inj.mp (by rw [h]; decide))))
      have : τ' = τ := by rw [e1] at e1'; cases e1'; rfl
      subst this
      obtain ⟨hfr, hLI2, -⟩ := hln
      refine ws_b (k_logAt n hW hC (ms_I σ 679)) (fun o ho => ?_)
      rw [if_pos ⟨by omega, by omega⟩, hrI, Int.toNat_natCast] at ho
      subst ho
      refine ws_hm (ws_l (ws_l ?_))
      refine ws_hc (r_line n hn hS hT hqN2 hW rfl hC hr hrI e1) (fun a β hab => ?_)
      obtain ⟨hF, ⟨h0, hB⟩ | ⟨h1, ⟨q', hq', hT'⟩, hK, hKF⟩⟩ := hab
      · refine ws_i (fun _ => ws_s ⟨lfr_r hF, τ', hfr, ?_, Or.inl ⟨rfl, hB, ?_⟩⟩) (fun h => absurd h0 h)
        · cases k97 with
          | zero => unfold f_X12_load_L97 at e; cases e
          | succ k97 =>
            unfold f_X12_load_L97 at e
            rw [if_neg (BAD_p hB)] at e
            exact e
        have hWβ : WR β w (ms_E σ 40) := WR_rfr hW hC hw hF
        exact ⟨hWβ.1, by unfold rG; rw [hF.2.2.2.2.1 301 (w + 5) (by omega)]; exact hG, hWβ.2.2.2.2.2⟩
      · dsimp only at h1
        subst h1
        replace hF : rfr rd α β := hF
        replace hT' : TOK β rd τ' t N q' := hT'
        have b616 : hp_R β 616 x = rd := by rw [hF.1]; exact h616
        have b602 : hp_R β 602 x = w := by rw [hF.1]; exact h602
        have hSβ : RS β rd := RS_R hS hF.1
        have btp : w + 459 ≤ hp_R β 350 (rd + 1) := by rw [hF.1]; exact htp
        have hWβ : WR β w (ms_E σ 40) := WR_rfr hW hC hw hF
        have hGβ : rG β w := by unfold rG; rw [hF.2.2.2.2.1 301 (w + 5) (by omega)]; exact hG
        have hC2 : rC (ms_E τ' 40) := hLI2.2.1
        -- what is left behind a line's act
        have hgo : ∀ (γ : hp_T) (vI : Int32) (r2 : Nat), wfr w β γ → WR γ w (ms_E τ' 40) → rG γ w → AL01 (ms_E τ' 40) → vI = ms_I τ' 679 → r2 < (ms_E τ' 40 0).toInt.toNat → (ms_I τ' 679).toInt = (r2 : Int) → ms_E τ' 40 2 = ms_E σ 40 2 → ws (f_X11_loadLines_J213 n x (f_X11_loadLines_L32 n x d) γ vI kI) (LDP n w rd α σ res) := by
          intro γ vI r2 g1 g2 g3 g4 g5 g6 g7 g8
          unfold f_X11_loadLines_J213
          subst g5
          refine ws_l (ws_m (ih γ τ' r2 q' (k + 1) _ k97 ⟨⟨RS_R hSβ g1.1, by rw [g1.1]; exact b616, by rw [g1.1]; exact b602, hw, by rw [g1.1]; exact btp⟩, TOK_wfr hT' hSβ.1 g1 hw btp, ⟨g2, hC2, g4, g3⟩, g6, g7⟩ (by rw [ii_add (by rw [lt1]; omega) (by rw [lt1]; omega), lt1, hk]; omega) (by omega) (by omega) e) (fun a ha => ?_))
          exact LDP_tr (lfr_tr (lfr_r hF) (lfr_w g1)) hfr (KF_tr hKF (KF_w g1 hw)) g8 ha
        have wfr_rf : wfr w β β := ⟨rfl, rfl, rfl, rfl, fun _ _ _ => rfl, fun _ _ _ _ => rfl⟩
        have h0c := hC.1
        refine ws_i (fun h => absurd h (by decide)) (fun _ => ws_l (ws_l ?_))
        rw [b616, b602]
        have hWD500 : hp_R β 500 (rd + 9) = rd + 10 := hSβ.2.2
        replace hK : LNK β rd w r (ms_E σ 40) σ τ' := hK
        rcases hK with ⟨k1, k2, ⟨l, k3, k4⟩, k5⟩ | ⟨k1, k2, k3, k4, k5⟩ | ⟨k1, k2, k3, k4, k5, k6⟩ | ⟨k1, k2, k3, k4⟩ | ⟨k1, k2, k3, k4, k5, k6, k7⟩
        · rw [k1]
          refine ws_i (fun _ => ws_l (ws_l (ws_l ?_))) (fun h => absurd rfl h)
          rw [hSβ.2.1]
          refine ws_b (k_addWord n hn β w (ms_E σ 40) hWβ hC r (ms_E σ 40 (72 + r)).toInt.toNat hr (by omega) (by have := hC.2.2.2.2.1 r (by omega); omega) (rd + 9) l k3 (by omega) (by omega)) (fun γ hγ => ?_)
          obtain ⟨a1, a2, a3, a4, a5, a6, a7, a8, a9⟩ := hγ
          refine hgo γ _ r ⟨a3, a4, a5, a6, a8, a9⟩ (a1 _ k4) (by unfold rG; rw [a2]; exact hGβ) (AL_adF hC hA (by have := hC.1; omega) (by have := hC.1; omega) (by have := hC.1; omega) k4) k5.symm ?_ (by rw [k5]; exact hrI) (k4.2.2.2.2 2 (by omega) (by omega) (by omega) (by omega))
          rw [k4.2.2.2.2 0 (by omega) (by omega) (by omega) (by omega)]; exact hr
        · rw [k1]
          refine ws_i (fun h => absurd h (by decide)) (fun _ => ws_i (fun _ => ws_l (ws_l ?_)) (fun h => absurd rfl h))
          exact hgo β _ (hp_I β 209 rd).toInt.toNat wfr_rf (by rw [k4]; exact hWβ) hGβ (by rw [k4]; exact hA) k5.symm (by rw [k4]; omega) (by rw [k5]; omega) (by rw [k4])
        · rw [k1]
          refine ws_i (fun h => absurd h (by decide)) (fun _ => ws_i (fun h => absurd h (by decide)) (fun _ => ws_i (fun _ => ws_l (ws_l (ws_l ?_))) (fun h => absurd rfl h)))
          refine ws_hc (k_forkLog n hn β w (ms_E σ 40) hWβ hC r (hp_I β 209 rd).toInt.toNat hr k2 (by omega) (hp_I β 209 rd) (by omega)) (fun v γ hγ => ?_)
          obtain ⟨a1, a2, a3, a4, a5, a6, a7, a8, a9⟩ := hγ
          refine hgo γ v (ms_E σ 40 0).toInt.toNat ⟨a4, a5, a6, a7, a8, a9⟩ (a2 _ k5) (by unfold rG; rw [a3]; exact hGβ) (AL_foF hC hA (by have := hC.1; omega) (by have := hC.1; omega) k5) (by rw [k6]; exact a1) ?_ (by rw [k6]; omega) (k5.2.2.2.2 2 (by omega) (by omega) (by omega) (by omega) (by omega))
          rw [k5.2.2.1, ii_add (by rw [lt1]; omega) (by rw [lt1]; omega), lt1]
          omega
        · rw [k1]
          refine ws_i (fun h => absurd h (by decide)) (fun _ => ws_i (fun h => absurd h (by decide)) (fun _ => ws_i (fun h => absurd h (by decide)) (fun _ => ws_i (fun _ => ws_l ?_) (fun h => absurd rfl h))))
          refine ws_hc (k_freezeHead n hn β w (ms_E σ 40) hWβ hC r hr k2 (ms_I σ 679) hrI) (fun v γ hγ => ?_)
          obtain ⟨a1, a2, a3, a4⟩ := hγ
          have h16 : (ms_E σ 40 3).toInt.toNat < 16 := by omega
          refine hgo γ _ r a3 (a2 _ k3) (by unfold rG; rw [a4]; exact hGβ) (AL_fzF hC hA (by have := hC.1; omega) (by have := hC.1; omega) k3) k4.symm ?_ (by rw [k4]; exact hrI) (k3.2.2.2.2.2.2.2 2 (by omega) (by omega) (by omega))
          rw [k3.2.2.2.2.2.2.2 0 (by omega) (by omega) (by omega)]; exact hr
        · rw [k1]
          refine ws_i (fun h => absurd h (by decide)) (fun _ => ws_i (fun h => absurd h (by decide)) (fun _ => ws_i (fun h => absurd h (by decide)) (fun _ => ws_i (fun h => absurd h (by decide)) (fun _ => ws_l (ws_l (ws_l (ws_l ?_)))))))
          refine ws_b (k_watcherAt n hWβ.1 (hp_I β 208 rd).toInt.toNat (by omega) (hp_I β 208 rd) (by omega)) (fun o ho => ?_)
          subst ho
          refine ws_hm (ws_l (ws_l ?_))
          refine ws_hc (k_showTo n hn β w (ms_E σ 40) hWβ hC hA hGβ (hp_I β 208 rd).toInt.toNat r (hp_I β 209 rd).toInt.toNat (by omega) hr (by omega) (hp_I β 209 rd) (by omega)) (fun v γ hγ => ?_)
          obtain ⟨a1, a2, a3, a4⟩ := hγ
          refine hgo γ _ r a3 (a2 _ k6) a4 (AL_shF hC hA (by have := hC.1; omega) k6) k7.symm ?_ (by rw [k7]; exact hrI) (k6.2.2.2.2 2 (by omega) (by omega))
          rw [k6.2.2.2.2 0 (by omega) (by omega)]; exact hr
/-! ===== a text begins ===== -/
theorem SHW_x {α β : hp_T} {w : Nat} (h : SHW α w) (eR : ∀ φ b, w ≤ b → b < w + 459 → hp_R β φ b = hp_R α φ b) (eQ : hp_Q β = hp_Q α) : SHW β w := by
  obtain ⟨a1, a2, a3, a4, a5, a6, a7, a8, a9, a10, ⟨a11, a12, a13⟩, a14, a15⟩ := h
  refine ⟨by rw [eR _ _ (by omega) (by omega)]; exact a1, by rw [eR _ _ (by omega) (by omega)]; exact a2, by rw [eR _ _ (by omega) (by omega)]; exact a3, by rw [eR _ _ (by omega) (by omega)]; exact a4, by rw [eR _ _ (by omega) (by omega)]; exact a5, by rw [eR _ _ (by omega) (by omega)]; exact a6, by rw [eQ]; exact a7, by rw [eQ]; exact a8, by rw [eQ]; exact a9, by rw [eR _ _ (by omega) (by omega)]; exact a10, ⟨by rw [eR _ _ (by omega) (by omega)]; exact a11, by rw [eR _ _ (by omega) (by omega)]; exact a12, by rw [eR _ _ (by omega) (by omega)]; exact a13⟩, fun r hr => ?_, fun i hi => ?_⟩
  · obtain ⟨b1, b2, b3⟩ := a14 r hr
    refine ⟨by rw [eR _ _ (by unfold lpA; omega) (by unfold lpA; omega)]; exact b1, by rw [eR _ _ (by unfold lpA; omega) (by unfold lpA; omega)]; exact b2, fun i hi => ⟨by rw [eQ]; exact (b3 i hi).1, by rw [eR _ _ (by unfold wdA; omega) (by unfold wdA; omega)]; exact (b3 i hi).2⟩⟩
  · exact ⟨by rw [eR _ _ (by unfold fzA; omega) (by unfold fzA; omega)]; exact (a15 i hi).1, by rw [eR _ _ (by unfold fzA; omega) (by unfold fzA; omega)]; exact (a15 i hi).2⟩
theorem WR_x {α β : hp_T} {w : Nat} {f : Nat → Int32} (h : WR α w f) (hC : rC f) (eR : ∀ φ b, w ≤ b → b < w + 459 → hp_R β φ b = hp_R α φ b) (eQ : hp_Q β = hp_Q α) (eI : ∀ φ b, w ≤ b → b < w + 459 → hp_I β φ b = hp_I α φ b) (eE : ∀ κ b j, w ≤ b → b < w + 459 → hp_E β κ b j = hp_E α κ b j) : WR β w f := by
  have h4 := hC.1.2
  have h16 := hC.2.2.2.1.2
  obtain ⟨h1, h2, h3, hF, hW, hX⟩ := h
  refine ⟨SHW_x h1 eR eQ, ⟨?_, ?_, ?_, ?_⟩, fun r hr => ?_, fun i hi => ?_, fun i hi => ?_, fun i hi => by rw [eI 301 _ (by unfold fzA; omega) (by unfold fzA; omega)]; exact hX i hi⟩
  · rw [eI 550 w (by omega) (by omega)]; exact h2.1
  · rw [eI 552 w (by omega) (by omega)]; exact h2.2.1
  · rw [eI 554 w (by omega) (by omega)]; exact h2.2.2.1
  · rw [eI 556 w (by omega) (by omega)]; exact h2.2.2.2
  · obtain ⟨a1, a2⟩ := h3 r hr
    have hs := hC.2.2.2.2.1 r (by omega)
    refine ⟨by rw [eI 152 _ (by unfold lpA; omega) (by unfold lpA; omega)]; exact a1, fun i hi => ?_⟩
    obtain ⟨⟨b1, b2, b3, b4⟩, b5⟩ := a2 i hi
    have hsh := (h1.2.2.2.2.2.2.2.2.2.2.2.1 r (by omega)).2.2 i (by omega)
    refine ⟨⟨b1, by rw [eI 501 _ (by unfold wdA; omega) (by unfold wdA; omega)]; exact b2, fun k hk => ?_, b4⟩, ?_⟩
    · rw [eR 500 _ (by unfold wdA; omega) (by unfold wdA; omega), hsh.2, eE 27 _ k (by unfold wdA; omega) (by unfold wdA; omega), ← hsh.2]; exact b3 k hk
    · rw [eE 29 _ i (by unfold lpA; omega) (by unfold lpA; omega)]; exact b5
  · obtain ⟨b1, b2, b3, b4, b5, b6⟩ := hF i hi
    refine ⟨?_, ?_, ?_, ?_, ?_, fun k hk => ?_⟩
    · rw [eI 100 _ (by unfold fzA; omega) (by unfold fzA; omega)]; exact b1
    · rw [eI 101 _ (by unfold fzA; omega) (by unfold fzA; omega)]; exact b2
    · rw [eI 102 _ (by unfold fzA; omega) (by unfold fzA; omega)]; exact b3
    · rw [eI 103 _ (by unfold fzA; omega) (by unfold fzA; omega)]; exact b4
    · rw [eI 301 _ (by unfold fzA; omega) (by unfold fzA; omega)]; exact b5
    · rw [eE 20 _ k (by unfold fzA; omega) (by unfold fzA; omega)]; exact b6 k hk
  · obtain ⟨b1, b2, b3, b4⟩ := hW i hi
    refine ⟨?_, ?_, ?_, ?_⟩
    · rw [eI 400 _ (by unfold wtA; omega) (by unfold wtA; omega)]; exact b1
    · rw [eI 401 _ (by unfold wtA; omega) (by unfold wtA; omega)]; exact b2
    · rw [eI 403 _ (by unfold wtA; omega) (by unfold wtA; omega)]; exact b3
    · rw [eI 402 _ (by unfold wtA; omega) (by unfold wtA; omega)]; exact b4
/-- cells that are alike below 1980 -/
theorem WR_cg {α : hp_T} {w : Nat} {f g : Nat → Int32} (h : WR α w f) (hC : rC f) (e : ∀ j, j < 1980 → g j = f j) : WR α w g := by
  have h4 := hC.1.2
  have h16 := hC.2.2.2.1.2
  obtain ⟨h1, h2, h3, hF, hW, hX⟩ := h
  have e0 := e 0 (by omega)
  have e3 := e 3 (by omega)
  refine ⟨h1, by rw [e 1 (by omega), e0, e3, e 4 (by omega)]; exact h2, fun r hr => ?_, fun i hi => ?_, fun i hi => ?_, hX⟩
  · rw [e0] at hr
    obtain ⟨a1, a2⟩ := h3 r hr
    have hs := hC.2.2.2.2.1 r (by omega)
    rw [e (72 + r) (by omega)]
    refine ⟨a1, fun i hi => ?_⟩
    have hq := hC.2.2.2.2.2.2.2.2 (48 * r + i) (by omega)
    obtain ⟨b1, b2⟩ := a2 i hi
    have k1 := e (252 + (48 * r + i)) (by omega)
    have k2 : ∀ k, k < (f (252 + (48 * r + i))).toInt.toNat → g (444 + 8 * (48 * r + i) + k) = f (444 + 8 * (48 * r + i) + k) := fun k hk => e _ (by omega)
    exact ⟨by rw [ltr_c k1 k2]; exact b1, by rw [EM_c (e 1 (by omega)) k1 k2]; exact b2⟩
  · rw [e3] at hi
    obtain ⟨b1, b2, b3, b4, b5, b6⟩ := hF i hi
    have hp := hC.2.2.2.2.2.2.2.1 i (by omega)
    have hpk : pkn (f (93 + 10 * i)).toInt.toNat ≤ 6 := by unfold pkn; omega
    rw [← e (92 + 10 * i) (by omega)] at b1
    refine ⟨b1, by rw [e (93 + 10 * i) (by omega)]; exact b2, by rw [e (94 + 10 * i) (by omega)]; exact b3, by rw [e (95 + 10 * i) (by omega)]; exact b4, by rw [e (93 + 10 * i) (by omega)]; exact b5, fun k hk => ?_⟩
    rw [e (93 + 10 * i) (by omega)] at hk
    rw [e (96 + 10 * i + k) (by omega)]
    exact b6 k hk
  · obtain ⟨b1, b2, b3, b4⟩ := hW i hi
    exact ⟨by rw [e (76 + 4 * i) (by omega)]; exact b1, by rw [e (77 + 4 * i) (by omega)]; exact b2, by rw [e (78 + 4 * i) (by omega)]; exact b3, by rw [e (79 + 4 * i) (by omega)]; exact b4⟩
/-- what reading begins with -/
def bfr (rd tp : Nat) (α β : hp_T) : Prop := (∀ φ b, ¬ (φ = 350 ∧ b = rd + 1) → hp_R β φ b = hp_R α φ b) ∧ hp_R β 350 (rd + 1) = tp ∧ hp_K β = hp_K α ∧ hp_Q β = hp_Q α ∧ hp_N β = hp_N α ∧ (∀ φ b, b < rd ∨ rd + 11 ≤ b → hp_I β φ b = hp_I α φ b) ∧ ∀ κ b j, hp_E β κ b j = hp_E α κ b j
theorem r_begin9 (n : Nat) (hn : 70000 ≤ n) {α : hp_T} {rd tp N : Nat} {t : Nat → Int32} (hR : hp_R α 200 rd = rd + 1) (hK : hp_K α tp = 24) (hN : N ≤ 900) (nI : Int32) (hnI : nI.toInt = (N : Int)) (ht : ∀ j, j < N → hp_E α 24 tp j = t j) : ws (f_X3_begin n α rd tp nI) (fun β => ((∀ σ τ, (∀ j, j < N → ms_E σ 47 j = t j) → f_X12_begins n σ nI = some τ → TOK β rd τ t N (tkP t N 0) ∧ fr [670, 672, 673, 674, 675, 676] [] σ τ) ∧ hp_I β 204 rd = 0 ∧ hp_I β 205 rd = -1 ∧ bfr rd tp α β) ∧ ∀ b, hp_I β 301 b = hp_I α 301 b) := by
  have t900 := t_900
  unfold f_X3_begin
  refine ws_l (ws_l (ws_l ?_))
  unfold f_X6_begin
  have hR1 : hp_R (hp_sI (hp_sI α 204 rd 0) 205 rd (-1)) 200 rd = rd + 1 := hR
  rw [hR1]
  have hmax : ws (f_J9_max_7cf53 n 0 nI) (fun r => r = nI) := by
    unfold f_J9_max_7cf53
    refine ws_lt (fun _ => ws_s rfl) (fun h => ws_s (Int32.toInt_inj.mp ?_))
    rw [lt0] at h ⊢
    omega
  refine ws_b (S := fun β => β = hp_sI (hp_sI (hp_sR (hp_sI (hp_sI α 204 rd 0) 205 rd (-1)) 350 (rd + 1) tp) 351 (rd + 1) nI) 352 (rd + 1) 0) ?_ (fun β hβ => ?_)
  · refine ws_l (ws_b (k_min n nI 900 (by omega)) (fun r hr => ?_))
    subst hr
    refine ws_b hmax (fun r2 hr2 => ?_)
    subst hr2
    exact ws_l (ws_l (ws_s rfl))
  · refine ws_l ?_
    have bR : ∀ φ b, hp_R β φ b = if φ = 350 ∧ b = rd + 1 then tp else hp_R α φ b := fun φ b => by rw [hβ]; exact hR_sR
    have bE : ∀ κ b j, hp_E β κ b j = hp_E α κ b j := fun κ b j => by rw [hβ]; rfl
    have bK : hp_K β = hp_K α := by rw [hβ]; rfl
    have bI : ∀ φ b, hp_I β φ b = if φ = 352 ∧ b = rd + 1 then 0 else if φ = 351 ∧ b = rd + 1 then nI else if φ = 205 ∧ b = rd then -1 else if φ = 204 ∧ b = rd then 0 else hp_I α φ b := fun φ b => by rw [hβ]; rfl
    have bR2 : hp_R β 200 rd = rd + 1 := by rw [bR, if_neg (fun h => absurd h.1 (by decide))]; exact hR
    have hSB : SB β (rd + 1) t N := by
      refine ⟨hN, by rw [bI, if_neg (fun h => absurd h.1 (by decide)), if_pos ⟨rfl, rfl⟩]; exact hnI, by rw [bR, if_pos ⟨rfl, rfl⟩, bK]; exact hK, fun j hj => by rw [bR, if_pos ⟨rfl, rfl⟩, bE]; exact ht j hj⟩
    rw [bR2]
    refine ws_b (k_advance n hn (p := 0) hSB (by omega) (by rw [bI, if_pos ⟨rfl, rfl⟩]; decide)) (fun γ hγ => ws_s ?_)
    obtain ⟨g1, g2, g3, g4, g5, g6, g7⟩ := hγ
    refine ⟨⟨fun σ τ hσ e => ?_, ?_, ?_, ?_, ?_, by rw [g3]; exact bK, by rw [g4, hβ]; rfl, by rw [g5, hβ]; rfl, fun φ b hb => ?_, fun κ b j => by rw [g6]; exact bE κ b j⟩, fun b => ?_⟩
    · unfold f_X12_begins at e
      replace e := ms_lE rfl (ms_lE rfl (ms_lE rfl e))
      replace e := ms_bE e
      obtain ⟨υ, e1, e⟩ := e
      cases e
      have hRB : RB (ms_sI (ms_sI (ms_sI σ 676 nI) 673 0) 670 0) t N := ⟨hN, hnI, hσ⟩
      obtain ⟨r1, r2⟩ := v_reads n (p := 0) hRB (by omega) (by rw [mI_sI, if_neg (by decide), mI_sI, if_pos rfl]; decide) _ e1
      refine ⟨⟨tkP_le t (by omega), ?_, ?_, RB_rf hRB r2, r1, by rw [r2.1 670 (by decide)]; rfl⟩, fr_tr (fr_tr (fr_tr (fr_sI (by decide)) (fr_sI (by decide))) (fr_sI (by decide))) (fr_sb r2 (by decide) (by decide))⟩
      · rw [g2, bR2]; exact SB_sf hSB ⟨g2, g3, g4, g5, g6, g7⟩
      · rw [g2, bR2]; exact g1
    · rw [g7 204 rd (by omega), bI, if_neg (fun h => absurd h.1 (by decide)), if_neg (fun h => absurd h.1 (by decide)), if_neg (fun h => absurd h.1 (by decide)), if_pos ⟨rfl, rfl⟩]
    · rw [g7 205 rd (by omega), bI, if_neg (fun h => absurd h.1 (by decide)), if_neg (fun h => absurd h.1 (by decide)), if_pos ⟨rfl, rfl⟩]
    · intro φ b hφ; rw [g2, bR, if_neg hφ]
    · rw [g2, bR, if_pos ⟨rfl, rfl⟩]
    · rw [g7 φ b (by omega), bI, if_neg (by omega), if_neg (by omega), if_neg (by omega), if_neg (by omega)]
    · rw [g7 301 b (by omega), bI, if_neg (by omega), if_neg (by omega), if_neg (by omega), if_neg (by omega)]
theorem r_begin (n : Nat) (hn : 70000 ≤ n) {α : hp_T} {rd tp N : Nat} {t : Nat → Int32} (hR : hp_R α 200 rd = rd + 1) (hK : hp_K α tp = 24) (hN : N ≤ 900) (nI : Int32) (hnI : nI.toInt = (N : Int)) (ht : ∀ j, j < N → hp_E α 24 tp j = t j) : ws (f_X3_begin n α rd tp nI) (fun β => (∀ σ τ, (∀ j, j < N → ms_E σ 47 j = t j) → f_X12_begins n σ nI = some τ → TOK β rd τ t N (tkP t N 0) ∧ fr [670, 672, 673, 674, 675, 676] [] σ τ) ∧ hp_I β 204 rd = 0 ∧ hp_I β 205 rd = -1 ∧ bfr rd tp α β) :=
  ws_m (r_begin9 n hn hR hK hN nI hnI ht) (fun _ h => h.1)
/-- mod NUMBER ; or nothing -/
theorem r_modulus (n : Nat) (hn : 70000 ≤ n) {α : hp_T} {rd w : Nat} {σ : ms_T} {t : Nat → Int32} {N q : Nat} (hS : RS α rd) (hT : TOK α rd σ t N q) (hwr : w ≠ rd ∧ w ≠ rd + 1) (res : Int32 × ms_T)
    (e : (ms_b (f_X12_isWord n σ (0 : Int32)) fun rh10 => if rh10 = 0 then f_X12_load_L97 n n σ else ms_b (f_X12_reads n σ) fun σh26 => ms_c (f_X12_takesNumber n σh26 (101 : Int32) (65521 : Int32)) fun rh27 σh27 => ms_g (1 : Int32) 1980 <| ms_l (ms_sE σh27 40 ((1 : Int32)).toNatClampNeg rh27) fun σh29 => ms_b (f_X12_takesEnd n σh29) fun σh30 => f_X12_load_L97 n n σh30) = some res) :
    ws (f_X3_readModulus n α rd w) (fun a => ∃ τ, f_X12_load_L97 n n τ = some res ∧ fr FW [40] σ τ ∧ ms_I τ 679 = ms_I σ 679 ∧ ((a.1 = 0 ∧ rfr rd α a.2 ∧ BAD a.2 rd τ) ∨ (a.1 = 1 ∧ KF rd α a.2 ∧ (∃ q', TOK a.2 rd τ t N q') ∧ ((a.2 = α ∧ τ = σ) ∨ ∃ m : Int32, (101 ≤ m.toInt ∧ m.toInt ≤ 65521) ∧ rfr rd (hp_sI α 550 w m) a.2 ∧ ms_E τ 40 1 = m ∧ ∀ j, j ≠ 1 → ms_E τ 40 j = ms_E σ 40 j)))) := by
  obtain ⟨q1, q2, q3, q4, q5, q6⟩ := id hT
  replace e := ms_bE e
  obtain ⟨x0, ex0, e⟩ := e
  have i0 := v_isW n hT 0 (by decide) 0 (by decide) ex0
  unfold f_X3_readModulus
  have t1 : ((1 : Int32)).toNatClampNeg = 1 := by decide
  refine ws_l (wk_bo (k_spells n hn (i := 17) (by decide) q2 q3 q1) (fun hno => ?_) (fun hyes => ?_))
  · rw [if_pos (i0.2 hno)] at e
    exact ws_s ⟨σ, e, fr_rf, rfl, Or.inr ⟨rfl, ⟨rfl, rfl⟩, ⟨q, hT⟩, Or.inl ⟨rfl, rfl⟩⟩⟩
  · rw [if_neg (by rw [i0.1 hyes]; decide)] at e
    have hqN : q < N := q_lt hyes.1 (by decide)
    replace e := ms_bE e
    obtain ⟨σ1, e1, e⟩ := e
    obtain ⟨hP1, hg1⟩ := r_reads n hT hqN σ1 e1
    replace e := ms_cE e
    obtain ⟨v, σ2, e2, e⟩ := e
    replace e := ms_gE e
    obtain ⟨-, e⟩ := e
    replace e := ms_lE rfl e
    rw [t1] at e
    replace e := ms_bE e
    obtain ⟨σ3, e3, e⟩ := e
    refine ws_hc (r_number n hn hP1 101 65521 101 65521 (fun _ _ _ => Iff.rfl)) (fun a β hab => ?_)
    obtain ⟨hf2, hg2, hc⟩ := hab _ e2
    rw [hS.1] at hf2
    have hgg : fr FW [40] σ (ms_sE σ2 40 1 v) := fr_tr (fr_sb (fr_tr hg1 hg2) (by decide) (by decide)) (fr_sE (by decide))
    have h679 : ms_I (ms_sE σ2 40 1 v) 679 = ms_I σ 679 := by rw [mI_sE, hg2.1 679 (by decide), hg1.1 679 (by decide)]
    rcases hc with ⟨rfl, ⟨p2, hlt2, hP2⟩, ev, v0, v1, v2, v3, hk2⟩ | ⟨rfl, hB⟩
    · refine ws_i (fun h => absurd h (by decide)) (fun _ => ?_)
      have eR2 : hp_R β 200 rd = rd + 1 := by rw [hf2.1]; exact hS.1
      have hP2' : PRE β rd (ms_sE σ2 40 1 v) t N p2 := PRE_fr (wI := []) (wE := [40]) hP2 (fr_sE (by decide)) (by decide) (by decide) rfl
      refine ws_hc (r_sign n hn hP2') (fun a3 γ h3 => ?_)
      obtain ⟨hf3, hg3, hc3⟩ := h3 _ e3
      rw [eR2] at hf3
      have hfr3 : fr FW [40] σ σ3 := fr_tr hgg (fr_sb hg3 (by decide) (by decide))
      have h6793 : ms_I σ3 679 = ms_I σ 679 := by rw [hg3.1 679 (by decide)]; exact h679
      rcases hc3 with ⟨rfl, ⟨p3, hlt3, hP3⟩, hk3⟩ | ⟨rfl, hB⟩
      · refine ws_i (fun h => absurd h (by decide)) (fun _ => ws_l (ws_l (ws_l ?_)))
        have i209 : hp_I γ 209 rd = v := by rw [hk3 209 (by decide)]; exact ev
        rw [i209]
        have eR3 : hp_R γ 200 rd = rd + 1 := by rw [hf3.1, hf2.1]; exact hS.1
        have hP4 : PRE (hp_sI γ 550 w v) rd σ3 t N p3 := by
          have hx : ∀ φ, φ < 550 → ∀ b, hp_I (hp_sI γ 550 w v) φ b = hp_I γ φ b := fun φ hφ b => by rw [hI_sI, if_neg (fun h => by omega)]
          exact PRE_rdf hP3 rfl rfl rfl (hx 351 (by decide) _) (hx 352 (by decide) _)
        refine ws_b (r_adv n hn hP4) (fun δ hδ => ws_s ?_)
        obtain ⟨hT5, hf5, hk5⟩ := hδ
        have eR4 : hp_R (hp_sI γ 550 w v) 200 rd = rd + 1 := eR3
        rw [eR4] at hf5
        have hF : rfr rd (hp_sI α 550 w v) δ := by
          have hrf := rfr_tr (rfr_rdf hf2) (rfr_rdf hf3)
          refine rfr_tr (β := hp_sI γ 550 w v) ⟨hrf.1, hrf.2.1, hrf.2.2.1, hrf.2.2.2.1, fun φ b hb => ?_, hrf.2.2.2.2.2⟩ (rfr_rdf hf5)
          rw [hI_sI, hI_sI, hrf.2.2.2.2.1 φ b hb]
        refine ⟨σ3, e, hfr3, h6793, Or.inr ⟨rfl, ?_, ⟨_, hT5⟩, Or.inr ⟨v, ⟨v2, v3⟩, hF, ?_, ?_⟩⟩⟩
        · have hx : ∀ φ, φ < 350 → φ ≠ 209 → hp_I δ φ rd = hp_I α φ rd := fun φ h1 h2 => by
            rw [hk5 φ h1 rd, hI_sI, if_neg (fun h => by omega), hk3 φ h1]
            exact hk2 φ h1 h2
          exact KF_n hx
        · rw [hg3.2 40 (by decide) 1, mE_sE, if_pos ⟨rfl, rfl⟩]
        · intro j hj
          rw [hg3.2 40 (by decide) j, mE_sE, if_neg (fun h => hj h.2), hg2.2 40 (by decide) j, hg1.2 40 (by decide) j]
      · exact ws_i (fun _ => ws_s ⟨σ3, e, hfr3, h6793, Or.inl ⟨rfl, rfr_tr (rfr_rdf hf2) (rfr_rdf hf3), hB⟩⟩) (fun h => absurd rfl h)
    · have hB' : BAD β rd (ms_sE σ2 40 1 v) := BAD_m (σ := σ2) hB rfl rfl
      have hb : BB (ms_sE σ2 40 1 v) σ3 := v_takesEnd_B n (ms_sE σ2 40 1 v) hB'.1 _ e3
      exact ws_i (fun _ => ws_s ⟨σ3, e, fr_tr hgg (fr_sb hb.2.2 (by decide) (by decide)), by rw [hb.2.2.1 679 (by decide)]; exact h679, Or.inl ⟨rfl, rfr_rdf hf2, BAD_B hB' hb⟩⟩) (fun h => absurd rfl h)
end JN10_0
section JN10_1
set_option maxRecDepth 100000
/-! ===== load, side by side ===== -/
def ldB (n : Nat) (aI : Int32) (σ : ms_T) : Option (Int32 × ms_T) :=
  ms_b (f_X12_clears n σ) fun σh7 => ms_l (ms_sI σh7 679 (0 : Int32)) fun σh8 => ms_b (f_X12_begins n σh8 aI) fun σh9 => ms_b (f_X12_isWord n σh9 (0 : Int32)) fun rh10 => if rh10 = 0 then f_X12_load_L97 n n σh9 else ms_b (f_X12_reads n σh9) fun σh26 => ms_c (f_X12_takesNumber n σh26 (101 : Int32) (65521 : Int32)) fun rh27 σh27 => ms_g (1 : Int32) 1980 <| ms_l (ms_sE σh27 40 ((1 : Int32)).toNatClampNeg rh27) fun σh29 => ms_b (f_X12_takesEnd n σh29) fun σh30 => f_X12_load_L97 n n σh30
theorem v_ld28 (n : Nat) (aI : Int32) (res : Int32 × ms_T) : ∀ (d k : Nat) (kI : Int32) (σ : ms_T), kI.toInt = (k : Int) → k ≤ 1980 → (∀ j, j < k → ms_E σ 41 j = ms_E σ 40 j) → f_X12_load_L28 n d σ aI kI = some res → ∃ σ', fr [] [41] σ σ' ∧ (∀ j, j < 1980 → ms_E σ' 41 j = ms_E σ' 40 j) ∧ ldB n aI σ' = some res := by
  intro d
  induction d with
  | zero => intro k kI σ _ _ _ e; unfold f_X12_load_L28 at e; cases e
  | succ d ih =>
    intro k kI σ hk hk2 h e
    have t1980 := t_1980
    unfold f_X12_load_L28 at e
    by_cases hc : (1980 : Int32) ≤ kI
    · rw [if_pos hc] at e
      rw [Int32.le_iff_toInt_le] at hc
      exact ⟨σ, fr_rf, fun j hj => h j (by omega), e⟩
    · rw [if_neg hc] at e
      rw [Int32.le_iff_toInt_le] at hc
      replace e := ms_gE e
      obtain ⟨-, e⟩ := e
      replace e := ms_gE e
      obtain ⟨-, e⟩ := e
      replace e := ms_lE rfl (ms_lE rfl e)
      have e2 : kI.toNatClampNeg = k := by show kI.toInt.toNat = _; rw [hk]; omega
      rw [e2] at e
      obtain ⟨σ', s1, s2, s3⟩ := ih (k + 1) _ _ (by rw [ii_add (by rw [lt1]; omega) (by rw [lt1]; omega), lt1, hk]; omega) (by omega) (fun j hj => by
        rw [mE_sE, mE_sE, if_neg (show ¬ (40 = 41 ∧ j = k) from fun h => absurd h.1 (by decide))]
        by_cases ej : j = k
        · rw [if_pos ⟨rfl, ej⟩, ej]
        · rw [if_neg (fun h => ej h.2)]; exact h j (by omega)) e
      exact ⟨σ', fr_tr (fr_sE (by decide)) s1, s2, s3⟩
theorem v_ld138 (n : Nat) (σ0 : ms_T) : ∀ (d k : Nat) (kI : Int32) (σ : ms_T), kI.toInt = (k : Int) → k ≤ 1980 → (∀ j, j < k → ms_E σ 40 j = ms_E σ0 41 j) → fr [] [40] σ0 σ → pr (f_X12_load_L138 n d σ kI) (fun res => res.1 = -1 ∧ (∀ j, j < 1980 → ms_E res.2 40 j = ms_E σ0 41 j) ∧ fr [] [40] σ0 res.2) := by
  intro d
  induction d with
  | zero => intros; exact pr_0
  | succ d ih =>
    intro k kI σ hk hk2 h hf
    have t1980 := t_1980
    unfold f_X12_load_L138
    refine pr_le (fun hc => pr_s ⟨rfl, fun j hj => h j (by omega), hf⟩) (fun hc => pr_g (fun _ _ => pr_g (fun _ _ => pr_l (pr_l ?_))))
    have e2 : kI.toNatClampNeg = k := by show kI.toInt.toNat = _; rw [hk]; omega
    rw [e2, hf.2 41 (by decide) k]
    refine ih (k + 1) _ _ (by rw [ii_add (by rw [lt1]; omega) (by rw [lt1]; omega), lt1, hk]; omega) (by omega) (fun j hj => ?_) (fr_tr hf (fr_sE (by decide)))
    rw [mE_sE]
    by_cases ej : j = k
    · rw [if_pos ⟨rfl, ej⟩, ej]
    · rw [if_neg (fun h => ej h.2)]; exact h j (by omega)
theorem v_ends (n : Nat) (σ : ms_T) : pr (f_X12_ends n σ) (fun τ => ms_I τ 667 = 0 ∧ ms_I τ 668 = ms_I σ 670 ∧ ms_I τ 669 = (if (ms_I σ 670).toInt ≤ 0 then -1 else ms_I σ 671) ∧ ms_I τ 652 = (if (ms_I σ 670).toInt ≤ 0 then 0 else 9) ∧ fr [667, 668, 669, 652] [] σ τ) := by
  have hJ : ∀ υ v, fr [667, 668] [] σ υ → ms_I υ 667 = 0 → ms_I υ 668 = ms_I σ 670 → v = (if (ms_I σ 670).toInt ≤ 0 then -1 else ms_I σ 671) → pr (f_X12_ends_J29 n υ v) (fun τ => ms_I τ 667 = 0 ∧ ms_I τ 668 = ms_I σ 670 ∧ ms_I τ 669 = (if (ms_I σ 670).toInt ≤ 0 then -1 else ms_I σ 671) ∧ ms_I τ 652 = (if (ms_I σ 670).toInt ≤ 0 then 0 else 9) ∧ fr [667, 668, 669, 652] [] σ τ) := by
    intro υ v hf h7 h8 hv
    unfold f_X12_ends_J29
    have h670 : ms_I (ms_sI υ 669 v) 670 = ms_I σ 670 := hf.1 670 (by decide)
    have hf2 : ∀ u : Int32, fr [667, 668, 669, 652] [] σ (ms_sI (ms_sI υ 669 v) 652 u) := fun u => fr_tr (fr_tr (fr_sb hf (by decide) (by decide)) (fr_sI (by decide))) (fr_sI (by decide))
    refine pr_l ?_
    rw [h670]
    refine pr_le (fun hc => pr_l (pr_s ⟨h7, h8, hv, ?_, hf2 0⟩)) (fun hc => pr_l (pr_s ⟨h7, h8, hv, ?_, hf2 9⟩))
    · rw [lt0] at hc
      rw [if_pos hc]; rfl
    · rw [lt0] at hc
      rw [if_neg (by omega)]; rfl
  unfold f_X12_ends
  refine pr_l (pr_l ?_)
  have h670 : ms_I (ms_sI (ms_sI σ 667 0) 668 (ms_I (ms_sI σ 667 0) 670)) 670 = ms_I σ 670 := rfl
  have hf : fr [667, 668] [] σ (ms_sI (ms_sI σ 667 0) 668 (ms_I (ms_sI σ 667 0) 670)) := fr_tr (fr_sI (by decide)) (fr_sI (by decide))
  rw [h670]
  refine pr_le (fun hc => hJ _ _ hf rfl rfl ?_) (fun hc => hJ _ _ hf rfl rfl ?_)
  · rw [lt0] at hc
    rw [if_pos hc]
  · rw [lt0] at hc
    rw [if_neg (by omega)]; rfl
theorem v_ld118 (n : Nat) (τ : ms_T) : pr (f_X12_load_J118 n τ) (fun res => (ms_I τ 670 = 0 → res.1 = ms_E τ 40 0 ∧ ms_E res.2 40 = ms_E τ 40 ∧ ms_I res.2 668 = 0 ∧ ms_I res.2 669 = -1 ∧ ms_I res.2 652 = 0) ∧ (0 < (ms_I τ 670).toInt → res.1 = -1 ∧ (∀ j, j < 1980 → ms_E res.2 40 j = ms_E τ 41 j) ∧ ms_I res.2 668 = ms_I τ 670 ∧ ms_I res.2 669 = ms_I τ 671 ∧ ms_I res.2 652 = 9) ∧ ms_I res.2 667 = 0 ∧ fr [667, 668, 669, 652] [40] τ res.2) := by
  unfold f_X12_load_J118
  refine pr_b (v_ends n τ) (fun υ hυ => ?_)
  obtain ⟨h7, h8, h9, h2, hf⟩ := hυ
  have e670 : ms_I υ 670 = ms_I τ 670 := hf.1 670 (by decide)
  rw [e670]
  refine pr_i (fun e => pr_g (fun _ _ => pr_s ⟨fun _ => ⟨?_, ?_, by rw [h8]; exact e, ?_, ?_⟩, fun h => ?_, h7, fr_sb hf (by decide) (by decide)⟩)) (fun e => ?_)
  · exact hf.2 40 (by decide) 0
  · funext j; exact hf.2 40 (by decide) j
  · show ms_I υ 669 = -1
    rw [h9, if_pos (by rw [e]; decide)]
  · show ms_I υ 652 = 0
    rw [h2, if_pos (by rw [e]; decide)]
  · rw [e, lt0] at h; omega
  · refine pr_m (v_ld138 n υ n 0 0 υ (by decide) (by omega) (fun j hj => by omega) fr_rf) (fun res hr => ?_)
    obtain ⟨r1, r2, r3⟩ := hr
    refine ⟨fun h => absurd h e, fun h => ⟨r1, fun j hj => by rw [r2 j hj]; exact hf.2 41 (by decide) j, by rw [r3.1 668 (by decide)]; exact h8, ?_, ?_⟩, by rw [r3.1 667 (by decide)]; exact h7, fr_tr (fr_sb hf (by decide) (by decide)) (fr_sb r3 (by decide) (by decide))⟩
    · rw [r3.1 669 (by decide), h9, if_neg (by omega)]
    · rw [r3.1 652 (by decide), h2, if_neg (by omega)]
def XSH (α : hp_T) (x : Nat) : Prop := hp_R α 603 x = x + 919 ∧ hp_R α 300 (x + 919) = x + 920 ∧ hp_R α 604 x = x + 921 ∧ hp_K α (x + 921) = 24 ∧ hp_R α 616 x = x + 944 ∧ RS α (x + 944)
def TPX (α : hp_T) (x : Nat) (σ : ms_T) : Prop := hp_I α 605 x = ms_I σ 667 ∧ ∀ j : Nat, (j : Int) < (ms_I σ 667).toInt → hp_E α 24 (x + 921) j = ms_E σ 47 j
def FLX (α : hp_T) (x : Nat) (σ : ms_T) : Prop := hp_I α 204 (x + 944) = ms_I σ 668 ∧ hp_I α 205 (x + 944) = ms_I σ 669
def pdl (f : Nat → Int32) : List Int32 := (List.range (f 2).toInt.toNat).map (fun k => f (8 + k))
def LXW (α : hp_T) (x : Nat) (σ : ms_T) : Prop := XSH α x ∧ RWX α x (ms_E σ 40) ∧ AL01 (ms_E σ 40) ∧ TPX α x σ ∧ (flP → FLX α x σ) ∧ (pdP → RWL α (x + 919) (pdl (ms_E σ 40)))
def ldf (x : Nat) (α β : hp_T) : Prop := (∀ φ b, ¬ (b = x ∧ (φ = 601 ∨ φ = 602)) → ¬ (b = x + 945 ∧ φ = 350) → hp_R β φ b = hp_R α φ b) ∧ hp_K β = hp_K α ∧ hp_Q β = hp_Q α ∧ hp_N β = hp_N α ∧ (∀ φ b, b < x ∨ x + 919 < b → b < x + 944 ∨ x + 955 ≤ b → hp_I β φ b = hp_I α φ b) ∧ (∀ φ, φ ≠ 600 → φ ≠ 605 → hp_I β φ x = hp_I α φ x) ∧ ∀ κ b j, b ≤ x ∨ x + 919 ≤ b → b < x + 944 ∨ x + 955 ≤ b → b ≠ x + 920 → hp_E β κ b j = hp_E α κ b j
theorem pdl_cg {f g : Nat → Int32} (h : rC f) (e : ∀ j, j < 1980 → g j = f j) : pdl g = pdl f := by
  unfold pdl
  have := h.2.2.1
  rw [e 2 (by omega)]
  refine List.map_congr_left (fun k hk => ?_)
  rw [List.mem_range] at hk
  exact e _ (by omega)
theorem nwM_rC {g : Nat → Int32} (h0 : g 0 = 1) (h1 : 101 ≤ (g 1).toInt ∧ (g 1).toInt ≤ 65521) (h2 : ∀ j, 2 ≤ j → j < 1980 → g j = 0) : rC g := by
  have z : ∀ j, 2 ≤ j → j < 1980 → (g j).toInt = 0 := fun j a b => by rw [h2 j a b]; decide
  refine ⟨by rw [h0]; decide, h1, by rw [z 2 (by omega) (by omega)]; omega, by rw [z 3 (by omega) (by omega)]; omega, fun r hr => by rw [z _ (by omega) (by omega)]; omega, fun r hr => by rw [z _ (by omega) (by omega)]; omega, fun r hr => by rw [z _ (by omega) (by omega)]; omega, fun r hr => by rw [z _ (by omega) (by omega)]; omega, fun r hr => by rw [z _ (by omega) (by omega)]; omega⟩
theorem k_rshort0 (n : Nat) (α : hp_T) (a : Nat) : ws (f_X5_shorten n α a 0) (fun β => (∀ l, RWL α a l → RWL β a []) ∧ ef a α β) := by
  unfold f_X5_shorten
  refine ws_lt (fun e => absurd e (by decide)) (fun _ => ws_l (ws_le (fun e => ws_s ⟨fun l h => ?_, ef_rf⟩) (fun e => ws_l (ws_s ⟨fun l _ => ⟨by decide, ?_, fun k hk => absurd hk (by simp)⟩, ef_sI⟩))))
  · rw [lt0] at e
    have h2 := h.2.1
    have : l = [] := List.length_eq_zero_iff.mp (by omega)
    rw [this] at h; exact h
  · rw [hI_sI, if_pos ⟨rfl, rfl⟩]; rfl
/-! ===== the call load ===== -/
/-- the modulus of a new world -/
theorem WR_mod {α : hp_T} {w : Nat} {g : Nat → Int32} (hS : ∀ g, nwF g → WR α w g) (m : Int32) (h0 : g 0 = 1) (h1 : g 1 = m) (h2 : ∀ j, 2 ≤ j → j < 1980 → g j = 0) : WR (hp_sI α 550 w m) w g := by
  have hn : nwF (fun j => if j = 1 then 65521 else g j) := ⟨by simp [h0], by simp, fun j a b => by show (if j = 1 then 65521 else g j) = 0; rw [if_neg (by omega)]; exact h2 j a b⟩
  obtain ⟨a1, a2, a3, a4, a5, a6⟩ := hS _ hn
  have hx : ∀ φ b, φ ≠ 550 → hp_I (hp_sI α 550 w m) φ b = hp_I α φ b := fun φ b hφ => by rw [hI_sI, if_neg (fun h => hφ h.1)]
  refine ⟨a1, ⟨by rw [hI_sI, if_pos ⟨rfl, rfl⟩, h1], ?_, ?_, ?_⟩, fun r hr => ?_, fun i hi => ?_, fun i hi => ?_, fun i hi => by rw [hx 301 _ (by decide)]; exact a6 i hi⟩
  · rw [hx 552 w (by decide)]; exact a2.2.1
  · rw [hx 554 w (by decide)]; exact a2.2.2.1
  · rw [hx 556 w (by decide)]; exact a2.2.2.2
  · have hr1 : r = 0 := by
      rw [h0] at hr
      have h9 : ((1 : Int32).toInt).toNat = 1 := by decide
      rw [h9] at hr
      omega
    subst hr1
    have := a3 0 (by show 0 < (g 0).toInt.toNat; rw [h0]; decide)
    refine ⟨by rw [hx 152 _ (by decide)]; exact this.1, fun i hi => ?_⟩
    rw [h2 (72 + 0) (by omega) (by omega), lt0] at hi
    exact absurd hi (by simp)
  · rw [h2 3 (by omega) (by omega), lt0] at hi
    exact absurd hi (by simp)
  · obtain ⟨b1, b2, b3, b4⟩ := a5 i hi
    simp only [if_neg (show ¬ 76 + 4 * i = 1 by omega), if_neg (show ¬ 77 + 4 * i = 1 by omega), if_neg (show ¬ 78 + 4 * i = 1 by omega), if_neg (show ¬ 79 + 4 * i = 1 by omega)] at b1 b2 b3 b4
    exact ⟨by rw [hx 400 _ (by decide)]; exact b1, by rw [hx 401 _ (by decide)]; exact b2, by rw [hx 403 _ (by decide)]; exact b3, by rw [hx 402 _ (by decide)]; exact b4⟩
def ldw : List Nat := [652, 653, 657, 658, 659, 660, 665, 667, 668, 669, 670, 671, 672, 673, 674, 675, 676, 679]
theorem r_load (n : Nat) (hn : 70000 ≤ n) (α : hp_T) (x : Nat) (σ : ms_T) (hR : RI σ) (h : LXW α x σ) (a : Int32) (res : Int32 × ms_T) (e : f_X12_load n σ a = some res) :
    ws (f_X11_load n α x a) (fun r => r.1 = res.1 ∧ LXW r.2 x res.2 ∧ ldf x α r.2 ∧ fr ldw [40, 41, 42, 43, 44, 46] σ res.2) := by
  obtain ⟨⟨s1, s2, s3, s4, s5, s6⟩, hRW, hA, ⟨tp1, tp2⟩, hFL, hP⟩ := id h
  have hC := hR.2
  have h667 := hR.1.2.1
  unfold f_X12_load at e
  replace e := ms_bE e
  obtain ⟨x1, ex1, e⟩ := e
  have hin := v_isIn n a 0 (ms_I σ 667) x1 ex1
  rw [lt0] at hin
  have hsI : ∀ v : Int32, ldf x α (hp_sI α 600 x v) := fun v => ⟨fun _ _ _ _ => rfl, rfl, rfl, rfl, fun φ b hb _ => by rw [hI_sI, if_neg (fun h => by omega)], fun φ h1 _ => by rw [hI_sI, if_neg (fun h => h1 h.1)], fun _ _ _ _ _ _ => rfl⟩
  have hrefuse : ¬ (0 ≤ a.toInt ∧ a.toInt ≤ (ms_I σ 667).toInt) → ws (f_X11_load_J12 n x α) (fun r => r.1 = res.1 ∧ LXW r.2 x res.2 ∧ ldf x α r.2 ∧ fr ldw [40, 41, 42, 43, 44, 46] σ res.2) := by
    intro hno
    have hx1 : x1 = 0 := by
      rcases hin with ⟨-, g⟩ | ⟨g, -⟩
      · exact absurd g hno
      · exact g
    rw [if_pos hx1] at e
    unfold f_X12_load_J18 at e
    have he := v_is1 n σ 1 (by decide) (k := fun τ => some ((-1 : Int32), τ)) (l := fun τ => f_X12_load_L28 n n τ a 0) (P := fun r => r = (-1, ms_sI (ms_sI σ 653 0) 652 1)) (pr_s rfl) res e
    subst he
    unfold f_X11_load_J12
    refine ws_hc (k_refuse n α x 1) (fun v β hv => ws_s ?_)
    obtain ⟨rfl, hβ⟩ := hv
    dsimp only at hβ
    subst hβ
    exact ⟨rfl, ⟨⟨s1, s2, s3, s4, s5, s6⟩, RWX_st hC hRW 1, hA, ⟨tp1, tp2⟩, fun p => ⟨(hFL p).1, (hFL p).2⟩, fun p => hP p⟩, hsI 1, fr_tr (fr_sI (by decide)) (fr_sI (by decide))⟩
  unfold f_X11_load
  refine ws_lt (fun hneg => hrefuse (by rw [lt0] at hneg; omega)) (fun hpos => ws_l ?_)
  rw [lt0] at hpos
  rw [tp1]
  refine ws_le (fun hle => ?_) (fun hgt => hrefuse (by omega))
  have hx1 : x1 = 1 := by
    rcases hin with ⟨g, -⟩ | ⟨-, g⟩
    · exact g
    · exact absurd ⟨by omega, hle⟩ g
  rw [if_neg (by rw [hx1]; decide)] at e
  unfold f_X12_load_J18 at e
  replace e := v_is0 n σ (k := fun τ => some ((-1 : Int32), τ)) (l := fun τ => f_X12_load_L28 n n τ a 0) (P := fun r => f_X12_load_L28 n n (ms_sI (ms_sI σ 653 0) 652 0) a 0 = some r) (fun r hr => hr) res e
  obtain ⟨σ1, f1, sv, e⟩ := v_ld28 n a res n 0 0 _ (by decide) (by omega) (fun j hj => by omega) e
  unfold ldB at e
  replace e := ms_bE e
  obtain ⟨σ2, ec, e⟩ := e
  obtain ⟨τc, ec', hcl⟩ := s_clears n (by omega) σ1
  have : τc = σ2 := by rw [ec] at ec'; cases ec'; rfl
  subst this
  obtain ⟨c1, c2, c3, c4, c5⟩ := hcl
  replace e := ms_lE rfl e
  replace e := ms_bE e
  obtain ⟨σ3, eb, e⟩ := e
  obtain ⟨w, u, h1, h2, h3, h4, h5, h6, h7, h8⟩ := id hRW
  refine ws_l ?_
  rw [h2]
  refine ws_b (k_renew n hn α u h6 h8) (fun β hβ => ?_)
  obtain ⟨b1, b2, b3⟩ := hβ
  have hSβ : RS β (x + 944) := RS_R s6 b2.1
  obtain ⟨t, ht⟩ : ∃ t : Nat → Int32, t = fun j => ms_E σ 47 j := ⟨_, rfl⟩
  obtain ⟨N, hNN⟩ : ∃ N : Nat, a.toInt = (N : Int) := ⟨a.toInt.toNat, by omega⟩
  -- the class reads
  have t1 : ∀ j, j < N → hp_E β 24 (x + 921) j = t j := fun j hj => by
    rw [b2.2.2.2.2.2 24 (x + 921) j (by omega), ht]
    exact tp2 j (by omega)
  have t2 : ∀ j, j < N → ms_E (ms_sI τc 679 0) 47 j = t j := fun j hj => by
    rw [mE_sI, c2 47 j (by decide), f1.2 47 (by decide) j, ht]; rfl
  have z40 : ms_E σ3 40 0 = 1 ∧ ms_E σ3 40 1 = 65521 ∧ ∀ j, 2 ≤ j → j < 1980 → ms_E σ3 40 j = 0 := by
    obtain ⟨υ, eυ, hυ⟩ := s_begins n hn (σ := ms_sI τc 679 0) a (by omega) (by omega)
    have : υ = σ3 := by rw [eb] at eυ; cases eυ; rfl
    subst this
    have hz := hυ.1.2 40 (by decide)
    exact ⟨by rw [hz]; exact c3, by rw [hz]; exact c4, fun j q r => by rw [hz]; exact c5 j q r⟩
  have hread : ws (f_X11_loadLines n β x a) (fun r => ∃ τ, fr FW [40, 42, 43, 44, 46] σ3 τ ∧ f_X12_load_J118 n τ = some res ∧ ((∀ φ b, ¬ (b = x + 945 ∧ φ = 350) → hp_R r.2 φ b = hp_R β φ b) ∧ hp_K r.2 = hp_K β ∧ hp_Q r.2 = hp_Q β ∧ hp_N r.2 = hp_N β ∧ (∀ φ b, b < u ∨ u + 459 ≤ b → b < x + 944 ∨ x + 955 ≤ b → hp_I r.2 φ b = hp_I β φ b) ∧ ∀ κ b j, b < u ∨ u + 459 ≤ b → b < x + 944 ∨ x + 955 ≤ b → hp_E r.2 κ b j = hp_E β κ b j) ∧ ((r.1 = 0 ∧ BAD r.2 (x + 944) τ ∧ UOK r.2 u) ∨ (r.1 = 1 ∧ ms_I τ 670 = 0 ∧ (WR r.2 u (ms_E τ 40) ∧ rC (ms_E τ 40) ∧ AL01 (ms_E τ 40) ∧ rG r.2 u) ∧ hp_I r.2 204 (x + 944) = 0 ∧ hp_I r.2 205 (x + 944) = -1 ∧ ms_E τ 40 2 = 0))) := by
    unfold f_X11_loadLines
    refine ws_l (ws_l ?_)
    have e616 : hp_R β 616 x = x + 944 := by rw [b2.1]; exact s5
    have e604 : hp_R β 604 x = x + 921 := by rw [b2.1]; exact s3
    have e602 : hp_R β 602 x = u := by rw [b2.1]; exact h2
    rw [e616, e604]
    refine ws_b (r_begin n hn (t := t) (N := N) hSβ.1 (by rw [b2.2.1]; exact s4) (by omega) a hNN t1) (fun γ hγ => ?_)
    obtain ⟨g1, g2, g3, gR, gR2, gK, gQ, gN, gI, gE⟩ := hγ
    obtain ⟨hT, hfb⟩ := g1 (ms_sI τc 679 0) σ3 t2 eb
    have hSγ : RS γ (x + 944) := by
      refine ⟨?_, ?_, ?_⟩
      · rw [gR 200 _ (fun h => absurd h.1 (by decide))]; exact hSβ.1
      · rw [gR 207 _ (fun h => absurd h.1 (by decide))]; exact hSβ.2.1
      · rw [gR 500 _ (fun h => absurd h.1 (by decide))]; exact hSβ.2.2
    have k616 : hp_R γ 616 x = x + 944 := by rw [gR 616 _ (fun h => absurd h.1 (by decide))]; exact e616
    have k602 : hp_R γ 602 x = u := by rw [gR 602 _ (fun h => absurd h.1 (by decide))]; exact e602
    refine ws_l (ws_l ?_)
    rw [k616, k602]
    have hWγ : ∀ g, nwF g → WR γ u g := fun g hg => WR_x (b1 g hg) (nwM_rC hg.1 (by rw [hg.2.1]; decide) hg.2.2) (fun φ b _ hb => gR φ b (by omega)) gQ (fun φ b _ hb => gI φ b (by omega)) (fun κ b j _ _ => gE κ b j)
    have hnw : nwF (ms_E σ3 40) := z40
    have h679 : ms_I σ3 679 = 0 := by rw [hfb.1 679 (by decide), mI_sI, if_pos rfl]
    have hGγ : rG γ u := by unfold rG; rw [gI 301 (u + 5) (by omega), b3]; exact h7
    refine ws_hc (r_modulus n hn hSγ hT (w := u) ⟨by omega, by omega⟩ res e) (fun v δ hδ => ?_)
    obtain ⟨τ, eτ, fτ, n679, hc⟩ := hδ
    rcases hc with ⟨hv, hF, hB⟩ | ⟨hv, hKF, ⟨q', hT'⟩, hm⟩
    · refine ws_i (fun _ => ws_s ⟨τ, fr_sb fτ (by decide) (by decide), ?_, ⟨fun φ b hb => ?_, by rw [hF.2.1]; exact gK, by rw [hF.2.2.1]; exact gQ, by rw [hF.2.2.2.1]; exact gN, fun φ b _ hb => ?_, fun κ b j _ hb => ?_⟩, Or.inl ⟨rfl, hB, ?_⟩⟩) (fun h => absurd hv h)
      · cases n with
        | zero => omega
        | succ n =>
          unfold f_X12_load_L97 at eτ
          rw [if_neg (BAD_p hB)] at eτ
          exact eτ
      · show hp_R δ φ b = _
        rw [hF.1]; exact gR φ b (fun h => hb ⟨h.2, h.1⟩)
      · show hp_I δ φ b = _
        rw [hF.2.2.2.2.1 φ b hb]; exact gI φ b hb
      · show hp_E δ κ b j = _
        rw [hF.2.2.2.2.2 κ b j hb]; exact gE κ b j
      · have hW0 := hWγ _ hnw
        have hC0 : rC (ms_E σ3 40) := nwM_rC hnw.1 (by rw [hnw.2.1]; decide) hnw.2.2
        have hW1 : WR δ u (ms_E σ3 40) := WR_rfr hW0 hC0 (by omega) hF
        exact ⟨hW1.1, by unfold rG; rw [hF.2.2.2.2.1 301 (u + 5) (by omega)]; exact hGγ, hW1.2.2.2.2.2⟩
    · refine ws_i (fun h => absurd (hv.symm.trans h) (by decide)) (fun _ => ?_)
      -- the new world, with its modulus
      have hnew : (WR δ u (ms_E τ 40) ∧ rC (ms_E τ 40) ∧ AL01 (ms_E τ 40) ∧ rG δ u) ∧ ms_E τ 40 0 = 1 ∧ ms_E τ 40 2 = 0 ∧ (hp_R δ = hp_R γ ∧ hp_K δ = hp_K γ ∧ hp_Q δ = hp_Q γ ∧ hp_N δ = hp_N γ ∧ (∀ φ b, b < u ∨ u + 459 ≤ b → b < x + 944 ∨ x + 955 ≤ b → hp_I δ φ b = hp_I γ φ b) ∧ ∀ κ b j, b < u ∨ u + 459 ≤ b → b < x + 944 ∨ x + 955 ≤ b → hp_E δ κ b j = hp_E γ κ b j) := by
        rcases hm with ⟨rfl, rfl⟩ | ⟨m, hm, hF, m1, m2⟩
        · refine ⟨⟨hWγ _ hnw, nwM_rC hnw.1 (by rw [hnw.2.1]; decide) hnw.2.2, ⟨fun v hv => Or.inl (hnw.2.2 _ (by omega) (by omega)), fun i hi => by rw [hnw.2.2 3 (by omega) (by omega), lt0] at hi; omega⟩, hGγ⟩, hnw.1, hnw.2.2 2 (by omega) (by omega), rfl, rfl, rfl, rfl, fun _ _ _ _ => rfl, fun _ _ _ _ _ => rfl⟩
        · have m0 : ms_E τ 40 0 = 1 := by rw [m2 0 (by omega)]; exact hnw.1
          have m3 : ∀ j, 2 ≤ j → j < 1980 → ms_E τ 40 j = 0 := fun j p q => by rw [m2 j (by omega)]; exact hnw.2.2 j p q
          have hCm : rC (ms_E τ 40) := nwM_rC m0 (by rw [m1]; exact hm) m3
          refine ⟨⟨WR_rfr (WR_mod hWγ m m0 m1 m3) hCm (by omega) hF, hCm, ⟨fun v hv => Or.inl (m3 _ (by omega) (by omega)), fun i hi => by rw [m3 3 (by omega) (by omega), lt0] at hi; omega⟩, ?_⟩, m0, m3 2 (by omega) (by omega), hF.1, hF.2.1, hF.2.2.1, hF.2.2.2.1, fun φ b hb1 hb2 => ?_, fun κ b j _ hb2 => hF.2.2.2.2.2 κ b j hb2⟩
          · unfold rG
            rw [hF.2.2.2.2.1 301 (u + 5) (by omega), hI_sI, if_neg (fun h => absurd h.1 (by decide))]
            exact hGγ
          · rw [hF.2.2.2.2.1 φ b hb2, hI_sI, if_neg (fun h => by omega)]
      obtain ⟨⟨w1, w2, w3, w4⟩, y0, y2, dR, dK, dQ, dN, dI, dE⟩ := hnew
      have hT0 : ms_I τ 679 = 0 := n679.trans h679
      have hLDI : LDI x u (x + 944) t N δ τ 0 q' := ⟨⟨RS_R hSγ dR, by rw [dR]; exact k616, by rw [dR]; exact k602, by omega, by rw [dR]; have : hp_R γ 350 (x + 944 + 1) = x + 921 := gR2; omega⟩, hT', ⟨w1, w2, w3, w4⟩, by rw [y0]; decide, by rw [hT0]; decide⟩
      have hlp := r_loop n hn x u (x + 944) t N res n δ τ 0 q' 0 0 n hLDI (by decide) (by omega) (by omega) eτ
      rw [hT0] at hlp
      refine ws_m hlp (fun r hr => ?_)
      obtain ⟨⟨lR, lK, lQ, lN, lI, lE⟩, τ2, fτ2, eτ2, hc⟩ := hr
      refine ⟨τ2, fr_tr (fr_sb fτ (by decide) (by decide)) (fr_sb fτ2 (by decide) (by decide)), eτ2, ⟨fun φ b hb => ?_, by rw [lK, dK]; exact gK, by rw [lQ, dQ]; exact gQ, by rw [lN, dN]; exact gN, fun φ b hb1 hb2 => ?_, fun κ b j hb1 hb2 => ?_⟩, ?_⟩
      · rw [lR, dR]; exact gR φ b (fun h => hb ⟨h.2, h.1⟩)
      · rw [lI φ b hb1 hb2, dI φ b hb1 hb2]; exact gI φ b hb2
      · rw [lE κ b j hb1 hb2, dE κ b j hb1 hb2]; exact gE κ b j
      · rcases hc with hc | ⟨z1, z2, z3, z4, z5⟩
        · exact Or.inl hc
        · exact Or.inr ⟨z1, z2, z3, by rw [z4.1, hKF.1]; exact g2, by rw [z4.2, hKF.2]; exact g3, z5.trans y2⟩
  -- what reading leaves of the rest
  have fσ3 : fr [652, 653, 670, 672, 673, 674, 675, 676, 679] [40, 41] σ σ3 := by
    obtain ⟨υ, eυ, hυ⟩ := s_begins n hn (σ := ms_sI τc 679 0) a (by omega) (by omega)
    have : υ = σ3 := by rw [eb] at eυ; cases eυ; rfl
    subst this
    have k1 : fr [652, 653, 670, 672, 673, 674, 675, 676, 679] [40, 41] σ σ1 := fr_tr (fr_tr (fr_sI (by decide)) (fr_sI (by decide))) (fr_sb f1 (by decide) (by decide))
    have k2 : fr [652, 653, 670, 672, 673, 674, 675, 676, 679] [40, 41] σ1 τc := ⟨fun φ _ => c1 φ, fun κ hκ j => c2 κ j (fun h => hκ (by rw [h]; decide))⟩
    exact fr_tr (fr_tr (fr_tr k1 k2) (fr_sI (by decide))) (fr_sb hυ.1 (by decide) (by decide))
  have f41 : ∀ j, j < 1980 → ms_E σ3 41 j = ms_E σ 40 j := fun j hj => by
    obtain ⟨υ, eυ, hυ⟩ := s_begins n hn (σ := ms_sI τc 679 0) a (by omega) (by omega)
    have : υ = σ3 := by rw [eb] at eυ; cases eυ; rfl
    subst this
    rw [hυ.1.2 41 (by decide) j, mE_sI, c2 41 j (by decide), sv j hj, f1.2 40 (by decide) j]; rfl
  refine ws_hc hread (fun v γ hγ => ws_l ?_)
  obtain ⟨τ, fτ, eτ, ⟨gR, gK, gQ, gN, gI, gE⟩, hc⟩ := hγ
  replace gR : ∀ φ b, ¬ (b = x + 945 ∧ φ = 350) → hp_R γ φ b = hp_R β φ b := gR
  replace gI : ∀ φ b, b < u ∨ u + 459 ≤ b → b < x + 944 ∨ x + 955 ≤ b → hp_I γ φ b = hp_I β φ b := gI
  replace gE : ∀ κ b j, b < u ∨ u + 459 ≤ b → b < x + 944 ∨ x + 955 ≤ b → hp_E γ κ b j = hp_E β κ b j := gE
  obtain ⟨r1, r2, r3, r4⟩ := v_ld118 n τ res eτ
  have hfr : fr ldw [40, 41, 42, 43, 44, 46] σ res.2 := fr_tr (fr_tr (fr_sb fσ3 (by decide) (by decide)) (fr_sb fτ (by decide) (by decide))) (fr_sb r4 (by decide) (by decide))
  -- the old world, as it was
  have hWw : WR γ w (ms_E σ 40) := WR_x h4 hC (fun φ b p q => by rw [gR φ b (by omega), b2.1]) (gQ.trans b2.2.2.1) (fun φ b p q => by rw [gI φ b (by omega) (by omega)]; exact b2.2.2.2.2.1 φ b (by omega)) (fun κ b j p q => by rw [gE κ b j (by omega) (by omega)]; exact b2.2.2.2.2.2 κ b j (by omega))
  have hGw : rG γ w := by unfold rG; rw [gI 301 (w + 5) (by omega) (by omega), b2.2.2.2.2.1 301 (w + 5) (by omega)]; exact h5
  have gRx : ∀ φ b, ¬ (b = x + 945 ∧ φ = 350) → hp_R γ φ b = hp_R α φ b := fun φ b hb => by rw [gR φ b hb, b2.1]
  have gIx : ∀ φ b, b < u ∨ u + 459 ≤ b → b < x + 944 ∨ x + 955 ≤ b → hp_I γ φ b = hp_I α φ b := fun φ b p q => by rw [gI φ b p q]; exact b2.2.2.2.2.1 φ b p
  have gEx : ∀ κ b j, b < u ∨ u + 459 ≤ b → b < x + 944 ∨ x + 955 ≤ b → hp_E γ κ b j = hp_E α κ b j := fun κ b j p q => by rw [gE κ b j p q]; exact b2.2.2.2.2.2 κ b j p
  have gKx : hp_K γ = hp_K α := gK.trans b2.2.1
  have hXS : XSH γ x := by
    refine ⟨by rw [gRx 603 x (by omega)]; exact s1, by rw [gRx 300 _ (by omega)]; exact s2, by rw [gRx 604 x (by omega)]; exact s3, by rw [gKx]; exact s4, by rw [gRx 616 x (by omega)]; exact s5, ?_⟩
    exact ⟨by rw [gRx 200 _ (by omega)]; exact s6.1, by rw [gRx 207 _ (by omega)]; exact s6.2.1, by rw [gRx 500 _ (by omega)]; exact s6.2.2⟩
  rcases hc with ⟨hv, hB, hU⟩ | ⟨hv, h0, ⟨w1, w2, w3, w4⟩, y1, y2, y3⟩
  · replace hv : v = 0 := hv
    replace hB : BAD γ (x + 944) τ := hB
    replace hU : UOK γ u := hU
    subst hv
    refine ws_i (fun _ => ?_) (fun h => absurd rfl h)
    refine ws_hc (k_refuse n _ x 9) (fun v2 δ hδ => ws_s ?_)
    obtain ⟨hv2, hδ⟩ := hδ
    replace hδ : δ = hp_sI (hp_sI γ 605 x 0) 600 x 9 := hδ
    obtain ⟨p1, p2, p3, p4, p5⟩ := r2 hB.1
    have hcg : ∀ j, j < 1980 → ms_E res.2 40 j = ms_E σ 40 j := fun j hj => by rw [p2 j hj, fτ.2 41 (by decide) j]; exact f41 j hj
    have dI : ∀ φ b, hp_I δ φ b = if φ = 600 ∧ b = x then 9 else if φ = 605 ∧ b = x then 0 else hp_I γ φ b := fun φ b => by rw [hδ]; rfl
    have dIn : ∀ φ b, b ≠ x → hp_I δ φ b = hp_I γ φ b := fun φ b hb => by rw [dI, if_neg (fun h => hb h.2), if_neg (fun h => hb h.2)]
    have dR : hp_R δ = hp_R γ := by rw [hδ]; rfl
    have dQ : hp_Q δ = hp_Q γ := by rw [hδ]; rfl
    have dE : hp_E δ = hp_E γ := by rw [hδ]; rfl
    have dK : hp_K δ = hp_K γ := by rw [hδ]; rfl
    have dN : hp_N δ = hp_N γ := by rw [hδ]; rfl
    have hWδ : WR δ w (ms_E res.2 40) := WR_cg (WR_x hWw hC (fun _ _ _ _ => by rw [dR]) dQ (fun φ b p q => dIn φ b (by omega)) (fun κ b j _ _ => by rw [dE])) hC hcg
    refine ⟨hv2.trans p1.symm, ⟨?_, ⟨w, u, by rw [dR, gRx 601 x (by omega)]; exact h1, by rw [dR, gRx 602 x (by omega)]; exact h2, h3, hWδ, ?_, ?_, ?_, ?_⟩, AL_eq hC hA (hcg 0 (by omega)) (hcg 3 (by omega)) (fun j _ q => hcg j (by omega)), ⟨?_, fun j hj => ?_⟩, fun _ => ⟨?_, ?_⟩, fun hp => ?_⟩, ?_, hfr⟩
    · obtain ⟨z1, z2, z3, z4, z5, z6⟩ := hXS
      exact ⟨by rw [dR]; exact z1, by rw [dR]; exact z2, by rw [dR]; exact z3, by rw [dK]; exact z4, by rw [dR]; exact z5, RS_R z6 dR⟩
    · unfold rG; rw [dIn _ _ (by omega)]; exact hGw
    · exact SHW_x hU.1 (fun _ _ _ _ => by rw [dR]) dQ
    · unfold rG; rw [dIn _ _ (by omega)]; exact hU.2.1
    · intro i hi; rw [dIn _ _ (by unfold fzA; omega)]; exact hU.2.2 i hi
    · rw [dI, if_neg (fun h => absurd h.1 (by decide)), if_pos ⟨rfl, rfl⟩]; exact r3.symm
    · have hj' : (j : Int) < (ms_I res.2 667).toInt := hj
      rw [r3, lt0] at hj'
      omega
    · rw [dIn _ _ (by omega), p3]; exact hB.2.1
    · rw [dIn _ _ (by omega), p4]; exact hB.2.2
    · rw [pdl_cg hC hcg]
      exact ⟨(hP hp).1, by rw [dIn _ _ (by omega), gIx _ _ (by omega) (by omega)]; exact (hP hp).2.1, fun k hk => by rw [dR, dE, gRx 300 _ (by omega), s2, gEx 20 _ _ (by omega) (by omega), ← s2]; exact (hP hp).2.2 k hk⟩
    · exact ⟨fun φ b _ hb => by rw [dR]; exact gRx φ b hb, dK.trans gKx, dQ.trans (gQ.trans b2.2.2.1), dN.trans (gN.trans b2.2.2.2.1), fun φ b p q => by rw [dIn φ b (by omega)]; exact gIx φ b (by omega) q, fun φ p q => by rw [dI, if_neg (fun h => p h.1), if_neg (fun h => q h.1)]; exact gIx φ x (by omega) (by omega), fun κ b j p q _ => by rw [dE]; exact gEx κ b j (by omega) q⟩
  · replace hv : v = 1 := hv
    replace w1 : WR γ u (ms_E τ 40) := w1
    replace w4 : rG γ u := w4
    replace y1 : hp_I γ 204 (x + 944) = 0 := y1
    replace y2 : hp_I γ 205 (x + 944) = -1 := y2
    subst hv
    refine ws_i (fun h => absurd h (by decide)) (fun _ => ws_l (ws_l (ws_l (ws_l (ws_l ?_)))))
    obtain ⟨p1, p2, p3, p4, p5⟩ := r1 h0
    have q601 : hp_R (hp_sI γ 605 x 0) 601 x = w := by show hp_R γ 601 x = w; rw [gRx 601 x (by omega)]; exact h1
    have q602 : hp_R (hp_sI γ 605 x 0) 602 x = u := by show hp_R γ 602 x = u; rw [gRx 602 x (by omega)]; exact h2
    rw [q601, q602]
    obtain ⟨ε, hε⟩ : ∃ ε, ε = hp_sR (hp_sR (hp_sI γ 605 x 0) 601 x u) 602 x w := ⟨_, rfl⟩
    rw [← hε]
    have eI : ∀ φ b, hp_I ε φ b = if φ = 605 ∧ b = x then 0 else hp_I γ φ b := fun φ b => by rw [hε]; rfl
    have eR : ∀ φ b, hp_R ε φ b = if φ = 602 ∧ b = x then w else if φ = 601 ∧ b = x then u else hp_R γ φ b := fun φ b => by rw [hε]; rw [hR_sR, hR_sR]; rfl
    have eRn : ∀ φ b, ¬ (b = x ∧ (φ = 601 ∨ φ = 602)) → hp_R ε φ b = hp_R γ φ b := fun φ b hb => by rw [eR, if_neg (fun h => hb ⟨h.2, Or.inr h.1⟩), if_neg (fun h => hb ⟨h.2, Or.inl h.1⟩)]
    have eE : hp_E ε = hp_E γ := by rw [hε]; rfl
    have eQ : hp_Q ε = hp_Q γ := by rw [hε]; rfl
    have eK : hp_K ε = hp_K γ := by rw [hε]; rfl
    have eN : hp_N ε = hp_N γ := by rw [hε]; rfl
    have e603 : hp_R ε 603 x = x + 919 := by rw [eRn _ _ (by omega)]; exact hXS.1
    rw [e603]
    have hPε : pdP → RWL ε (x + 919) (pdl (ms_E σ 40)) := fun hp => ⟨(hP hp).1, by rw [eI, if_neg (fun h => absurd h.1 (by decide)), gIx _ _ (by omega) (by omega)]; exact (hP hp).2.1, fun k hk => by rw [eRn _ _ (by omega), eE, gRx 300 _ (by omega), s2, gEx 20 _ _ (by omega) (by omega), ← s2]; exact (hP hp).2.2 k hk⟩
    refine ws_b (k_rshort0 n ε (x + 919)) (fun ζ hζ => ws_l (ws_l ?_))
    obtain ⟨hPζ, ef1⟩ := hζ
    obtain ⟨zR, zK, zQ, zN, zI, zE⟩ := ef1
    have z601 : hp_R ζ 601 x = u := by rw [zR, eR, if_neg (fun h => absurd h.1 (by decide)), if_pos ⟨rfl, rfl⟩]
    rw [z601]
    refine ws_hc (k_answer n ζ x _) (fun v2 δ hδ => ws_s ?_)
    obtain ⟨hv2, hδ⟩ := hδ
    replace hv2 : v2 = hp_I ζ 552 u := hv2
    replace hδ : δ = hp_sI ζ 600 x 0 := hδ
    have dI : ∀ φ b, b ≠ x → ¬ (b = x + 919 ∧ φ = 301) → hp_I δ φ b = hp_I γ φ b := fun φ b hb hc => by
      rw [hδ, hI_sI, if_neg (fun h => hb h.2), zI φ b hc, eI, if_neg (fun h => hb h.2)]
    have dR : ∀ φ b, hp_R δ φ b = hp_R ε φ b := fun φ b => by rw [hδ]; show hp_R ζ φ b = _; rw [zR]
    have dE : ∀ κ b j, b ≠ x + 920 → hp_E δ κ b j = hp_E γ κ b j := fun κ b j hb => by
      rw [hδ]; show hp_E ζ κ b j = _
      rw [zE κ b j (fun h => hb (by rw [h.2, eRn _ _ (by omega)]; exact hXS.2.1)), eE]
    have dQ : hp_Q δ = hp_Q γ := by rw [hδ]; show hp_Q ζ = _; rw [zQ, eQ]
    have dK : hp_K δ = hp_K γ := by rw [hδ]; show hp_K ζ = _; rw [zK, eK]
    have dN : hp_N δ = hp_N γ := by rw [hδ]; show hp_N ζ = _; rw [zN, eN]
    have hWu : WR δ u (ms_E res.2 40) := by
      rw [p2]
      exact WR_x w1 w2 (fun φ b p q => by rw [dR, eRn φ b (by omega)]) dQ (fun φ b p q => dI φ b (by omega) (by omega)) (fun κ b j p q => dE κ b j (by omega))
    have hWw2 : WR δ w (ms_E σ 40) := WR_x hWw hC (fun φ b p q => by rw [dR, eRn φ b (by omega)]) dQ (fun φ b p q => dI φ b (by omega) (by omega)) (fun κ b j p q => dE κ b j (by omega))
    have h552 : hp_I ζ 552 u = ms_E τ 40 0 := by rw [zI _ _ (by omega), eI, if_neg (fun h => absurd h.1 (by decide))]; exact w1.2.1.2.1
    refine ⟨by rw [p1]; exact hv2.trans h552, ⟨?_, ⟨u, w, ?_, ?_, by omega, hWu, ?_, hWw2.1, ?_, hWw2.2.2.2.2.2⟩, by rw [p2]; exact w3, ⟨?_, fun j hj => ?_⟩, fun _ => ⟨?_, ?_⟩, fun hp => ?_⟩, ?_, hfr⟩
    · obtain ⟨z1, z2, z3, z4, z5, z6⟩ := hXS
      exact ⟨by rw [dR, eRn _ _ (by omega)]; exact z1, by rw [dR, eRn _ _ (by omega)]; exact z2, by rw [dR, eRn _ _ (by omega)]; exact z3, by rw [dK]; exact z4, by rw [dR, eRn _ _ (by omega)]; exact z5, by rw [dR, eRn _ _ (by omega)]; exact z6.1, by rw [dR, eRn _ _ (by omega)]; exact z6.2.1, by rw [dR, eRn _ _ (by omega)]; exact z6.2.2⟩
    · rw [dR, eR, if_neg (fun h => absurd h.1 (by decide)), if_pos ⟨rfl, rfl⟩]
    · rw [dR, eR, if_pos ⟨rfl, rfl⟩]
    · unfold rG; rw [dI _ _ (by omega) (by omega)]; exact w4
    · unfold rG; rw [dI _ _ (by omega) (by omega)]; exact hGw
    · rw [hδ, hI_sI, if_neg (fun h => absurd h.1 (by decide)), zI _ _ (by omega), eI, if_pos ⟨rfl, rfl⟩]; exact r3.symm
    · have hj' : (j : Int) < (ms_I res.2 667).toInt := hj
      rw [r3, lt0] at hj'
      omega
    · rw [dI _ _ (by omega) (by omega), y1]; exact p3.symm
    · rw [dI _ _ (by omega) (by omega), y2]; exact p4.symm
    · have hpd : pdl (ms_E res.2 40) = [] := by unfold pdl; rw [p2, y3]; rfl
      rw [hpd]
      refine ⟨by decide, ?_, fun k hk => absurd hk (by simp)⟩
      rw [hδ, hI_sI, if_neg (fun h => absurd h.1 (by decide))]
      exact (hPζ _ (hPε hp)).2.1
    · exact ⟨fun φ b p q => by rw [dR, eRn φ b p]; exact gRx φ b q, dK.trans gKx, dQ.trans (gQ.trans b2.2.2.1), dN.trans (gN.trans b2.2.2.2.1), fun φ b p q => by rw [dI φ b (by omega) (by omega)]; exact gIx φ b (by omega) q, fun φ p q => by rw [hδ, hI_sI, if_neg (fun h => p h.1), zI φ x (by omega), eI, if_neg (fun h => q h.1)]; exact gIx φ x (by omega) (by omega), fun κ b j p q hb => by rw [dE κ b j hb]; exact gEx κ b j (by omega) q⟩
end JN10_1
section JN10_2
set_option maxRecDepth 100000
/-! ===== what the reference's calls leave: cells, the tape's bytes, the word typed ===== -/
def kq (σ τ : ms_T) : Prop := (∀ φ, (φ == 664) = true → ms_I τ φ = ms_I σ φ) ∧ (∀ κ, (κ == 40 || κ == 45 || κ == 47) = true → ∀ j, ms_E τ κ j = ms_E σ κ j)
theorem kq_rf {σ : ms_T} : kq σ σ := ⟨fun _ _ => rfl, fun _ _ _ => rfl⟩
theorem kq_sI {σ0 σ : ms_T} {φ : Nat} {v : Int32} (hφ : (φ == 664) = false) (h : kq σ0 σ) : kq σ0 (ms_sI σ φ v) := by
  refine ⟨fun ψ hψ => ?_, h.2⟩
  rw [mI_sI, if_neg (fun e => by rw [e, hφ] at hψ; cases hψ)]
  exact h.1 ψ hψ
theorem kq_sE {σ0 σ : ms_T} {κ i : Nat} {v : Int32} (hκ : (κ == 40 || κ == 45 || κ == 47) = false) (h : kq σ0 σ) : kq σ0 (ms_sE σ κ i v) := by
  refine ⟨h.1, fun ψ hψ j => ?_⟩
  rw [mE_sE, if_neg (fun e => by rw [e.1, hκ] at hψ; cases hψ)]
  exact h.2 ψ hψ j
theorem kq_sJ {σ0 σ : ms_T} {v : Int64} (h : kq σ0 σ) : kq σ0 (ms_sJ σ v) := h
theorem pr_any {R : Type} {o : Option R} : pr o (fun _ => True) := fun _ _ => trivial
theorem z_X12_status {n : Nat} {σ : ms_T} {σ0 : ms_T} (h0 : kq σ0 σ)  : pr (f_X12_status n σ) (fun res => kq σ0 res.2) := by
  unfold f_X12_status
  refine pr_ln (fun σh1 e1 => ?_)
  have h_1 : kq σ0 σh1 := by rw [e1]; exact kq_sI rfl h0
  exact pr_s h_1
theorem z_X12_refuse {n : Nat} {σ : ms_T} {a1 : Int32} {σ0 : ms_T} (h0 : kq σ0 σ)  : pr (f_X12_refuse n σ a1) (fun res => kq σ0 res.2) := by
  unfold f_X12_refuse
  refine pr_ln (fun σh1 e1 => ?_)
  have h_1 : kq σ0 σh1 := by rw [e1]; exact kq_sI rfl h0
  exact pr_s h_1
theorem z_X12_is {n : Nat} {σ : ms_T} {a1 : Int32} {σ0 : ms_T} (h0 : kq σ0 σ)  : pr (f_X12_is n σ a1) (fun res => kq σ0 res.2) := by
  unfold f_X12_is
  refine pr_ln (fun σh1 e1 => ?_)
  have h_1 : kq σ0 σh1 := by rw [e1]; exact kq_sI rfl h0
  refine pr_ln (fun σh2 e2 => ?_)
  have h_2 : kq σ0 σh2 := by rw [e2]; exact kq_sI rfl h_1
  refine pr_i (fun _ => ?_) (fun _ => ?_)
  ·
    exact pr_s h_2
  ·
    exact pr_s h_2
theorem z_X12_asks {n : Nat} {σ : ms_T} {a1 : Int32} {a2 : Int32} {σ0 : ms_T} (h0 : kq σ0 σ)  : pr (f_X12_asks n σ a1 a2) (fun res => kq σ0 res) := by
  unfold f_X12_asks
  refine pr_g (fun _ _ => ?_)
  refine pr_ln (fun σh2 e1 => ?_)
  have h_1 : kq σ0 σh2 := by rw [e1]; exact kq_sE rfl h0
  refine pr_g (fun _ _ => ?_)
  refine pr_ln (fun σh4 e2 => ?_)
  have h_2 : kq σ0 σh4 := by rw [e2]; exact kq_sE rfl h_1
  refine pr_ln (fun σh5 e3 => ?_)
  have h_3 : kq σ0 σh5 := by rw [e3]; exact kq_sI rfl h_2
  exact pr_s h_3
theorem z_X12_waysIn {n : Nat} {σ0 : ms_T}  : ∀ (d : Nat) {σ : ms_T} {a1 : Int32} {a2 : Int32} {a3 : Int32}, kq σ0 σ → pr (f_X12_waysIn n d σ a1 a2 a3) (fun res => kq σ0 res) := by
  intro d
  induction d with
  | zero => intro σ a1 a2 a3 h0; rw [f_X12_waysIn.eq_1]; exact pr_0
  | succ d ih =>
    intro σ a1 a2 a3 h0
    rw [f_X12_waysIn.eq_2]
    refine pr_i (fun _ => ?_) (fun _ => ?_)
    ·
      exact pr_s h0
    ·
      refine pr_b pr_any (fun rh2 _ => ?_)
      refine pr_i (fun _ => ?_) (fun _ => ?_)
      ·
        refine pr_b (ih h0) (fun σh4 h_1 => ?_)
        replace h_1 : kq σ0 σh4 := h_1
        refine pr_b (z_X12_asks h_1 ) (fun σh5 h_2 => ?_)
        replace h_2 : kq σ0 σh5 := h_2
        exact pr_s h_2
      ·
        refine pr_b (ih h0) (fun σh6 h_3 => ?_)
        replace h_3 : kq σ0 σh6 := h_3
        refine pr_b (z_X12_asks h_3 ) (fun σh7 h_4 => ?_)
        replace h_4 : kq σ0 σh7 := h_4
        exact pr_s h_4
theorem z_X12_inclusion {n : Nat} {σ : ms_T} {a1 : Int32} {a2 : Int32} {σ0 : ms_T} (h0 : kq σ0 σ)  : pr (f_X12_inclusion n σ a1 a2) (fun res => kq σ0 res) := by
  unfold f_X12_inclusion
  refine pr_ln (fun σh1 e1 => ?_)
  have h_1 : kq σ0 σh1 := by rw [e1]; exact kq_sI rfl h0
  refine pr_b (z_X12_waysIn  _ h_1) (fun σh2 h_2 => ?_)
  replace h_2 : kq σ0 σh2 := h_2
  exact pr_s h_2
theorem z_X12_growsIn {n : Nat} {σ0 : ms_T}  : ∀ (d : Nat) {σ : ms_T} {a1 : Int32} {a2 : Int32} {a3 : Int32} {a4 : Int32}, kq σ0 σ → pr (f_X12_growsIn n d σ a1 a2 a3 a4) (fun res => kq σ0 res) := by
  intro d
  induction d with
  | zero => intro σ a1 a2 a3 a4 h0; rw [f_X12_growsIn.eq_1]; exact pr_0
  | succ d ih =>
    intro σ a1 a2 a3 a4 h0
    rw [f_X12_growsIn.eq_2]
    refine pr_i (fun _ => ?_) (fun _ => ?_)
    ·
      refine pr_i (fun _ => ?_) (fun _ => ?_)
      ·
        refine pr_b (z_X12_asks h0 ) (fun σh9 h_1 => ?_)
        replace h_1 : kq σ0 σh9 := h_1
        exact pr_s h_1
      ·
        exact pr_s h0
    ·
      refine pr_b pr_any (fun rh2 _ => ?_)
      refine pr_i (fun _ => ?_) (fun _ => ?_)
      ·
        refine pr_b (ih h0) (fun σh4 h_2 => ?_)
        replace h_2 : kq σ0 σh4 := h_2
        refine pr_b (z_X12_asks h_2 ) (fun σh5 h_3 => ?_)
        replace h_3 : kq σ0 σh5 := h_3
        exact pr_s h_3
      ·
        refine pr_b (ih h0) (fun σh6 h_4 => ?_)
        replace h_4 : kq σ0 σh6 := h_4
        refine pr_b (z_X12_asks h_4 ) (fun σh7 h_5 => ?_)
        replace h_5 : kq σ0 σh7 := h_5
        exact pr_s h_5
theorem z_X12_growth {n : Nat} {σ : ms_T} {a1 : Int32} {a2 : Int32} {σ0 : ms_T} (h0 : kq σ0 σ)  : pr (f_X12_growth n σ a1 a2) (fun res => kq σ0 res) := by
  unfold f_X12_growth
  refine pr_ln (fun σh1 e1 => ?_)
  have h_1 : kq σ0 σh1 := by rw [e1]; exact kq_sI rfl h0
  refine pr_i (fun _ => ?_) (fun _ => ?_)
  ·
    exact pr_s h_1
  ·
    refine pr_i (fun _ => ?_) (fun _ => ?_)
    ·
      exact pr_s h_1
    ·
      refine pr_b (z_X12_growsIn  _ h_1) (fun σh4 h_2 => ?_)
      replace h_2 : kq σ0 σh4 := h_2
      exact pr_s h_2
theorem z_X12_bundlesIn {n : Nat} {σ0 : ms_T}  : ∀ (d : Nat) {σ : ms_T} {a1 : Int32} {a2 : Int32} {a3 : Int32}, kq σ0 σ → pr (f_X12_bundlesIn n d σ a1 a2 a3) (fun res => kq σ0 res) := by
  intro d
  induction d with
  | zero => intro σ a1 a2 a3 h0; rw [f_X12_bundlesIn.eq_1]; exact pr_0
  | succ d ih =>
    intro σ a1 a2 a3 h0
    rw [f_X12_bundlesIn.eq_2]
    refine pr_b pr_any (fun rh1 _ => ?_)
    refine pr_i (fun _ => ?_) (fun _ => ?_)
    ·
      refine pr_b (z_X12_asks h0 ) (fun σh7 h_1 => ?_)
      replace h_1 : kq σ0 σh7 := h_1
      exact pr_s h_1
    ·
      refine pr_i (fun _ => ?_) (fun _ => ?_)
      ·
        exact pr_s h0
      ·
        refine pr_b pr_any (fun rh4 _ => ?_)
        refine pr_b (ih h0) (fun σh5 h_2 => ?_)
        replace h_2 : kq σ0 σh5 := h_2
        refine pr_b (ih h_2) (fun σh6 h_3 => ?_)
        replace h_3 : kq σ0 σh6 := h_3
        exact pr_s h_3
theorem z_X12_bundleOf {n : Nat} {σ : ms_T} {a1 : Int32} {a2 : Int32} {σ0 : ms_T} (h0 : kq σ0 σ)  : pr (f_X12_bundleOf n σ a1 a2) (fun res => kq σ0 res) := by
  unfold f_X12_bundleOf
  refine pr_ln (fun σh1 e1 => ?_)
  have h_1 : kq σ0 σh1 := by rw [e1]; exact kq_sI rfl h0
  refine pr_b (z_X12_bundlesIn  _ h_1) (fun σh2 h_2 => ?_)
  replace h_2 : kq σ0 σh2 := h_2
  exact pr_s h_2
theorem z_X12_peaksOf_J35 {n : Nat} {rec10 : ms_T → Int32 → Int32 → Int32 → Option ms_T} {σh5 : ms_T} {v1_h5 : Int32} {v2_h5 : Int32} {v3_h5 : Int32} {σ0 : ms_T} (h0 : kq σ0 σh5) (hrec10 : ∀ {y0 : ms_T} {y1 : Int32} {y2 : Int32} {y3 : Int32}, kq σ0 y0 → pr (rec10 y0 y1 y2 y3) (fun res => kq σ0 res)) : pr (f_X12_peaksOf_J35 n rec10 σh5 v1_h5 v2_h5 v3_h5) (fun res => kq σ0 res) := by
  unfold f_X12_peaksOf_J35
  refine pr_ln (fun x6 _ => ?_)
  exact hrec10 h0
theorem z_X12_peaksOf_L10 {n : Nat} {σ0 : ms_T}  : ∀ (k10 : Nat) {σh2 : ms_T} {v1_h2 : Int32} {v2_h2 : Int32} {v3_h2 : Int32}, kq σ0 σh2 → pr (f_X12_peaksOf_L10 n k10 σh2 v1_h2 v2_h2 v3_h2) (fun res => kq σ0 res) := by
  intro k10
  induction k10 with
  | zero => intro σh2 v1_h2 v2_h2 v3_h2 h0; rw [f_X12_peaksOf_L10.eq_1]; exact pr_0
  | succ k10 ih =>
    intro σh2 v1_h2 v2_h2 v3_h2 h0
    rw [f_X12_peaksOf_L10.eq_2]
    refine pr_i (fun _ => ?_) (fun _ => ?_)
    ·
      exact pr_s h0
    ·
      refine pr_n (fun _ => ?_)
      refine pr_i (fun _ => ?_) (fun _ => ?_)
      ·
        exact z_X12_peaksOf_J35 h0 (fun h => ih h)
      ·
        refine pr_b (z_X12_asks h0 ) (fun σh8 h_1 => ?_)
        replace h_1 : kq σ0 σh8 := h_1
        refine pr_ln (fun x9 _ => ?_)
        exact z_X12_peaksOf_J35 h_1 (fun h => ih h)
theorem z_X12_peaksOf {n : Nat} {σ : ms_T} {a1 : Int32} {σ0 : ms_T} (h0 : kq σ0 σ)  : pr (f_X12_peaksOf n σ a1) (fun res => kq σ0 res) := by
  unfold f_X12_peaksOf
  refine pr_ln (fun σh1 e1 => ?_)
  have h_1 : kq σ0 σh1 := by rw [e1]; exact kq_sI rfl h0
  exact z_X12_peaksOf_L10  _ h_1
theorem z_X12_fetches_L2 {n : Nat} {σ0 : ms_T}  : ∀ (k2 : Nat) {σh1 : ms_T} {v1_h1 : Int32} {v2_h1 : Int32}, kq σ0 σh1 → pr (f_X12_fetches_L2 n k2 σh1 v1_h1 v2_h1) (fun res => kq σ0 res) := by
  intro k2
  induction k2 with
  | zero => intro σh1 v1_h1 v2_h1 h0; rw [f_X12_fetches_L2.eq_1]; exact pr_0
  | succ k2 ih =>
    intro σh1 v1_h1 v2_h1 h0
    rw [f_X12_fetches_L2.eq_2]
    refine pr_i (fun _ => ?_) (fun _ => ?_)
    ·
      exact pr_s h0
    ·
      refine pr_g (fun _ _ => ?_)
      refine pr_g (fun _ _ => ?_)
      refine pr_b pr_any (fun rh5 _ => ?_)
      refine pr_g (fun _ _ => ?_)
      refine pr_ln (fun σh7 e1 => ?_)
      have h_1 : kq σ0 σh7 := by rw [e1]; exact kq_sE rfl h0
      refine pr_ln (fun x8 _ => ?_)
      exact ih h_1
theorem z_X12_fetches {n : Nat} {σ : ms_T} {a1 : Int32} {σ0 : ms_T} (h0 : kq σ0 σ)  : pr (f_X12_fetches n σ a1) (fun res => kq σ0 res) := by
  unfold f_X12_fetches
  exact z_X12_fetches_L2  _ h0
theorem z_X12_fromPad_L2 {n : Nat} {σ0 : ms_T}  : ∀ (k2 : Nat) {σh1 : ms_T} {v1_h1 : Int32}, kq σ0 σh1 → pr (f_X12_fromPad_L2 n k2 σh1 v1_h1) (fun res => kq σ0 res.2) := by
  intro k2
  induction k2 with
  | zero => intro σh1 v1_h1 h0; rw [f_X12_fromPad_L2.eq_1]; exact pr_0
  | succ k2 ih =>
    intro σh1 v1_h1 h0
    rw [f_X12_fromPad_L2.eq_2]
    refine pr_g (fun _ _ => ?_)
    refine pr_i (fun _ => ?_) (fun _ => ?_)
    ·
      refine pr_g (fun _ _ => ?_)
      exact pr_s h0
    ·
      refine pr_g (fun _ _ => ?_)
      refine pr_g (fun _ _ => ?_)
      refine pr_ln (fun σh7 e1 => ?_)
      have h_1 : kq σ0 σh7 := by rw [e1]; exact kq_sE rfl h0
      refine pr_ln (fun x8 _ => ?_)
      exact ih h_1
theorem z_X12_fromPad {n : Nat} {σ : ms_T} {σ0 : ms_T} (h0 : kq σ0 σ)  : pr (f_X12_fromPad n σ) (fun res => kq σ0 res.2) := by
  unfold f_X12_fromPad
  exact z_X12_fromPad_L2  _ h0
theorem z_X12_foldsIn {n : Nat} {σ0 : ms_T}  : ∀ (d : Nat) {σ : ms_T} {a1 : Int32} {a2 : Int32} {a3 : Int32}, kq σ0 σ → pr (f_X12_foldsIn n d σ a1 a2 a3) (fun res => kq σ0 res.2) := by
  intro d
  induction d with
  | zero => intro σ a1 a2 a3 h0; rw [f_X12_foldsIn.eq_1]; exact pr_0
  | succ d ih =>
    intro σ a1 a2 a3 h0
    rw [f_X12_foldsIn.eq_2]
    refine pr_i (fun _ => ?_) (fun _ => ?_)
    ·
      exact pr_s h0
    ·
      refine pr_b pr_any (fun rh2 _ => ?_)
      refine pr_i (fun _ => ?_) (fun _ => ?_)
      ·
        refine pr_c (ih h0) (fun rh4 σh4 h_1 => ?_)
        replace h_1 : kq σ0 σh4 := h_1
        refine pr_ln (fun σh5 e2 => ?_)
        have h_2 : kq σ0 σh5 := by rw [e2]; exact kq_sI rfl h_1
        refine pr_g (fun _ _ => ?_)
        refine pr_b pr_any (fun rh7 _ => ?_)
        exact pr_s h_2
      ·
        refine pr_c (ih h0) (fun rh8 σh8 h_3 => ?_)
        replace h_3 : kq σ0 σh8 := h_3
        refine pr_ln (fun σh9 e4 => ?_)
        have h_4 : kq σ0 σh9 := by rw [e4]; exact kq_sI rfl h_3
        refine pr_g (fun _ _ => ?_)
        refine pr_b pr_any (fun rh11 _ => ?_)
        exact pr_s h_4
theorem z_X12_folded {n : Nat} {σ : ms_T} {a1 : Int32} {a2 : Int32} {a3 : Int32} {σ0 : ms_T} (h0 : kq σ0 σ)  : pr (f_X12_folded n σ a1 a2 a3) (fun res => kq σ0 res.2) := by
  unfold f_X12_folded
  refine pr_ln (fun σh1 e1 => ?_)
  have h_1 : kq σ0 σh1 := by rw [e1]; exact kq_sI rfl h0
  refine pr_c (z_X12_foldsIn  _ h_1) (fun rh2 σh2 h_2 => ?_)
  replace h_2 : kq σ0 σh2 := h_2
  exact pr_s h_2
theorem z_X12_whyIn_J41 {n : Nat} {σh3 : ms_T} {w0_h3 : Int32} {w1_h3 : Int32} {w2_h3 : Int32} {σ0 : ms_T} (h0 : kq σ0 σh3)  : pr (f_X12_whyIn_J41 n σh3 w0_h3 w1_h3 w2_h3) (fun res => kq σ0 res.2) := by
  unfold f_X12_whyIn_J41
  refine pr_b pr_any (fun rh4 _ => ?_)
  exact pr_s h0
theorem z_X12_whyIn_J36 {n : Nat} {σh5 : ms_T} {w0_h5 : Int32} {w1_h5 : Int32} {σ0 : ms_T} (h0 : kq σ0 σh5)  : pr (f_X12_whyIn_J36 n σh5 w0_h5 w1_h5) (fun res => kq σ0 res.2) := by
  unfold f_X12_whyIn_J36
  exact z_X12_whyIn_J41 h0 
theorem z_X12_whyIn {n : Nat} {σ : ms_T} {a1 : Int32} {a2 : Int32} {a3 : Int32} {a4 : Int32} {a5 : Int32} {σ0 : ms_T} (h0 : kq σ0 σ)  : pr (f_X12_whyIn n σ a1 a2 a3 a4 a5) (fun res => kq σ0 res.2) := by
  unfold f_X12_whyIn
  refine pr_b (z_X12_inclusion h0 ) (fun σh1 h_1 => ?_)
  replace h_1 : kq σ0 σh1 := h_1
  refine pr_ln (fun x2 _ => ?_)
  refine pr_i (fun _ => ?_) (fun _ => ?_)
  ·
    refine pr_c (z_X12_folded h_1 ) (fun rh7 σh7 h_2 => ?_)
    replace h_2 : kq σ0 σh7 := h_2
    refine pr_i (fun _ => ?_) (fun _ => ?_)
    ·
      exact z_X12_whyIn_J36 h_2 
    ·
      exact z_X12_whyIn_J41 h_2 
  ·
    exact z_X12_whyIn_J36 h_1 
theorem z_X12_foldsGrowth_J157 {n : Nat} {recM : ms_T → Int32 → Int32 → Int32 → Int32 → Option ms_T} {σh3 : ms_T} {σ0 : ms_T} (h0 : kq σ0 σh3) (hrecM : ∀ {y0 : ms_T} {y1 : Int32} {y2 : Int32} {y3 : Int32} {y4 : Int32}, kq σ0 y0 → pr (recM y0 y1 y2 y3 y4) (fun res => kq σ0 res)) : pr (f_X12_foldsGrowth_J157 n recM σh3) (fun res => kq σ0 res) := by
  unfold f_X12_foldsGrowth_J157
  refine pr_ln (fun σh4 e1 => ?_)
  have h_1 : kq σ0 σh4 := by rw [e1]; exact kq_sI rfl h0
  exact pr_s h_1
theorem z_X12_foldsGrowth_J50 {n : Nat} {recM : ms_T → Int32 → Int32 → Int32 → Int32 → Option ms_T} {σh20 : ms_T} {w0_h20 : Int32} {w1_h20 : Int32} {σ0 : ms_T} (h0 : kq σ0 σh20) (hrecM : ∀ {y0 : ms_T} {y1 : Int32} {y2 : Int32} {y3 : Int32} {y4 : Int32}, kq σ0 y0 → pr (recM y0 y1 y2 y3 y4) (fun res => kq σ0 res)) : pr (f_X12_foldsGrowth_J50 n recM σh20 w0_h20 w1_h20) (fun res => kq σ0 res) := by
  unfold f_X12_foldsGrowth_J50
  refine pr_ln (fun σh21 e1 => ?_)
  have h_1 : kq σ0 σh21 := by rw [e1]; exact kq_sI rfl h0
  exact pr_s h_1
theorem z_X12_foldsGrowth_J24 {n : Nat} {recM : ms_T → Int32 → Int32 → Int32 → Int32 → Option ms_T} {σh17 : ms_T} {v4_h17 : Int32} {w0_h17 : Int32} {σ0 : ms_T} (h0 : kq σ0 σh17) (hrecM : ∀ {y0 : ms_T} {y1 : Int32} {y2 : Int32} {y3 : Int32} {y4 : Int32}, kq σ0 y0 → pr (recM y0 y1 y2 y3 y4) (fun res => kq σ0 res)) : pr (f_X12_foldsGrowth_J24 n recM σh17 v4_h17 w0_h17) (fun res => kq σ0 res) := by
  unfold f_X12_foldsGrowth_J24
  refine pr_ln (fun σh18 e1 => ?_)
  have h_1 : kq σ0 σh18 := by rw [e1]; exact kq_sI rfl h0
  refine pr_ln (fun σh19 e2 => ?_)
  have h_2 : kq σ0 σh19 := by rw [e2]; exact kq_sI rfl h_1
  refine pr_i (fun _ => ?_) (fun _ => ?_)
  ·
    exact z_X12_foldsGrowth_J50 h_2 (fun h => hrecM h)
  ·
    exact z_X12_foldsGrowth_J50 h_2 (fun h => hrecM h)
theorem z_X12_foldsGrowth {n : Nat} {σ0 : ms_T}  : ∀ (d : Nat) {σ : ms_T} {a1 : Int32} {a2 : Int32} {a3 : Int32} {a4 : Int32}, kq σ0 σ → pr (f_X12_foldsGrowth n d σ a1 a2 a3 a4) (fun res => kq σ0 res) := by
  intro d
  induction d with
  | zero => intro σ a1 a2 a3 a4 h0; rw [f_X12_foldsGrowth.eq_1]; exact pr_0
  | succ d ih =>
    intro σ a1 a2 a3 a4 h0
    rw [f_X12_foldsGrowth.eq_2]
    refine pr_i (fun _ => ?_) (fun _ => ?_)
    ·
      refine pr_i (fun _ => ?_) (fun _ => ?_)
      ·
        refine pr_g (fun _ _ => ?_)
        exact z_X12_foldsGrowth_J24 h0 (fun h => ih h)
      ·
        exact z_X12_foldsGrowth_J24 h0 (fun h => ih h)
    ·
      refine pr_b pr_any (fun rh2 _ => ?_)
      refine pr_i (fun _ => ?_) (fun _ => ?_)
      ·
        refine pr_b (ih h0) (fun σh6 h_1 => ?_)
        replace h_1 : kq σ0 σh6 := h_1
        refine pr_g (fun _ _ => ?_)
        refine pr_b pr_any (fun rh8 _ => ?_)
        refine pr_ln (fun σh9 e2 => ?_)
        have h_2 : kq σ0 σh9 := by rw [e2]; exact kq_sI rfl h_1
        refine pr_g (fun _ _ => ?_)
        refine pr_b pr_any (fun rh11 _ => ?_)
        refine pr_ln (fun σh12 e3 => ?_)
        have h_3 : kq σ0 σh12 := by rw [e3]; exact kq_sI rfl h_2
        exact z_X12_foldsGrowth_J157 h_3 (fun h => ih h)
      ·
        refine pr_b (ih h0) (fun σh13 h_4 => ?_)
        replace h_4 : kq σ0 σh13 := h_4
        refine pr_g (fun _ _ => ?_)
        refine pr_b pr_any (fun rh15 _ => ?_)
        refine pr_ln (fun σh16 e5 => ?_)
        have h_5 : kq σ0 σh16 := by rw [e5]; exact kq_sI rfl h_4
        exact z_X12_foldsGrowth_J157 h_5 (fun h => ih h)
theorem z_X12_whyGrown_J39 {n : Nat} {σh3 : ms_T} {v2_h3 : Int32} {v3_h3 : Int32} {v4_h3 : Int32} {v5_h3 : Int32} {σ0 : ms_T} (h0 : kq σ0 σh3)  : pr (f_X12_whyGrown_J39 n σh3 v2_h3 v3_h3 v4_h3 v5_h3) (fun res => kq σ0 res.2) := by
  unfold f_X12_whyGrown_J39
  refine pr_i (fun _ => ?_) (fun _ => ?_)
  ·
    refine pr_i (fun _ => ?_) (fun _ => ?_)
    ·
      exact pr_s h0
    ·
      exact pr_s h0
  ·
    refine pr_i (fun _ => ?_) (fun _ => ?_)
    ·
      exact pr_s h0
    ·
      refine pr_ln (fun σh6 e1 => ?_)
      have h_1 : kq σ0 σh6 := by rw [e1]; exact kq_sI rfl h0
      refine pr_b (z_X12_foldsGrowth  _ h_1) (fun σh7 h_2 => ?_)
      replace h_2 : kq σ0 σh7 := h_2
      refine pr_i (fun _ => ?_) (fun _ => ?_)
      ·
        refine pr_i (fun _ => ?_) (fun _ => ?_)
        ·
          exact pr_s h_2
        ·
          exact pr_s h_2
      ·
        exact pr_s h_2
theorem z_X12_whyGrown {n : Nat} {σ : ms_T} {a1 : Int32} {a2 : Int32} {a3 : Int32} {a4 : Int32} {a5 : Int32} {σ0 : ms_T} (h0 : kq σ0 σ)  : pr (f_X12_whyGrown n σ a1 a2 a3 a4 a5) (fun res => kq σ0 res.2) := by
  unfold f_X12_whyGrown
  refine pr_b (z_X12_growth h0 ) (fun σh1 h_1 => ?_)
  replace h_1 : kq σ0 σh1 := h_1
  refine pr_i (fun _ => ?_) (fun _ => ?_)
  ·
    refine pr_i (fun _ => ?_) (fun _ => ?_)
    ·
      refine pr_i (fun _ => ?_) (fun _ => ?_)
      ·
        exact z_X12_whyGrown_J39 h_1 
      ·
        exact pr_s h_1
    ·
      exact z_X12_whyGrown_J39 h_1 
  ·
    refine pr_i (fun _ => ?_) (fun _ => ?_)
    ·
      exact pr_s h_1
    ·
      exact pr_s h_1
theorem z_X12_foldsBundle {n : Nat} {σ0 : ms_T}  : ∀ (d : Nat) {σ : ms_T} {a1 : Int32} {a2 : Int32} {a3 : Int32}, kq σ0 σ → pr (f_X12_foldsBundle n d σ a1 a2 a3) (fun res => kq σ0 res.2) := by
  intro d
  induction d with
  | zero => intro σ a1 a2 a3 h0; rw [f_X12_foldsBundle.eq_1]; exact pr_0
  | succ d ih =>
    intro σ a1 a2 a3 h0
    rw [f_X12_foldsBundle.eq_2]
    refine pr_b pr_any (fun rh1 _ => ?_)
    refine pr_i (fun _ => ?_) (fun _ => ?_)
    ·
      refine pr_ln (fun σh10 e1 => ?_)
      have h_1 : kq σ0 σh10 := by rw [e1]; exact kq_sI rfl h0
      refine pr_g (fun _ _ => ?_)
      exact pr_s h_1
    ·
      refine pr_i (fun _ => ?_) (fun _ => ?_)
      ·
        refine pr_ln (fun σh8 e2 => ?_)
        have h_2 : kq σ0 σh8 := by rw [e2]; exact kq_sI rfl h0
        refine pr_g (fun _ _ => ?_)
        exact pr_s h_2
      ·
        refine pr_b pr_any (fun rh4 _ => ?_)
        refine pr_c (ih h0) (fun rh5 σh5 h_3 => ?_)
        replace h_3 : kq σ0 σh5 := h_3
        refine pr_c (ih h_3) (fun rh6 σh6 h_4 => ?_)
        replace h_4 : kq σ0 σh6 := h_4
        refine pr_b pr_any (fun rh7 _ => ?_)
        exact pr_s h_4
theorem z_X12_whyByRecord {n : Nat} {σ : ms_T} {a1 : Int32} {a2 : Int32} {a3 : Int32} {a4 : Int32} {a5 : Int32} {σ0 : ms_T} (h0 : kq σ0 σ)  : pr (f_X12_whyByRecord n σ a1 a2 a3 a4 a5) (fun res => kq σ0 res.2) := by
  unfold f_X12_whyByRecord
  refine pr_b (z_X12_growth h0 ) (fun σh1 h_1 => ?_)
  replace h_1 : kq σ0 σh1 := h_1
  refine pr_b (z_X12_fetches h_1 ) (fun σh2 h_2 => ?_)
  replace h_2 : kq σ0 σh2 := h_2
  refine pr_c (z_X12_whyGrown h_2 ) (fun rh3 σh3 h_3 => ?_)
  replace h_3 : kq σ0 σh3 := h_3
  exact pr_s h_3
theorem z_X12_reads_J301 {n : Nat} {rec245 : ms_T → Option ms_T} {σh17 : ms_T} {w0_h17 : Int32} {σ0 : ms_T} (h0 : kq σ0 σh17) (hrec245 : ∀ {y0 : ms_T}, kq σ0 y0 → pr (rec245 y0) (fun res => kq σ0 res)) : pr (f_X12_reads_J301 n rec245 σh17 w0_h17) (fun res => kq σ0 res) := by
  unfold f_X12_reads_J301
  refine pr_ln (fun σh18 e1 => ?_)
  have h_1 : kq σ0 σh18 := by rw [e1]; exact kq_sI rfl h0
  refine pr_ln (fun σh19 e2 => ?_)
  have h_2 : kq σ0 σh19 := by rw [e2]; exact kq_sI rfl h_1
  exact hrec245 h_2
theorem z_X12_reads_L245 {n : Nat} {σ0 : ms_T}  : ∀ (k245 : Nat) {σh11 : ms_T}, kq σ0 σh11 → pr (f_X12_reads_L245 n k245 σh11) (fun res => kq σ0 res) := by
  intro k245
  induction k245 with
  | zero => intro σh11 h0; rw [f_X12_reads_L245.eq_1]; exact pr_0
  | succ k245 ih =>
    intro σh11 h0
    rw [f_X12_reads_L245.eq_2]
    refine pr_b pr_any (fun rh12 _ => ?_)
    refine pr_i (fun _ => ?_) (fun _ => ?_)
    ·
      refine pr_i (fun _ => ?_) (fun _ => ?_)
      ·
        refine pr_ln (fun σh15 e1 => ?_)
        have h_1 : kq σ0 σh15 := by rw [e1]; exact kq_sI rfl h0
        exact pr_s h_1
      ·
        refine pr_ln (fun σh16 e2 => ?_)
        have h_2 : kq σ0 σh16 := by rw [e2]; exact kq_sI rfl h0
        exact pr_s h_2
    ·
      refine pr_i (fun _ => ?_) (fun _ => ?_)
      ·
        exact z_X12_reads_J301 h0 (fun h => ih h)
      ·
        refine pr_g (fun _ _ => ?_)
        exact z_X12_reads_J301 h0 (fun h => ih h)
theorem z_X12_reads_J201 {n : Nat} {rec141 : ms_T → Option ms_T} {σh28 : ms_T} {w0_h28 : Int64} {σ0 : ms_T} (h0 : kq σ0 σh28) (hrec141 : ∀ {y0 : ms_T}, kq σ0 y0 → pr (rec141 y0) (fun res => kq σ0 res)) : pr (f_X12_reads_J201 n rec141 σh28 w0_h28) (fun res => kq σ0 res) := by
  unfold f_X12_reads_J201
  refine pr_ln (fun σh29 e1 => ?_)
  have h_1 : kq σ0 σh29 := by rw [e1]; exact kq_sJ h0
  refine pr_ln (fun σh30 e2 => ?_)
  have h_2 : kq σ0 σh30 := by rw [e2]; exact kq_sI rfl h_1
  exact hrec141 h_2
theorem z_X12_reads_L141 {n : Nat} {σ0 : ms_T}  : ∀ (k141 : Nat) {σh25 : ms_T}, kq σ0 σh25 → pr (f_X12_reads_L141 n k141 σh25) (fun res => kq σ0 res) := by
  intro k141
  induction k141 with
  | zero => intro σh25 h0; rw [f_X12_reads_L141.eq_1]; exact pr_0
  | succ k141 ih =>
    intro σh25 h0
    rw [f_X12_reads_L141.eq_2]
    refine pr_b pr_any (fun rh26 _ => ?_)
    refine pr_i (fun _ => ?_) (fun _ => ?_)
    ·
      exact pr_s h0
    ·
      refine pr_i (fun _ => ?_) (fun _ => ?_)
      ·
        exact z_X12_reads_J201 h0 (fun h => ih h)
      ·
        refine pr_g (fun _ _ => ?_)
        exact z_X12_reads_J201 h0 (fun h => ih h)
theorem z_X12_reads_J105 {n : Nat} {σh4 : ms_T} {w0_h4 : Int32} {σ0 : ms_T} (h0 : kq σ0 σh4)  : pr (f_X12_reads_J105 n σh4 w0_h4) (fun res => kq σ0 res) := by
  unfold f_X12_reads_J105
  refine pr_ln (fun σh5 e1 => ?_)
  have h_1 : kq σ0 σh5 := by rw [e1]; exact kq_sI rfl h0
  refine pr_b pr_any (fun rh6 _ => ?_)
  refine pr_i (fun _ => ?_) (fun _ => ?_)
  ·
    refine pr_b pr_any (fun rh8 _ => ?_)
    refine pr_i (fun _ => ?_) (fun _ => ?_)
    ·
      exact pr_s h_1
    ·
      refine pr_ln (fun σh10 e2 => ?_)
      have h_2 : kq σ0 σh10 := by rw [e2]; exact kq_sI rfl h_1
      refine pr_ln (fun σh22 e3 => ?_)
      have h_3 : kq σ0 σh22 := by rw [e3]; exact kq_sI rfl h_2
      exact z_X12_reads_L245  _ h_3
  ·
    refine pr_ln (fun σh23 e4 => ?_)
    have h_4 : kq σ0 σh23 := by rw [e4]; exact kq_sI rfl h_1
    refine pr_ln (fun σh24 e5 => ?_)
    have h_5 : kq σ0 σh24 := by rw [e5]; exact kq_sJ h_4
    refine pr_ln (fun σh33 e6 => ?_)
    have h_6 : kq σ0 σh33 := by rw [e6]; exact kq_sI rfl h_5
    exact z_X12_reads_L141  _ h_6
theorem z_X12_reads_J60 {n : Nat} {σh2 : ms_T} {σ0 : ms_T} (h0 : kq σ0 σh2)  : pr (f_X12_reads_J60 n σh2) (fun res => kq σ0 res) := by
  unfold f_X12_reads_J60
  refine pr_ln (fun σh3 e1 => ?_)
  have h_1 : kq σ0 σh3 := by rw [e1]; exact kq_sI rfl h0
  refine pr_i (fun _ => ?_) (fun _ => ?_)
  ·
    refine pr_g (fun _ _ => ?_)
    refine pr_i (fun _ => ?_) (fun _ => ?_)
    ·
      exact z_X12_reads_J105 h_1 
    ·
      exact z_X12_reads_J105 h_1 
  ·
    exact z_X12_reads_J105 h_1 
theorem z_X12_reads_J47 {n : Nat} {rec8 : ms_T → Option ms_T} {σh39 : ms_T} {σ0 : ms_T} (h0 : kq σ0 σh39) (hrec8 : ∀ {y0 : ms_T}, kq σ0 y0 → pr (rec8 y0) (fun res => kq σ0 res)) : pr (f_X12_reads_J47 n rec8 σh39) (fun res => kq σ0 res) := by
  unfold f_X12_reads_J47
  refine pr_ln (fun σh40 e1 => ?_)
  have h_1 : kq σ0 σh40 := by rw [e1]; exact kq_sI rfl h0
  exact hrec8 h_1
theorem z_X12_reads_L8 {n : Nat} {σ0 : ms_T}  : ∀ (k8 : Nat) {σh1 : ms_T}, kq σ0 σh1 → pr (f_X12_reads_L8 n k8 σh1) (fun res => kq σ0 res) := by
  intro k8
  induction k8 with
  | zero => intro σh1 h0; rw [f_X12_reads_L8.eq_1]; exact pr_0
  | succ k8 ih =>
    intro σh1 h0
    rw [f_X12_reads_L8.eq_2]
    refine pr_i (fun _ => ?_) (fun _ => ?_)
    ·
      exact z_X12_reads_J60 h0 
    ·
      refine pr_g (fun _ _ => ?_)
      refine pr_i (fun _ => ?_) (fun _ => ?_)
      ·
        exact z_X12_reads_J47 h0 (fun h => ih h)
      ·
        refine pr_g (fun _ _ => ?_)
        refine pr_i (fun _ => ?_) (fun _ => ?_)
        ·
          exact z_X12_reads_J47 h0 (fun h => ih h)
        ·
          exact z_X12_reads_J60 h0 
theorem z_X12_reads {n : Nat} {σ : ms_T} {σ0 : ms_T} (h0 : kq σ0 σ)  : pr (f_X12_reads n σ) (fun res => kq σ0 res) := by
  unfold f_X12_reads
  refine pr_ln (fun σh44 e1 => ?_)
  have h_1 : kq σ0 σh44 := by rw [e1]; exact kq_sI rfl h0
  exact z_X12_reads_L8  _ h_1
theorem z_X12_must_J31 {n : Nat} {σh3 : ms_T} {w0_h3 : Int32} {σ0 : ms_T} (h0 : kq σ0 σh3)  : pr (f_X12_must_J31 n σh3 w0_h3) (fun res => kq σ0 res) := by
  unfold f_X12_must_J31
  refine pr_ln (fun σh4 e1 => ?_)
  have h_1 : kq σ0 σh4 := by rw [e1]; exact kq_sI rfl h0
  refine pr_ln (fun σh5 e2 => ?_)
  have h_2 : kq σ0 σh5 := by rw [e2]; exact kq_sI rfl h_1
  exact pr_s h_2
theorem z_X12_must_J30 {n : Nat} {σh6 : ms_T} {v2_h6 : Int32} {σ0 : ms_T} (h0 : kq σ0 σh6)  : pr (f_X12_must_J30 n σh6 v2_h6) (fun res => kq σ0 res) := by
  unfold f_X12_must_J30
  exact z_X12_must_J31 h0 
theorem z_X12_must {n : Nat} {σ : ms_T} {a1 : Int32} {a2 : Int32} {σ0 : ms_T} (h0 : kq σ0 σ)  : pr (f_X12_must n σ a1 a2) (fun res => kq σ0 res) := by
  unfold f_X12_must
  refine pr_i (fun _ => ?_) (fun _ => ?_)
  ·
    refine pr_i (fun _ => ?_) (fun _ => ?_)
    ·
      refine pr_i (fun _ => ?_) (fun _ => ?_)
      ·
        refine pr_i (fun _ => ?_) (fun _ => ?_)
        ·
          exact z_X12_must_J31 h0 
        ·
          exact z_X12_must_J30 h0 
      ·
        exact z_X12_must_J30 h0 
    ·
      exact pr_s h0
  ·
    exact pr_s h0
theorem z_X12_takes {n : Nat} {σ : ms_T} {a1 : Int32} {σ0 : ms_T} (h0 : kq σ0 σ)  : pr (f_X12_takes n σ a1) (fun res => kq σ0 res) := by
  unfold f_X12_takes
  refine pr_b pr_any (fun rh1 _ => ?_)
  refine pr_b (z_X12_must h0 ) (fun σh2 h_1 => ?_)
  replace h_1 : kq σ0 σh2 := h_1
  refine pr_i (fun _ => ?_) (fun _ => ?_)
  ·
    refine pr_b (z_X12_reads h_1 ) (fun σh4 h_2 => ?_)
    replace h_2 : kq σ0 σh4 := h_2
    exact pr_s h_2
  ·
    exact pr_s h_1
theorem z_X12_takesEnd_J14 {n : Nat} {σh1 : ms_T} {w0_h1 : Int32} {σ0 : ms_T} (h0 : kq σ0 σh1)  : pr (f_X12_takesEnd_J14 n σh1 w0_h1) (fun res => kq σ0 res) := by
  unfold f_X12_takesEnd_J14
  refine pr_b (z_X12_must h0 ) (fun σh2 h_1 => ?_)
  replace h_1 : kq σ0 σh2 := h_1
  refine pr_i (fun _ => ?_) (fun _ => ?_)
  ·
    refine pr_b (z_X12_reads h_1 ) (fun σh4 h_2 => ?_)
    replace h_2 : kq σ0 σh4 := h_2
    exact pr_s h_2
  ·
    exact pr_s h_1
theorem z_X12_takesEnd {n : Nat} {σ : ms_T} {σ0 : ms_T} (h0 : kq σ0 σ)  : pr (f_X12_takesEnd n σ) (fun res => kq σ0 res) := by
  unfold f_X12_takesEnd
  refine pr_i (fun _ => ?_) (fun _ => ?_)
  ·
    exact z_X12_takesEnd_J14 h0 
  ·
    exact z_X12_takesEnd_J14 h0 
theorem z_X12_takesNumber_J14 {n : Nat} {σh1 : ms_T} {v1_h1 : Int32} {v2_h1 : Int32} {w0_h1 : Int32} {σ0 : ms_T} (h0 : kq σ0 σh1)  : pr (f_X12_takesNumber_J14 n σh1 v1_h1 v2_h1 w0_h1) (fun res => kq σ0 res.2) := by
  unfold f_X12_takesNumber_J14
  refine pr_b (z_X12_must h0 ) (fun σh2 h_1 => ?_)
  replace h_1 : kq σ0 σh2 := h_1
  refine pr_b pr_any (fun rh3 _ => ?_)
  refine pr_b (z_X12_must h_1 ) (fun σh4 h_2 => ?_)
  replace h_2 : kq σ0 σh4 := h_2
  refine pr_ln (fun x5 _ => ?_)
  refine pr_i (fun _ => ?_) (fun _ => ?_)
  ·
    refine pr_b (z_X12_reads h_2 ) (fun σh7 h_3 => ?_)
    replace h_3 : kq σ0 σh7 := h_3
    exact pr_s h_3
  ·
    exact pr_s h_2
theorem z_X12_takesNumber {n : Nat} {σ : ms_T} {a1 : Int32} {a2 : Int32} {σ0 : ms_T} (h0 : kq σ0 σ)  : pr (f_X12_takesNumber n σ a1 a2) (fun res => kq σ0 res.2) := by
  unfold f_X12_takesNumber
  refine pr_i (fun _ => ?_) (fun _ => ?_)
  ·
    exact z_X12_takesNumber_J14 h0 
  ·
    exact z_X12_takesNumber_J14 h0 
theorem z_X12_takesMark {n : Nat} {σ : ms_T} {σ0 : ms_T} (h0 : kq σ0 σ)  : pr (f_X12_takesMark n σ) (fun res => kq σ0 res.2) := by
  unfold f_X12_takesMark
  refine pr_g (fun _ _ => ?_)
  refine pr_c (z_X12_takesNumber h0 ) (fun rh2 σh2 h_1 => ?_)
  replace h_1 : kq σ0 σh2 := h_1
  exact pr_s h_1
theorem z_X12_begins {n : Nat} {σ : ms_T} {a1 : Int32} {σ0 : ms_T} (h0 : kq σ0 σ)  : pr (f_X12_begins n σ a1) (fun res => kq σ0 res) := by
  unfold f_X12_begins
  refine pr_ln (fun σh1 e1 => ?_)
  have h_1 : kq σ0 σh1 := by rw [e1]; exact kq_sI rfl h0
  refine pr_ln (fun σh2 e2 => ?_)
  have h_2 : kq σ0 σh2 := by rw [e2]; exact kq_sI rfl h_1
  refine pr_ln (fun σh3 e3 => ?_)
  have h_3 : kq σ0 σh3 := by rw [e3]; exact kq_sI rfl h_2
  refine pr_b (z_X12_reads h_3 ) (fun σh4 h_4 => ?_)
  replace h_4 : kq σ0 σh4 := h_4
  exact pr_s h_4
theorem z_X12_ends_J29 {n : Nat} {σh3 : ms_T} {w0_h3 : Int32} {σ0 : ms_T} (h0 : kq σ0 σh3)  : pr (f_X12_ends_J29 n σh3 w0_h3) (fun res => kq σ0 res) := by
  unfold f_X12_ends_J29
  refine pr_ln (fun σh4 e1 => ?_)
  have h_1 : kq σ0 σh4 := by rw [e1]; exact kq_sI rfl h0
  refine pr_i (fun _ => ?_) (fun _ => ?_)
  ·
    refine pr_ln (fun σh6 e2 => ?_)
    have h_2 : kq σ0 σh6 := by rw [e2]; exact kq_sI rfl h_1
    exact pr_s h_2
  ·
    refine pr_ln (fun σh7 e3 => ?_)
    have h_3 : kq σ0 σh7 := by rw [e3]; exact kq_sI rfl h_1
    exact pr_s h_3
theorem z_X12_ends {n : Nat} {σ : ms_T} {σ0 : ms_T} (h0 : kq σ0 σ)  : pr (f_X12_ends n σ) (fun res => kq σ0 res) := by
  unfold f_X12_ends
  refine pr_ln (fun σh1 e1 => ?_)
  have h_1 : kq σ0 σh1 := by rw [e1]; exact kq_sI rfl h0
  refine pr_ln (fun σh2 e2 => ?_)
  have h_2 : kq σ0 σh2 := by rw [e2]; exact kq_sI rfl h_1
  refine pr_i (fun _ => ?_) (fun _ => ?_)
  ·
    exact z_X12_ends_J29 h_2 
  ·
    exact z_X12_ends_J29 h_2 
theorem z_X12_takesMarks_J82 {n : Nat} {σh3 : ms_T} {v1_h3 : Int32} {σ0 : ms_T} (h0 : kq σ0 σh3)  : pr (f_X12_takesMarks_J82 n σh3 v1_h3) (fun res => kq σ0 res.2) := by
  unfold f_X12_takesMarks_J82
  refine pr_b (z_X12_takesEnd h0 ) (fun σh4 h_1 => ?_)
  replace h_1 : kq σ0 σh4 := h_1
  exact pr_s h_1
theorem z_X12_takesMarks_J48 {n : Nat} {rec8 : ms_T → Int32 → Option (Int32 × ms_T)} {σh9 : ms_T} {v1_h9 : Int32} {w0_h9 : Int32} {σ0 : ms_T} (h0 : kq σ0 σh9) (hrec8 : ∀ {y0 : ms_T} {y1 : Int32}, kq σ0 y0 → pr (rec8 y0 y1) (fun res => kq σ0 res.2)) : pr (f_X12_takesMarks_J48 n rec8 σh9 v1_h9 w0_h9) (fun res => kq σ0 res.2) := by
  unfold f_X12_takesMarks_J48
  refine pr_b (z_X12_must h0 ) (fun σh10 h_1 => ?_)
  replace h_1 : kq σ0 σh10 := h_1
  refine pr_i (fun _ => ?_) (fun _ => ?_)
  ·
    refine pr_g (fun _ _ => ?_)
    refine pr_ln (fun σh13 e2 => ?_)
    have h_2 : kq σ0 σh13 := by rw [e2]; exact kq_sE rfl h_1
    refine pr_ln (fun x14 _ => ?_)
    refine pr_b (z_X12_reads h_2 ) (fun σh15 h_3 => ?_)
    replace h_3 : kq σ0 σh15 := h_3
    exact hrec8 h_3
  ·
    exact pr_s h_1
theorem z_X12_takesMarks_L8 {n : Nat} {σ0 : ms_T}  : ∀ (k8 : Nat) {σh2 : ms_T} {v1_h2 : Int32}, kq σ0 σh2 → pr (f_X12_takesMarks_L8 n k8 σh2 v1_h2) (fun res => kq σ0 res.2) := by
  intro k8
  induction k8 with
  | zero => intro σh2 v1_h2 h0; rw [f_X12_takesMarks_L8.eq_1]; exact pr_0
  | succ k8 ih =>
    intro σh2 v1_h2 h0
    rw [f_X12_takesMarks_L8.eq_2]
    refine pr_i (fun _ => ?_) (fun _ => ?_)
    ·
      refine pr_i (fun _ => ?_) (fun _ => ?_)
      ·
        refine pr_b pr_any (fun rh7 _ => ?_)
        refine pr_b (z_X12_must h0 ) (fun σh8 h_1 => ?_)
        replace h_1 : kq σ0 σh8 := h_1
        refine pr_i (fun _ => ?_) (fun _ => ?_)
        ·
          exact z_X12_takesMarks_J48 h_1 (fun h => ih h)
        ·
          exact z_X12_takesMarks_J48 h_1 (fun h => ih h)
      ·
        exact z_X12_takesMarks_J82 h0 
    ·
      exact z_X12_takesMarks_J82 h0 
theorem z_X12_takesMarks {n : Nat} {σ : ms_T} {σ0 : ms_T} (h0 : kq σ0 σ)  : pr (f_X12_takesMarks n σ) (fun res => kq σ0 res.2) := by
  unfold f_X12_takesMarks
  refine pr_b (z_X12_takes h0 ) (fun σh1 h_1 => ?_)
  replace h_1 : kq σ0 σh1 := h_1
  exact z_X12_takesMarks_L8  _ h_1
theorem z_X12_statementIn {n : Nat} {σ : ms_T} {σ0 : ms_T} (h0 : kq σ0 σ)  : pr (f_X12_statementIn n σ) (fun res => kq σ0 res.2) := by
  unfold f_X12_statementIn
  refine pr_b (z_X12_reads h0 ) (fun σh1 h_1 => ?_)
  replace h_1 : kq σ0 σh1 := h_1
  refine pr_c (z_X12_takesNumber h_1 ) (fun rh2 σh2 h_2 => ?_)
  replace h_2 : kq σ0 σh2 := h_2
  refine pr_b (z_X12_takes h_2 ) (fun σh3 h_3 => ?_)
  replace h_3 : kq σ0 σh3 := h_3
  refine pr_c (z_X12_takesNumber h_3 ) (fun rh4 σh4 h_4 => ?_)
  replace h_4 : kq σ0 σh4 := h_4
  refine pr_b (z_X12_takes h_4 ) (fun σh5 h_5 => ?_)
  replace h_5 : kq σ0 σh5 := h_5
  refine pr_c (z_X12_takesMark h_5 ) (fun rh6 σh6 h_6 => ?_)
  replace h_6 : kq σ0 σh6 := h_6
  refine pr_b (z_X12_takes h_6 ) (fun σh7 h_7 => ?_)
  replace h_7 : kq σ0 σh7 := h_7
  refine pr_c (z_X12_takesMark h_7 ) (fun rh8 σh8 h_8 => ?_)
  replace h_8 : kq σ0 σh8 := h_8
  refine pr_c (z_X12_takesMarks h_8 ) (fun rh9 σh9 h_9 => ?_)
  replace h_9 : kq σ0 σh9 := h_9
  refine pr_i (fun _ => ?_) (fun _ => ?_)
  ·
    refine pr_c (z_X12_whyIn h_9 ) (fun rh11 σh11 h_10 => ?_)
    replace h_10 : kq σ0 σh11 := h_10
    exact pr_s h_10
  ·
    exact pr_s h_9
theorem z_X12_statementGrow {n : Nat} {σ : ms_T} {σ0 : ms_T} (h0 : kq σ0 σ)  : pr (f_X12_statementGrow n σ) (fun res => kq σ0 res.2) := by
  unfold f_X12_statementGrow
  refine pr_b (z_X12_takes h0 ) (fun σh1 h_1 => ?_)
  replace h_1 : kq σ0 σh1 := h_1
  refine pr_c (z_X12_takesNumber h_1 ) (fun rh2 σh2 h_2 => ?_)
  replace h_2 : kq σ0 σh2 := h_2
  refine pr_b (z_X12_takes h_2 ) (fun σh3 h_3 => ?_)
  replace h_3 : kq σ0 σh3 := h_3
  refine pr_c (z_X12_takesMark h_3 ) (fun rh4 σh4 h_4 => ?_)
  replace h_4 : kq σ0 σh4 := h_4
  refine pr_b (z_X12_takes h_4 ) (fun σh5 h_5 => ?_)
  replace h_5 : kq σ0 σh5 := h_5
  refine pr_c (z_X12_takesNumber h_5 ) (fun rh6 σh6 h_6 => ?_)
  replace h_6 : kq σ0 σh6 := h_6
  refine pr_b (z_X12_takes h_6 ) (fun σh7 h_7 => ?_)
  replace h_7 : kq σ0 σh7 := h_7
  refine pr_c (z_X12_takesMark h_7 ) (fun rh8 σh8 h_8 => ?_)
  replace h_8 : kq σ0 σh8 := h_8
  refine pr_c (z_X12_takesMarks h_8 ) (fun rh9 σh9 h_9 => ?_)
  replace h_9 : kq σ0 σh9 := h_9
  refine pr_i (fun _ => ?_) (fun _ => ?_)
  ·
    refine pr_c (z_X12_whyGrown h_9 ) (fun rh11 σh11 h_10 => ?_)
    replace h_10 : kq σ0 σh11 := h_10
    exact pr_s h_10
  ·
    exact pr_s h_9
theorem z_X12_hear_L169 {n : Nat} {σ0 : ms_T}  : ∀ (k169 : Nat) {σh10 : ms_T} {v2_h10 : Int32} {v3_h10 : Int32} {v4_h10 : Int32}, kq σ0 σh10 → pr (f_X12_hear_L169 n k169 σh10 v2_h10 v3_h10 v4_h10) (fun res => kq σ0 res.2) := by
  intro k169
  induction k169 with
  | zero => intro σh10 v2_h10 v3_h10 v4_h10 h0; rw [f_X12_hear_L169.eq_1]; exact pr_0
  | succ k169 ih =>
    intro σh10 v2_h10 v3_h10 v4_h10 h0
    rw [f_X12_hear_L169.eq_2]
    refine pr_i (fun _ => ?_) (fun _ => ?_)
    ·
      refine pr_ln (fun σh12 e1 => ?_)
      have h_1 : kq σ0 σh12 := by rw [e1]; exact kq_sI rfl h0
      exact pr_s h_1
    ·
      refine pr_g (fun _ _ => ?_)
      refine pr_g (fun _ _ => ?_)
      refine pr_ln (fun σh15 e2 => ?_)
      have h_2 : kq σ0 σh15 := by rw [e2]; exact kq_sE rfl h0
      refine pr_ln (fun x16 _ => ?_)
      exact ih h_2
theorem z_X12_hear_J153 {n : Nat} {σh7 : ms_T} {v2_h7 : Int32} {v3_h7 : Int32} {σ0 : ms_T} (h0 : kq σ0 σh7)  : pr (f_X12_hear_J153 n σh7 v2_h7 v3_h7) (fun res => kq σ0 res.2) := by
  unfold f_X12_hear_J153
  refine pr_b (z_X12_ends h0 ) (fun σh8 h_1 => ?_)
  replace h_1 : kq σ0 σh8 := h_1
  refine pr_i (fun _ => ?_) (fun _ => ?_)
  ·
    exact z_X12_hear_L169  _ h_1
  ·
    exact pr_s h_1
theorem z_X12_hear_J145 {n : Nat} {rec35 : ms_T → Int32 → Int32 → Option (Int32 × ms_T)} {σh30 : ms_T} {v2_h30 : Int32} {w0_h30 : Int32} {w1_h30 : Int32} {σ0 : ms_T} (h0 : kq σ0 σh30) (hrec35 : ∀ {y0 : ms_T} {y1 : Int32} {y2 : Int32}, kq σ0 y0 → pr (rec35 y0 y1 y2) (fun res => kq σ0 res.2)) : pr (f_X12_hear_J145 n rec35 σh30 v2_h30 w0_h30 w1_h30) (fun res => kq σ0 res.2) := by
  unfold f_X12_hear_J145
  refine pr_ln (fun x31 _ => ?_)
  refine pr_ln (fun x32 _ => ?_)
  exact hrec35 h0
theorem z_X12_hear_J129 {n : Nat} {rec35 : ms_T → Int32 → Int32 → Option (Int32 × ms_T)} {σh26 : ms_T} {v2_h26 : Int32} {v3_h26 : Int32} {w0_h26 : Int32} {w1_h26 : Int32} {σ0 : ms_T} (h0 : kq σ0 σh26) (hrec35 : ∀ {y0 : ms_T} {y1 : Int32} {y2 : Int32}, kq σ0 y0 → pr (rec35 y0 y1 y2) (fun res => kq σ0 res.2)) : pr (f_X12_hear_J129 n rec35 σh26 v2_h26 v3_h26 w0_h26 w1_h26) (fun res => kq σ0 res.2) := by
  unfold f_X12_hear_J129
  refine pr_g (fun _ _ => ?_)
  refine pr_ln (fun σh28 e1 => ?_)
  have h_1 : kq σ0 σh28 := by rw [e1]; exact kq_sE rfl h0
  refine pr_g (fun _ _ => ?_)
  refine pr_i (fun _ => ?_) (fun _ => ?_)
  ·
    exact z_X12_hear_J145 h_1 (fun h => hrec35 h)
  ·
    exact z_X12_hear_J145 h_1 (fun h => hrec35 h)
theorem z_X12_hear_J89 {n : Nat} {rec35 : ms_T → Int32 → Int32 → Option (Int32 × ms_T)} {σh22 : ms_T} {v2_h22 : Int32} {v3_h22 : Int32} {w0_h22 : Int32} {σ0 : ms_T} (h0 : kq σ0 σh22) (hrec35 : ∀ {y0 : ms_T} {y1 : Int32} {y2 : Int32}, kq σ0 y0 → pr (rec35 y0 y1 y2) (fun res => kq σ0 res.2)) : pr (f_X12_hear_J89 n rec35 σh22 v2_h22 v3_h22 w0_h22) (fun res => kq σ0 res.2) := by
  unfold f_X12_hear_J89
  refine pr_b (z_X12_must h0 ) (fun σh23 h_1 => ?_)
  replace h_1 : kq σ0 σh23 := h_1
  refine pr_i (fun _ => ?_) (fun _ => ?_)
  ·
    refine pr_b pr_any (fun rh25 _ => ?_)
    refine pr_i (fun _ => ?_) (fun _ => ?_)
    ·
      refine pr_c (z_X12_statementGrow h_1 ) (fun rh35 σh35 h_2 => ?_)
      replace h_2 : kq σ0 σh35 := h_2
      exact z_X12_hear_J129 h_2 (fun h => hrec35 h)
    ·
      refine pr_c (z_X12_statementIn h_1 ) (fun rh36 σh36 h_3 => ?_)
      replace h_3 : kq σ0 σh36 := h_3
      exact z_X12_hear_J129 h_3 (fun h => hrec35 h)
  ·
    exact z_X12_hear_J153 h_1 
theorem z_X12_hear_J73 {n : Nat} {rec35 : ms_T → Int32 → Int32 → Option (Int32 × ms_T)} {σh20 : ms_T} {v2_h20 : Int32} {v3_h20 : Int32} {w0_h20 : Int32} {σ0 : ms_T} (h0 : kq σ0 σh20) (hrec35 : ∀ {y0 : ms_T} {y1 : Int32} {y2 : Int32}, kq σ0 y0 → pr (rec35 y0 y1 y2) (fun res => kq σ0 res.2)) : pr (f_X12_hear_J73 n rec35 σh20 v2_h20 v3_h20 w0_h20) (fun res => kq σ0 res.2) := by
  unfold f_X12_hear_J73
  refine pr_b (z_X12_must h0 ) (fun σh21 h_1 => ?_)
  replace h_1 : kq σ0 σh21 := h_1
  refine pr_i (fun _ => ?_) (fun _ => ?_)
  ·
    exact z_X12_hear_J89 h_1 (fun h => hrec35 h)
  ·
    exact z_X12_hear_J89 h_1 (fun h => hrec35 h)
theorem z_X12_hear_J68 {n : Nat} {rec35 : ms_T → Int32 → Int32 → Option (Int32 × ms_T)} {σh38 : ms_T} {v2_h38 : Int32} {v3_h38 : Int32} {σ0 : ms_T} (h0 : kq σ0 σh38) (hrec35 : ∀ {y0 : ms_T} {y1 : Int32} {y2 : Int32}, kq σ0 y0 → pr (rec35 y0 y1 y2) (fun res => kq σ0 res.2)) : pr (f_X12_hear_J68 n rec35 σh38 v2_h38 v3_h38) (fun res => kq σ0 res.2) := by
  unfold f_X12_hear_J68
  exact z_X12_hear_J73 h0 (fun h => hrec35 h)
theorem z_X12_hear_L35 {n : Nat} {σ0 : ms_T}  : ∀ (k35 : Nat) {σh6 : ms_T} {v2_h6 : Int32} {v3_h6 : Int32}, kq σ0 σh6 → pr (f_X12_hear_L35 n k35 σh6 v2_h6 v3_h6) (fun res => kq σ0 res.2) := by
  intro k35
  induction k35 with
  | zero => intro σh6 v2_h6 v3_h6 h0; rw [f_X12_hear_L35.eq_1]; exact pr_0
  | succ k35 ih =>
    intro σh6 v2_h6 v3_h6 h0
    rw [f_X12_hear_L35.eq_2]
    refine pr_i (fun _ => ?_) (fun _ => ?_)
    ·
      refine pr_i (fun _ => ?_) (fun _ => ?_)
      ·
        exact z_X12_hear_J153 h0 
      ·
        refine pr_b pr_any (fun rh19 _ => ?_)
        refine pr_i (fun _ => ?_) (fun _ => ?_)
        ·
          refine pr_b pr_any (fun rh40 _ => ?_)
          refine pr_i (fun _ => ?_) (fun _ => ?_)
          ·
            exact z_X12_hear_J73 h0 (fun h => ih h)
          ·
            exact z_X12_hear_J68 h0 (fun h => ih h)
        ·
          exact z_X12_hear_J68 h0 (fun h => ih h)
    ·
      exact z_X12_hear_J153 h0 
theorem z_X12_hear_J18 {n : Nat} {σh2 : ms_T} {v1_h2 : Int32} {w0_h2 : Int32} {σ0 : ms_T} (h0 : kq σ0 σh2)  : pr (f_X12_hear_J18 n σh2 v1_h2 w0_h2) (fun res => kq σ0 res.2) := by
  unfold f_X12_hear_J18
  refine pr_c (z_X12_is h0 ) (fun rh3 σh3 h_1 => ?_)
  replace h_1 : kq σ0 σh3 := h_1
  refine pr_i (fun _ => ?_) (fun _ => ?_)
  ·
    exact pr_s h_1
  ·
    refine pr_b (z_X12_begins h_1 ) (fun σh5 h_2 => ?_)
    replace h_2 : kq σ0 σh5 := h_2
    exact z_X12_hear_L35  _ h_2
theorem z_X12_hear {n : Nat} {σ : ms_T} {a1 : Int32} {σ0 : ms_T} (h0 : kq σ0 σ)  : pr (f_X12_hear n σ a1) (fun res => kq σ0 res.2) := by
  unfold f_X12_hear
  refine pr_b pr_any (fun rh1 _ => ?_)
  refine pr_i (fun _ => ?_) (fun _ => ?_)
  ·
    exact z_X12_hear_J18 h0 
  ·
    exact z_X12_hear_J18 h0 
theorem z_X12_heard_J22 {n : Nat} {σh1 : ms_T} {v1_h1 : Int32} {w0_h1 : Int32} {σ0 : ms_T} (h0 : kq σ0 σh1)  : pr (f_X12_heard_J22 n σh1 v1_h1 w0_h1) (fun res => kq σ0 res.2) := by
  unfold f_X12_heard_J22
  refine pr_c (z_X12_is h0 ) (fun rh2 σh2 h_1 => ?_)
  replace h_1 : kq σ0 σh2 := h_1
  refine pr_i (fun _ => ?_) (fun _ => ?_)
  ·
    exact pr_s h_1
  ·
    refine pr_g (fun _ _ => ?_)
    exact pr_s h_1
theorem z_X12_heard {n : Nat} {σ : ms_T} {a1 : Int32} {σ0 : ms_T} (h0 : kq σ0 σ)  : pr (f_X12_heard n σ a1) (fun res => kq σ0 res.2) := by
  unfold f_X12_heard
  refine pr_i (fun _ => ?_) (fun _ => ?_)
  ·
    refine pr_i (fun _ => ?_) (fun _ => ?_)
    ·
      exact z_X12_heard_J22 h0 
    ·
      exact z_X12_heard_J22 h0 
  ·
    exact z_X12_heard_J22 h0 
theorem z_X12_fault {n : Nat} {σ : ms_T} {a1 : Int32} {σ0 : ms_T} (h0 : kq σ0 σ)  : pr (f_X12_fault n σ a1) (fun res => kq σ0 res.2) := by
  unfold f_X12_fault
  refine pr_ln (fun σh1 e1 => ?_)
  have h_1 : kq σ0 σh1 := by rw [e1]; exact kq_sI rfl h0
  refine pr_i (fun _ => ?_) (fun _ => ?_)
  ·
    exact pr_s h_1
  ·
    refine pr_i (fun _ => ?_) (fun _ => ?_)
    ·
      exact pr_s h_1
    ·
      exact pr_s h_1
theorem z_X12_many_L39 {n : Nat} {σ0 : ms_T}  : ∀ (k39 : Nat) {σh6 : ms_T} {v2_h6 : Int32} {v3_h6 : Int32}, kq σ0 σh6 → pr (f_X12_many_L39 n k39 σh6 v2_h6 v3_h6) (fun res => kq σ0 res.2) := by
  intro k39
  induction k39 with
  | zero => intro σh6 v2_h6 v3_h6 h0; rw [f_X12_many_L39.eq_1]; exact pr_0
  | succ k39 ih =>
    intro σh6 v2_h6 v3_h6 h0
    rw [f_X12_many_L39.eq_2]
    refine pr_i (fun _ => ?_) (fun _ => ?_)
    ·
      exact pr_s h0
    ·
      refine pr_b pr_any (fun rh8 _ => ?_)
      refine pr_ln (fun x9 _ => ?_)
      refine pr_ln (fun x10 _ => ?_)
      exact ih h0
theorem z_X12_many_J15 {n : Nat} {σh2 : ms_T} {v1_h2 : Int32} {w0_h2 : Int32} {σ0 : ms_T} (h0 : kq σ0 σh2)  : pr (f_X12_many_J15 n σh2 v1_h2 w0_h2) (fun res => kq σ0 res.2) := by
  unfold f_X12_many_J15
  refine pr_c (z_X12_is h0 ) (fun rh3 σh3 h_1 => ?_)
  replace h_1 : kq σ0 σh3 := h_1
  refine pr_i (fun _ => ?_) (fun _ => ?_)
  ·
    exact pr_s h_1
  ·
    refine pr_i (fun _ => ?_) (fun _ => ?_)
    ·
      exact z_X12_many_L39  _ h_1
    ·
      refine pr_g (fun _ _ => ?_)
      exact pr_s h_1
theorem z_X12_many {n : Nat} {σ : ms_T} {a1 : Int32} {σ0 : ms_T} (h0 : kq σ0 σ)  : pr (f_X12_many n σ a1) (fun res => kq σ0 res.2) := by
  unfold f_X12_many
  refine pr_b pr_any (fun rh1 _ => ?_)
  refine pr_i (fun _ => ?_) (fun _ => ?_)
  ·
    exact z_X12_many_J15 h0 
  ·
    exact z_X12_many_J15 h0 
theorem z_X12_size_J14 {n : Nat} {σh2 : ms_T} {v1_h2 : Int32} {w0_h2 : Int32} {σ0 : ms_T} (h0 : kq σ0 σh2)  : pr (f_X12_size_J14 n σh2 v1_h2 w0_h2) (fun res => kq σ0 res.2) := by
  unfold f_X12_size_J14
  refine pr_c (z_X12_is h0 ) (fun rh3 σh3 h_1 => ?_)
  replace h_1 : kq σ0 σh3 := h_1
  refine pr_i (fun _ => ?_) (fun _ => ?_)
  ·
    exact pr_s h_1
  ·
    refine pr_b pr_any (fun rh5 _ => ?_)
    exact pr_s h_1
theorem z_X12_size {n : Nat} {σ : ms_T} {a1 : Int32} {σ0 : ms_T} (h0 : kq σ0 σ)  : pr (f_X12_size n σ a1) (fun res => kq σ0 res.2) := by
  unfold f_X12_size
  refine pr_b pr_any (fun rh1 _ => ?_)
  refine pr_i (fun _ => ?_) (fun _ => ?_)
  ·
    exact z_X12_size_J14 h0 
  ·
    exact z_X12_size_J14 h0 
theorem z_X12_entry_J39 {n : Nat} {σh1 : ms_T} {v1_h1 : Int32} {v2_h1 : Int32} {v3_h1 : Int32} {w0_h1 : Int32} {σ0 : ms_T} (h0 : kq σ0 σh1)  : pr (f_X12_entry_J39 n σh1 v1_h1 v2_h1 v3_h1 w0_h1) (fun res => kq σ0 res.2) := by
  unfold f_X12_entry_J39
  refine pr_c (z_X12_is h0 ) (fun rh2 σh2 h_1 => ?_)
  replace h_1 : kq σ0 σh2 := h_1
  refine pr_i (fun _ => ?_) (fun _ => ?_)
  ·
    exact pr_s h_1
  ·
    refine pr_ln (fun x4 _ => ?_)
    refine pr_i (fun _ => ?_) (fun _ => ?_)
    ·
      refine pr_g (fun _ _ => ?_)
      refine pr_i (fun _ => ?_) (fun _ => ?_)
      ·
        refine pr_c (z_X12_refuse h_1 ) (fun rh8 σh8 h_2 => ?_)
        replace h_2 : kq σ0 σh8 := h_2
        exact pr_s h_2
      ·
        refine pr_g (fun _ _ => ?_)
        exact pr_s h_1
    ·
      refine pr_i (fun _ => ?_) (fun _ => ?_)
      ·
        refine pr_g (fun _ _ => ?_)
        exact pr_s h_1
      ·
        refine pr_b pr_any (fun rh11 _ => ?_)
        exact pr_s h_1
theorem z_X12_entry_J9 {n : Nat} {σh13 : ms_T} {v1_h13 : Int32} {v2_h13 : Int32} {v3_h13 : Int32} {σ0 : ms_T} (h0 : kq σ0 σh13)  : pr (f_X12_entry_J9 n σh13 v1_h13 v2_h13 v3_h13) (fun res => kq σ0 res.2) := by
  unfold f_X12_entry_J9
  exact z_X12_entry_J39 h0 
theorem z_X12_entry {n : Nat} {σ : ms_T} {a1 : Int32} {a2 : Int32} {a3 : Int32} {σ0 : ms_T} (h0 : kq σ0 σ)  : pr (f_X12_entry n σ a1 a2 a3) (fun res => kq σ0 res.2) := by
  unfold f_X12_entry
  refine pr_i (fun _ => ?_) (fun _ => ?_)
  ·
    exact z_X12_entry_J9 h0 
  ·
    refine pr_i (fun _ => ?_) (fun _ => ?_)
    ·
      refine pr_b pr_any (fun rh16 _ => ?_)
      refine pr_i (fun _ => ?_) (fun _ => ?_)
      ·
        exact z_X12_entry_J39 h0 
      ·
        refine pr_b pr_any (fun rh18 _ => ?_)
        refine pr_i (fun _ => ?_) (fun _ => ?_)
        ·
          exact z_X12_entry_J39 h0 
        ·
          exact z_X12_entry_J39 h0 
    ·
      exact z_X12_entry_J9 h0 
theorem z_X12_head {n : Nat} {σ : ms_T} {a1 : Int32} {a2 : Int32} {σ0 : ms_T} (h0 : kq σ0 σ)  : pr (f_X12_head n σ a1 a2) (fun res => kq σ0 res.2) := by
  unfold f_X12_head
  refine pr_b pr_any (fun rh1 _ => ?_)
  refine pr_c (z_X12_is h0 ) (fun rh2 σh2 h_1 => ?_)
  replace h_1 : kq σ0 σh2 := h_1
  refine pr_i (fun _ => ?_) (fun _ => ?_)
  ·
    exact pr_s h_1
  ·
    refine pr_b pr_any (fun rh4 _ => ?_)
    exact pr_s h_1
theorem z_X12_join_J22 {n : Nat} {σh2 : ms_T} {v1_h2 : Int32} {v2_h2 : Int32} {w0_h2 : Int32} {σ0 : ms_T} (h0 : kq σ0 σh2)  : pr (f_X12_join_J22 n σh2 v1_h2 v2_h2 w0_h2) (fun res => kq σ0 res.2) := by
  unfold f_X12_join_J22
  refine pr_c (z_X12_is h0 ) (fun rh3 σh3 h_1 => ?_)
  replace h_1 : kq σ0 σh3 := h_1
  refine pr_i (fun _ => ?_) (fun _ => ?_)
  ·
    exact pr_s h_1
  ·
    refine pr_b pr_any (fun rh5 _ => ?_)
    exact pr_s h_1
theorem z_X12_join_J21 {n : Nat} {σh6 : ms_T} {v1_h6 : Int32} {v2_h6 : Int32} {σ0 : ms_T} (h0 : kq σ0 σh6)  : pr (f_X12_join_J21 n σh6 v1_h6 v2_h6) (fun res => kq σ0 res.2) := by
  unfold f_X12_join_J21
  exact z_X12_join_J22 h0 
theorem z_X12_join {n : Nat} {σ : ms_T} {a1 : Int32} {a2 : Int32} {σ0 : ms_T} (h0 : kq σ0 σ)  : pr (f_X12_join n σ a1 a2) (fun res => kq σ0 res.2) := by
  unfold f_X12_join
  refine pr_b pr_any (fun rh1 _ => ?_)
  refine pr_i (fun _ => ?_) (fun _ => ?_)
  ·
    exact z_X12_join_J21 h0 
  ·
    refine pr_b pr_any (fun rh8 _ => ?_)
    refine pr_i (fun _ => ?_) (fun _ => ?_)
    ·
      exact z_X12_join_J21 h0 
    ·
      exact z_X12_join_J22 h0 
theorem z_X12_mark_L10 {n : Nat} {σ0 : ms_T}  : ∀ (k10 : Nat) {σh2 : ms_T} {v1_h2 : Int32} {v2_h2 : Int32}, kq σ0 σh2 → pr (f_X12_mark_L10 n k10 σh2 v1_h2 v2_h2) (fun res => kq σ0 res.2) := by
  intro k10
  induction k10 with
  | zero => intro σh2 v1_h2 v2_h2 h0; rw [f_X12_mark_L10.eq_1]; exact pr_0
  | succ k10 ih =>
    intro σh2 v1_h2 v2_h2 h0
    rw [f_X12_mark_L10.eq_2]
    refine pr_i (fun _ => ?_) (fun _ => ?_)
    ·
      exact pr_s h0
    ·
      refine pr_g (fun _ _ => ?_)
      refine pr_b pr_any (fun rh5 _ => ?_)
      refine pr_ln (fun x6 _ => ?_)
      exact ih h0
theorem z_X12_mark {n : Nat} {σ : ms_T} {σ0 : ms_T} (h0 : kq σ0 σ)  : pr (f_X12_mark n σ) (fun res => kq σ0 res.2) := by
  unfold f_X12_mark
  refine pr_c (z_X12_is h0 ) (fun rh1 σh1 h_1 => ?_)
  replace h_1 : kq σ0 σh1 := h_1
  exact z_X12_mark_L10  _ h_1
theorem z_X12_frozen_J33 {n : Nat} {σh1 : ms_T} {v1_h1 : Int32} {v2_h1 : Int32} {w0_h1 : Int32} {σ0 : ms_T} (h0 : kq σ0 σh1)  : pr (f_X12_frozen_J33 n σh1 v1_h1 v2_h1 w0_h1) (fun res => kq σ0 res.2) := by
  unfold f_X12_frozen_J33
  refine pr_c (z_X12_is h0 ) (fun rh2 σh2 h_1 => ?_)
  replace h_1 : kq σ0 σh2 := h_1
  refine pr_i (fun _ => ?_) (fun _ => ?_)
  ·
    exact pr_s h_1
  ·
    refine pr_i (fun _ => ?_) (fun _ => ?_)
    ·
      refine pr_b pr_any (fun rh5 _ => ?_)
      refine pr_i (fun _ => ?_) (fun _ => ?_)
      ·
        exact pr_s h_1
      ·
        exact pr_s h_1
    ·
      refine pr_b pr_any (fun rh7 _ => ?_)
      exact pr_s h_1
theorem z_X12_frozen_J14 {n : Nat} {σh8 : ms_T} {v1_h8 : Int32} {v2_h8 : Int32} {σ0 : ms_T} (h0 : kq σ0 σh8)  : pr (f_X12_frozen_J14 n σh8 v1_h8 v2_h8) (fun res => kq σ0 res.2) := by
  unfold f_X12_frozen_J14
  exact z_X12_frozen_J33 h0 
theorem z_X12_frozen {n : Nat} {σ : ms_T} {a1 : Int32} {a2 : Int32} {σ0 : ms_T} (h0 : kq σ0 σ)  : pr (f_X12_frozen n σ a1 a2) (fun res => kq σ0 res.2) := by
  unfold f_X12_frozen
  refine pr_i (fun _ => ?_) (fun _ => ?_)
  ·
    exact z_X12_frozen_J14 h0 
  ·
    refine pr_b pr_any (fun rh10 _ => ?_)
    refine pr_i (fun _ => ?_) (fun _ => ?_)
    ·
      exact z_X12_frozen_J14 h0 
    ·
      refine pr_g (fun _ _ => ?_)
      refine pr_i (fun _ => ?_) (fun _ => ?_)
      ·
        exact z_X12_frozen_J33 h0 
      ·
        exact z_X12_frozen_J33 h0 
theorem z_X12_watcher_J26 {n : Nat} {σh2 : ms_T} {v1_h2 : Int32} {v2_h2 : Int32} {w0_h2 : Int32} {σ0 : ms_T} (h0 : kq σ0 σh2)  : pr (f_X12_watcher_J26 n σh2 v1_h2 v2_h2 w0_h2) (fun res => kq σ0 res.2) := by
  unfold f_X12_watcher_J26
  refine pr_c (z_X12_is h0 ) (fun rh3 σh3 h_1 => ?_)
  replace h_1 : kq σ0 σh3 := h_1
  refine pr_i (fun _ => ?_) (fun _ => ?_)
  ·
    exact pr_s h_1
  ·
    refine pr_b pr_any (fun rh5 _ => ?_)
    exact pr_s h_1
theorem z_X12_watcher {n : Nat} {σ : ms_T} {a1 : Int32} {a2 : Int32} {σ0 : ms_T} (h0 : kq σ0 σ)  : pr (f_X12_watcher n σ a1 a2) (fun res => kq σ0 res.2) := by
  unfold f_X12_watcher
  refine pr_b pr_any (fun rh1 _ => ?_)
  refine pr_i (fun _ => ?_) (fun _ => ?_)
  ·
    exact z_X12_watcher_J26 h0 
  ·
    refine pr_b pr_any (fun rh7 _ => ?_)
    refine pr_i (fun _ => ?_) (fun _ => ?_)
    ·
      exact z_X12_watcher_J26 h0 
    ·
      exact z_X12_watcher_J26 h0 
theorem z_X12_pad_J24 {n : Nat} {σh1 : ms_T} {v1_h1 : Int32} {w0_h1 : Int32} {σ0 : ms_T} (h0 : kq σ0 σh1)  : pr (f_X12_pad_J24 n σh1 v1_h1 w0_h1) (fun res => kq σ0 res.2) := by
  unfold f_X12_pad_J24
  refine pr_c (z_X12_is h0 ) (fun rh2 σh2 h_1 => ?_)
  replace h_1 : kq σ0 σh2 := h_1
  refine pr_i (fun _ => ?_) (fun _ => ?_)
  ·
    exact pr_s h_1
  ·
    refine pr_g (fun _ _ => ?_)
    exact pr_s h_1
theorem z_X12_pad {n : Nat} {σ : ms_T} {a1 : Int32} {σ0 : ms_T} (h0 : kq σ0 σ)  : pr (f_X12_pad n σ a1) (fun res => kq σ0 res.2) := by
  unfold f_X12_pad
  refine pr_i (fun _ => ?_) (fun _ => ?_)
  ·
    refine pr_g (fun _ _ => ?_)
    refine pr_i (fun _ => ?_) (fun _ => ?_)
    ·
      exact z_X12_pad_J24 h0 
    ·
      exact z_X12_pad_J24 h0 
  ·
    exact z_X12_pad_J24 h0 
theorem z_X12_checks_J32 {n : Nat} {σh2 : ms_T} {v1_h2 : Int32} {v2_h2 : Int32} {v3_h2 : Int32} {v4_h2 : Int32} {w0_h2 : Int32} {σ0 : ms_T} (h0 : kq σ0 σh2)  : pr (f_X12_checks_J32 n σh2 v1_h2 v2_h2 v3_h2 v4_h2 w0_h2) (fun res => kq σ0 res.2) := by
  unfold f_X12_checks_J32
  refine pr_c (z_X12_is h0 ) (fun rh3 σh3 h_1 => ?_)
  replace h_1 : kq σ0 σh3 := h_1
  refine pr_i (fun _ => ?_) (fun _ => ?_)
  ·
    exact pr_s h_1
  ·
    refine pr_c (z_X12_fromPad h_1 ) (fun rh5 σh5 h_2 => ?_)
    replace h_2 : kq σ0 σh5 := h_2
    refine pr_c (z_X12_whyIn h_2 ) (fun rh6 σh6 h_3 => ?_)
    replace h_3 : kq σ0 σh6 := h_3
    exact pr_s h_3
theorem z_X12_checks_J31 {n : Nat} {σh7 : ms_T} {v1_h7 : Int32} {v2_h7 : Int32} {v3_h7 : Int32} {v4_h7 : Int32} {σ0 : ms_T} (h0 : kq σ0 σh7)  : pr (f_X12_checks_J31 n σh7 v1_h7 v2_h7 v3_h7 v4_h7) (fun res => kq σ0 res.2) := by
  unfold f_X12_checks_J31
  exact z_X12_checks_J32 h0 
theorem z_X12_checks {n : Nat} {σ : ms_T} {a1 : Int32} {a2 : Int32} {a3 : Int32} {a4 : Int32} {σ0 : ms_T} (h0 : kq σ0 σ)  : pr (f_X12_checks n σ a1 a2 a3 a4) (fun res => kq σ0 res.2) := by
  unfold f_X12_checks
  refine pr_b pr_any (fun rh1 _ => ?_)
  refine pr_i (fun _ => ?_) (fun _ => ?_)
  ·
    exact z_X12_checks_J31 h0 
  ·
    refine pr_b pr_any (fun rh9 _ => ?_)
    refine pr_i (fun _ => ?_) (fun _ => ?_)
    ·
      exact z_X12_checks_J31 h0 
    ·
      refine pr_b pr_any (fun rh11 _ => ?_)
      refine pr_i (fun _ => ?_) (fun _ => ?_)
      ·
        exact z_X12_checks_J31 h0 
      ·
        exact z_X12_checks_J32 h0 
theorem z_X12_growth__J32 {n : Nat} {σh1 : ms_T} {v1_h1 : Int32} {v2_h1 : Int32} {v3_h1 : Int32} {v4_h1 : Int32} {w0_h1 : Int32} {σ0 : ms_T} (h0 : kq σ0 σh1)  : pr (f_X12_growth__J32 n σh1 v1_h1 v2_h1 v3_h1 v4_h1 w0_h1) (fun res => kq σ0 res.2) := by
  unfold f_X12_growth__J32
  refine pr_c (z_X12_is h0 ) (fun rh2 σh2 h_1 => ?_)
  replace h_1 : kq σ0 σh2 := h_1
  refine pr_i (fun _ => ?_) (fun _ => ?_)
  ·
    exact pr_s h_1
  ·
    refine pr_c (z_X12_fromPad h_1 ) (fun rh4 σh4 h_2 => ?_)
    replace h_2 : kq σ0 σh4 := h_2
    refine pr_c (z_X12_whyGrown h_2 ) (fun rh5 σh5 h_3 => ?_)
    replace h_3 : kq σ0 σh5 := h_3
    exact pr_s h_3
theorem z_X12_growth__J31 {n : Nat} {σh6 : ms_T} {v1_h6 : Int32} {v2_h6 : Int32} {v3_h6 : Int32} {v4_h6 : Int32} {σ0 : ms_T} (h0 : kq σ0 σh6)  : pr (f_X12_growth__J31 n σh6 v1_h6 v2_h6 v3_h6 v4_h6) (fun res => kq σ0 res.2) := by
  unfold f_X12_growth__J31
  exact z_X12_growth__J32 h0 
theorem z_X12_growth_ {n : Nat} {σ : ms_T} {a1 : Int32} {a2 : Int32} {a3 : Int32} {a4 : Int32} {σ0 : ms_T} (h0 : kq σ0 σ)  : pr (f_X12_growth_ n σ a1 a2 a3 a4) (fun res => kq σ0 res.2) := by
  unfold f_X12_growth_
  refine pr_i (fun _ => ?_) (fun _ => ?_)
  ·
    exact z_X12_growth__J31 h0 
  ·
    refine pr_i (fun _ => ?_) (fun _ => ?_)
    ·
      exact z_X12_growth__J31 h0 
    ·
      refine pr_b pr_any (fun rh9 _ => ?_)
      refine pr_i (fun _ => ?_) (fun _ => ?_)
      ·
        exact z_X12_growth__J31 h0 
      ·
        refine pr_b pr_any (fun rh11 _ => ?_)
        refine pr_i (fun _ => ?_) (fun _ => ?_)
        ·
          exact z_X12_growth__J31 h0 
        ·
          exact z_X12_growth__J32 h0 
theorem z_X12_bundled_J104 {n : Nat} {σh10 : ms_T} {w0_h10 : Int32} {w1_h10 : Int32} {w2_h10 : Int32} {σ0 : ms_T} (h0 : kq σ0 σh10)  : pr (f_X12_bundled_J104 n σh10 w0_h10 w1_h10 w2_h10) (fun res => kq σ0 res.2) := by
  unfold f_X12_bundled_J104
  refine pr_b pr_any (fun rh11 _ => ?_)
  exact pr_s h0
theorem z_X12_bundled_J99 {n : Nat} {σh12 : ms_T} {w0_h12 : Int32} {w1_h12 : Int32} {σ0 : ms_T} (h0 : kq σ0 σh12)  : pr (f_X12_bundled_J99 n σh12 w0_h12 w1_h12) (fun res => kq σ0 res.2) := by
  unfold f_X12_bundled_J99
  exact z_X12_bundled_J104 h0 
theorem z_X12_bundled_J30 {n : Nat} {σh1 : ms_T} {v1_h1 : Int32} {v2_h1 : Int32} {v3_h1 : Int32} {w0_h1 : Int32} {σ0 : ms_T} (h0 : kq σ0 σh1)  : pr (f_X12_bundled_J30 n σh1 v1_h1 v2_h1 v3_h1 w0_h1) (fun res => kq σ0 res.2) := by
  unfold f_X12_bundled_J30
  refine pr_c (z_X12_is h0 ) (fun rh2 σh2 h_1 => ?_)
  replace h_1 : kq σ0 σh2 := h_1
  refine pr_i (fun _ => ?_) (fun _ => ?_)
  ·
    exact pr_s h_1
  ·
    refine pr_b (z_X12_bundleOf h_1 ) (fun σh4 h_2 => ?_)
    replace h_2 : kq σ0 σh4 := h_2
    refine pr_b pr_any (fun rh5 _ => ?_)
    refine pr_ln (fun x6 _ => ?_)
    refine pr_c (z_X12_fromPad h_2 ) (fun rh7 σh7 h_3 => ?_)
    replace h_3 : kq σ0 σh7 := h_3
    refine pr_ln (fun σh8 e4 => ?_)
    have h_4 : kq σ0 σh8 := by rw [e4]; exact kq_sI rfl h_3
    refine pr_ln (fun σh9 e5 => ?_)
    have h_5 : kq σ0 σh9 := by rw [e5]; exact kq_sI rfl h_4
    refine pr_i (fun _ => ?_) (fun _ => ?_)
    ·
      refine pr_c (z_X12_foldsBundle  _ h_5) (fun rh14 σh14 h_6 => ?_)
      replace h_6 : kq σ0 σh14 := h_6
      refine pr_i (fun _ => ?_) (fun _ => ?_)
      ·
        exact z_X12_bundled_J99 h_6 
      ·
        exact z_X12_bundled_J104 h_6 
    ·
      exact z_X12_bundled_J99 h_5 
theorem z_X12_bundled_J25 {n : Nat} {σh16 : ms_T} {v1_h16 : Int32} {v2_h16 : Int32} {v3_h16 : Int32} {σ0 : ms_T} (h0 : kq σ0 σh16)  : pr (f_X12_bundled_J25 n σh16 v1_h16 v2_h16 v3_h16) (fun res => kq σ0 res.2) := by
  unfold f_X12_bundled_J25
  exact z_X12_bundled_J30 h0 
theorem z_X12_bundled {n : Nat} {σ : ms_T} {a1 : Int32} {a2 : Int32} {a3 : Int32} {σ0 : ms_T} (h0 : kq σ0 σ)  : pr (f_X12_bundled n σ a1 a2 a3) (fun res => kq σ0 res.2) := by
  unfold f_X12_bundled
  refine pr_i (fun _ => ?_) (fun _ => ?_)
  ·
    exact z_X12_bundled_J25 h0 
  ·
    refine pr_i (fun _ => ?_) (fun _ => ?_)
    ·
      exact z_X12_bundled_J25 h0 
    ·
      refine pr_b pr_any (fun rh19 _ => ?_)
      refine pr_i (fun _ => ?_) (fun _ => ?_)
      ·
        refine pr_b pr_any (fun rh21 _ => ?_)
        refine pr_i (fun _ => ?_) (fun _ => ?_)
        ·
          exact z_X12_bundled_J25 h0 
        ·
          exact z_X12_bundled_J30 h0 
      ·
        exact z_X12_bundled_J25 h0 
theorem z_X12_fold_L43 {n : Nat} {σ0 : ms_T}  : ∀ (k43 : Nat) {σh8 : ms_T} {v1_h8 : Int32} {v2_h8 : Int32}, kq σ0 σh8 → pr (f_X12_fold_L43 n k43 σh8 v1_h8 v2_h8) (fun res => kq σ0 res.2) := by
  intro k43
  induction k43 with
  | zero => intro σh8 v1_h8 v2_h8 h0; rw [f_X12_fold_L43.eq_1]; exact pr_0
  | succ k43 ih =>
    intro σh8 v1_h8 v2_h8 h0
    rw [f_X12_fold_L43.eq_2]
    refine pr_i (fun _ => ?_) (fun _ => ?_)
    ·
      exact pr_s h0
    ·
      refine pr_g (fun _ _ => ?_)
      refine pr_b pr_any (fun rh11 _ => ?_)
      refine pr_ln (fun x12 _ => ?_)
      exact ih h0
theorem z_X12_fold {n : Nat} {σ : ms_T} {σ0 : ms_T} (h0 : kq σ0 σ)  : pr (f_X12_fold n σ) (fun res => kq σ0 res.2) := by
  unfold f_X12_fold
  refine pr_c (z_X12_is h0 ) (fun rh1 σh1 h_1 => ?_)
  replace h_1 : kq σ0 σh1 := h_1
  refine pr_g (fun _ _ => ?_)
  refine pr_i (fun _ => ?_) (fun _ => ?_)
  ·
    exact pr_s h_1
  ·
    refine pr_g (fun _ _ => ?_)
    refine pr_g (fun _ _ => ?_)
    refine pr_ln (fun x6 _ => ?_)
    refine pr_g (fun _ _ => ?_)
    refine pr_ln (fun x13 _ => ?_)
    exact z_X12_fold_L43  _ h_1
theorem z_X12_steps_J15 {n : Nat} {σh2 : ms_T} {v1_h2 : Int32} {v2_h2 : Int32} {w0_h2 : Int32} {σ0 : ms_T} (h0 : kq σ0 σh2)  : pr (f_X12_steps_J15 n σh2 v1_h2 v2_h2 w0_h2) (fun res => kq σ0 res.2) := by
  unfold f_X12_steps_J15
  refine pr_c (z_X12_is h0 ) (fun rh3 σh3 h_1 => ?_)
  replace h_1 : kq σ0 σh3 := h_1
  refine pr_i (fun _ => ?_) (fun _ => ?_)
  ·
    exact pr_s h_1
  ·
    refine pr_b (z_X12_inclusion h_1 ) (fun σh5 h_2 => ?_)
    replace h_2 : kq σ0 σh5 := h_2
    exact pr_s h_2
theorem z_X12_steps {n : Nat} {σ : ms_T} {a1 : Int32} {a2 : Int32} {σ0 : ms_T} (h0 : kq σ0 σ)  : pr (f_X12_steps n σ a1 a2) (fun res => kq σ0 res.2) := by
  unfold f_X12_steps
  refine pr_b pr_any (fun rh1 _ => ?_)
  refine pr_i (fun _ => ?_) (fun _ => ?_)
  ·
    exact z_X12_steps_J15 h0 
  ·
    exact z_X12_steps_J15 h0 
theorem z_X12_climbs_J15 {n : Nat} {σh1 : ms_T} {v1_h1 : Int32} {v2_h1 : Int32} {w0_h1 : Int32} {σ0 : ms_T} (h0 : kq σ0 σh1)  : pr (f_X12_climbs_J15 n σh1 v1_h1 v2_h1 w0_h1) (fun res => kq σ0 res.2) := by
  unfold f_X12_climbs_J15
  refine pr_c (z_X12_is h0 ) (fun rh2 σh2 h_1 => ?_)
  replace h_1 : kq σ0 σh2 := h_1
  refine pr_i (fun _ => ?_) (fun _ => ?_)
  ·
    exact pr_s h_1
  ·
    refine pr_b (z_X12_growth h_1 ) (fun σh4 h_2 => ?_)
    replace h_2 : kq σ0 σh4 := h_2
    exact pr_s h_2
theorem z_X12_climbs_J14 {n : Nat} {σh5 : ms_T} {v1_h5 : Int32} {v2_h5 : Int32} {σ0 : ms_T} (h0 : kq σ0 σh5)  : pr (f_X12_climbs_J14 n σh5 v1_h5 v2_h5) (fun res => kq σ0 res.2) := by
  unfold f_X12_climbs_J14
  exact z_X12_climbs_J15 h0 
theorem z_X12_climbs {n : Nat} {σ : ms_T} {a1 : Int32} {a2 : Int32} {σ0 : ms_T} (h0 : kq σ0 σ)  : pr (f_X12_climbs n σ a1 a2) (fun res => kq σ0 res.2) := by
  unfold f_X12_climbs
  refine pr_i (fun _ => ?_) (fun _ => ?_)
  ·
    exact z_X12_climbs_J14 h0 
  ·
    refine pr_i (fun _ => ?_) (fun _ => ?_)
    ·
      exact z_X12_climbs_J14 h0 
    ·
      exact z_X12_climbs_J15 h0 
theorem z_X12_agree_J20 {n : Nat} {σh2 : ms_T} {v1_h2 : Int32} {v2_h2 : Int32} {w0_h2 : Int32} {σ0 : ms_T} (h0 : kq σ0 σh2)  : pr (f_X12_agree_J20 n σh2 v1_h2 v2_h2 w0_h2) (fun res => kq σ0 res.2) := by
  unfold f_X12_agree_J20
  refine pr_c (z_X12_is h0 ) (fun rh3 σh3 h_1 => ?_)
  replace h_1 : kq σ0 σh3 := h_1
  refine pr_i (fun _ => ?_) (fun _ => ?_)
  ·
    exact pr_s h_1
  ·
    refine pr_b pr_any (fun rh5 _ => ?_)
    refine pr_i (fun _ => ?_) (fun _ => ?_)
    ·
      exact pr_s h_1
    ·
      exact pr_s h_1
theorem z_X12_agree_J19 {n : Nat} {σh7 : ms_T} {v1_h7 : Int32} {v2_h7 : Int32} {σ0 : ms_T} (h0 : kq σ0 σh7)  : pr (f_X12_agree_J19 n σh7 v1_h7 v2_h7) (fun res => kq σ0 res.2) := by
  unfold f_X12_agree_J19
  exact z_X12_agree_J20 h0 
theorem z_X12_agree {n : Nat} {σ : ms_T} {a1 : Int32} {a2 : Int32} {σ0 : ms_T} (h0 : kq σ0 σ)  : pr (f_X12_agree n σ a1 a2) (fun res => kq σ0 res.2) := by
  unfold f_X12_agree
  refine pr_b pr_any (fun rh1 _ => ?_)
  refine pr_i (fun _ => ?_) (fun _ => ?_)
  ·
    exact z_X12_agree_J19 h0 
  ·
    refine pr_b pr_any (fun rh9 _ => ?_)
    refine pr_i (fun _ => ?_) (fun _ => ?_)
    ·
      exact z_X12_agree_J19 h0 
    ·
      exact z_X12_agree_J20 h0 
theorem z_X12_where_J87 {n : Nat} {rec43 : ms_T → Int32 → Int32 → Int32 → Int32 → Int32 → Option (Int32 × ms_T)} {σh12 : ms_T} {v1_h12 : Int32} {v2_h12 : Int32} {v3_h12 : Int32} {v4_h12 : Int32} {v5_h12 : Int32} {σ0 : ms_T} (h0 : kq σ0 σh12) (hrec43 : ∀ {y0 : ms_T} {y1 : Int32} {y2 : Int32} {y3 : Int32} {y4 : Int32} {y5 : Int32}, kq σ0 y0 → pr (rec43 y0 y1 y2 y3 y4 y5) (fun res => kq σ0 res.2)) : pr (f_X12_where_J87 n rec43 σh12 v1_h12 v2_h12 v3_h12 v4_h12 v5_h12) (fun res => kq σ0 res.2) := by
  unfold f_X12_where_J87
  refine pr_ln (fun x13 _ => ?_)
  exact hrec43 h0
theorem z_X12_where_J85 {n : Nat} {rec43 : ms_T → Int32 → Int32 → Int32 → Int32 → Int32 → Option (Int32 × ms_T)} {σh16 : ms_T} {v1_h16 : Int32} {v2_h16 : Int32} {v3_h16 : Int32} {v5_h16 : Int32} {w0_h16 : Int32} {σ0 : ms_T} (h0 : kq σ0 σh16) (hrec43 : ∀ {y0 : ms_T} {y1 : Int32} {y2 : Int32} {y3 : Int32} {y4 : Int32} {y5 : Int32}, kq σ0 y0 → pr (rec43 y0 y1 y2 y3 y4 y5) (fun res => kq σ0 res.2)) : pr (f_X12_where_J85 n rec43 σh16 v1_h16 v2_h16 v3_h16 v5_h16 w0_h16) (fun res => kq σ0 res.2) := by
  unfold f_X12_where_J85
  exact z_X12_where_J87 h0 (fun h => hrec43 h)
theorem z_X12_where_L43 {n : Nat} {σ0 : ms_T}  : ∀ (k43 : Nat) {σh5 : ms_T} {v1_h5 : Int32} {v2_h5 : Int32} {v3_h5 : Int32} {v4_h5 : Int32} {v5_h5 : Int32}, kq σ0 σh5 → pr (f_X12_where_L43 n k43 σh5 v1_h5 v2_h5 v3_h5 v4_h5 v5_h5) (fun res => kq σ0 res.2) := by
  intro k43
  induction k43 with
  | zero => intro σh5 v1_h5 v2_h5 v3_h5 v4_h5 v5_h5 h0; rw [f_X12_where_L43.eq_1]; exact pr_0
  | succ k43 ih =>
    intro σh5 v1_h5 v2_h5 v3_h5 v4_h5 v5_h5 h0
    rw [f_X12_where_L43.eq_2]
    refine pr_b pr_any (fun rh6 _ => ?_)
    refine pr_i (fun _ => ?_) (fun _ => ?_)
    ·
      refine pr_i (fun _ => ?_) (fun _ => ?_)
      ·
        exact pr_s h0
      ·
        refine pr_i (fun _ => ?_) (fun _ => ?_)
        ·
          exact pr_s h0
        ·
          refine pr_c (z_X12_refuse h0 ) (fun rh10 σh10 h_1 => ?_)
          replace h_1 : kq σ0 σh10 := h_1
          exact pr_s h_1
    ·
      refine pr_b pr_any (fun rh11 _ => ?_)
      refine pr_i (fun _ => ?_) (fun _ => ?_)
      ·
        exact z_X12_where_J87 h0 (fun h => ih h)
      ·
        refine pr_ln (fun x15 _ => ?_)
        refine pr_i (fun _ => ?_) (fun _ => ?_)
        ·
          exact z_X12_where_J85 h0 (fun h => ih h)
        ·
          exact z_X12_where_J85 h0 (fun h => ih h)
theorem z_X12_where_J27 {n : Nat} {σh2 : ms_T} {v1_h2 : Int32} {v2_h2 : Int32} {w0_h2 : Int32} {σ0 : ms_T} (h0 : kq σ0 σh2)  : pr (f_X12_where_J27 n σh2 v1_h2 v2_h2 w0_h2) (fun res => kq σ0 res.2) := by
  unfold f_X12_where_J27
  refine pr_c (z_X12_is h0 ) (fun rh3 σh3 h_1 => ?_)
  replace h_1 : kq σ0 σh3 := h_1
  refine pr_i (fun _ => ?_) (fun _ => ?_)
  ·
    exact pr_s h_1
  ·
    exact z_X12_where_L43  _ h_1
theorem z_X12_where {n : Nat} {σ : ms_T} {a1 : Int32} {a2 : Int32} {σ0 : ms_T} (h0 : kq σ0 σ)  : pr (f_X12_where n σ a1 a2) (fun res => kq σ0 res.2) := by
  unfold f_X12_where
  refine pr_b pr_any (fun rh1 _ => ?_)
  refine pr_i (fun _ => ?_) (fun _ => ?_)
  ·
    exact z_X12_where_J27 h0 
  ·
    refine pr_b pr_any (fun rh19 _ => ?_)
    refine pr_i (fun _ => ?_) (fun _ => ?_)
    ·
      exact z_X12_where_J27 h0 
    ·
      exact z_X12_where_J27 h0 
theorem z_X12_seeks_J29 {n : Nat} {recM : ms_T → Int32 → Int32 → Option ms_T} {σh3 : ms_T} {v1_h3 : Int32} {v2_h3 : Int32} {σ0 : ms_T} (h0 : kq σ0 σh3) (hrecM : ∀ {y0 : ms_T} {y1 : Int32} {y2 : Int32}, kq σ0 y0 → pr (recM y0 y1 y2) (fun res => kq σ0 res)) : pr (f_X12_seeks_J29 n recM σh3 v1_h3 v2_h3) (fun res => kq σ0 res) := by
  unfold f_X12_seeks_J29
  refine pr_ln (fun σh4 e1 => ?_)
  have h_1 : kq σ0 σh4 := by rw [e1]; exact kq_sI rfl h0
  refine pr_i (fun _ => ?_) (fun _ => ?_)
  ·
    exact pr_s h_1
  ·
    refine pr_b pr_any (fun rh6 _ => ?_)
    refine pr_b (hrecM h_1) (fun σh7 h_2 => ?_)
    replace h_2 : kq σ0 σh7 := h_2
    refine pr_b (hrecM h_2) (fun σh8 h_3 => ?_)
    replace h_3 : kq σ0 σh8 := h_3
    exact pr_s h_3
theorem z_X12_seeks {n : Nat} {σ0 : ms_T}  : ∀ (d : Nat) {σ : ms_T} {a1 : Int32} {a2 : Int32}, kq σ0 σ → pr (f_X12_seeks n d σ a1 a2) (fun res => kq σ0 res) := by
  intro d
  induction d with
  | zero => intro σ a1 a2 h0; rw [f_X12_seeks.eq_1]; exact pr_0
  | succ d ih =>
    intro σ a1 a2 h0
    rw [f_X12_seeks.eq_2]
    refine pr_i (fun _ => ?_) (fun _ => ?_)
    ·
      exact pr_s h0
    ·
      refine pr_i (fun _ => ?_) (fun _ => ?_)
      ·
        refine pr_i (fun _ => ?_) (fun _ => ?_)
        ·
          refine pr_ln (fun σh10 e1 => ?_)
          have h_1 : kq σ0 σh10 := by rw [e1]; exact kq_sI rfl h0
          refine pr_ln (fun σh11 e2 => ?_)
          have h_2 : kq σ0 σh11 := by rw [e2]; exact kq_sI rfl h_1
          exact z_X12_seeks_J29 h_2 (fun h => ih h)
        ·
          exact z_X12_seeks_J29 h0 (fun h => ih h)
      ·
        exact pr_s h0
theorem z_X12_tree_J25 {n : Nat} {σh1 : ms_T} {v1_h1 : Int32} {v2_h1 : Int32} {v3_h1 : Int32} {v4_h1 : Int32} {w0_h1 : Int32} {σ0 : ms_T} (h0 : kq σ0 σh1)  : pr (f_X12_tree_J25 n σh1 v1_h1 v2_h1 v3_h1 v4_h1 w0_h1) (fun res => kq σ0 res.2) := by
  unfold f_X12_tree_J25
  refine pr_c (z_X12_is h0 ) (fun rh2 σh2 h_1 => ?_)
  replace h_1 : kq σ0 σh2 := h_1
  refine pr_i (fun _ => ?_) (fun _ => ?_)
  ·
    exact pr_s h_1
  ·
    refine pr_ln (fun σh4 e2 => ?_)
    have h_2 : kq σ0 σh4 := by rw [e2]; exact kq_sI rfl h_1
    refine pr_b (z_X12_seeks  _ h_2) (fun σh5 h_3 => ?_)
    replace h_3 : kq σ0 σh5 := h_3
    refine pr_i (fun _ => ?_) (fun _ => ?_)
    ·
      refine pr_i (fun _ => ?_) (fun _ => ?_)
      ·
        exact pr_s h_3
      ·
        refine pr_i (fun _ => ?_) (fun _ => ?_)
        ·
          exact pr_s h_3
        ·
          refine pr_b pr_any (fun rh9 _ => ?_)
          exact pr_s h_3
    ·
      refine pr_c (z_X12_refuse h_3 ) (fun rh10 σh10 h_4 => ?_)
      replace h_4 : kq σ0 σh10 := h_4
      exact pr_s h_4
theorem z_X12_tree_J15 {n : Nat} {σh11 : ms_T} {v1_h11 : Int32} {v2_h11 : Int32} {v3_h11 : Int32} {v4_h11 : Int32} {σ0 : ms_T} (h0 : kq σ0 σh11)  : pr (f_X12_tree_J15 n σh11 v1_h11 v2_h11 v3_h11 v4_h11) (fun res => kq σ0 res.2) := by
  unfold f_X12_tree_J15
  exact z_X12_tree_J25 h0 
theorem z_X12_tree {n : Nat} {σ : ms_T} {a1 : Int32} {a2 : Int32} {a3 : Int32} {a4 : Int32} {σ0 : ms_T} (h0 : kq σ0 σ)  : pr (f_X12_tree n σ a1 a2 a3 a4) (fun res => kq σ0 res.2) := by
  unfold f_X12_tree
  refine pr_i (fun _ => ?_) (fun _ => ?_)
  ·
    exact z_X12_tree_J15 h0 
  ·
    refine pr_b pr_any (fun rh13 _ => ?_)
    refine pr_i (fun _ => ?_) (fun _ => ?_)
    ·
      exact z_X12_tree_J15 h0 
    ·
      refine pr_b pr_any (fun rh15 _ => ?_)
      exact z_X12_tree_J25 h0 
theorem z_X12_proves_J57 {n : Nat} {σh1 : ms_T} {v1_h1 : Int32} {v2_h1 : Int32} {w0_h1 : Int32} {σ0 : ms_T} (h0 : kq σ0 σh1)  : pr (f_X12_proves_J57 n σh1 v1_h1 v2_h1 w0_h1) (fun res => kq σ0 res.2) := by
  unfold f_X12_proves_J57
  refine pr_c (z_X12_is h0 ) (fun rh2 σh2 h_1 => ?_)
  replace h_1 : kq σ0 σh2 := h_1
  refine pr_i (fun _ => ?_) (fun _ => ?_)
  ·
    exact pr_s h_1
  ·
    refine pr_b pr_any (fun rh4 _ => ?_)
    refine pr_b pr_any (fun rh5 _ => ?_)
    refine pr_b pr_any (fun rh6 _ => ?_)
    refine pr_b pr_any (fun rh7 _ => ?_)
    refine pr_b pr_any (fun rh8 _ => ?_)
    refine pr_c (z_X12_whyByRecord h_1 ) (fun rh9 σh9 h_2 => ?_)
    replace h_2 : kq σ0 σh9 := h_2
    exact pr_s h_2
theorem z_X12_proves_J9 {n : Nat} {σh10 : ms_T} {v1_h10 : Int32} {v2_h10 : Int32} {σ0 : ms_T} (h0 : kq σ0 σh10)  : pr (f_X12_proves_J9 n σh10 v1_h10 v2_h10) (fun res => kq σ0 res.2) := by
  unfold f_X12_proves_J9
  exact z_X12_proves_J57 h0 
theorem z_X12_proves_J33 {n : Nat} {σh14 : ms_T} {v1_h14 : Int32} {v2_h14 : Int32} {σ0 : ms_T} (h0 : kq σ0 σh14)  : pr (f_X12_proves_J33 n σh14 v1_h14 v2_h14) (fun res => kq σ0 res.2) := by
  unfold f_X12_proves_J33
  exact z_X12_proves_J57 h0 
theorem z_X12_proves {n : Nat} {σ : ms_T} {a1 : Int32} {a2 : Int32} {σ0 : ms_T} (h0 : kq σ0 σ)  : pr (f_X12_proves n σ a1 a2) (fun res => kq σ0 res.2) := by
  unfold f_X12_proves
  refine pr_i (fun _ => ?_) (fun _ => ?_)
  ·
    exact z_X12_proves_J9 h0 
  ·
    refine pr_i (fun _ => ?_) (fun _ => ?_)
    ·
      refine pr_g (fun _ _ => ?_)
      refine pr_i (fun _ => ?_) (fun _ => ?_)
      ·
        exact z_X12_proves_J33 h0 
      ·
        refine pr_g (fun _ _ => ?_)
        refine pr_i (fun _ => ?_) (fun _ => ?_)
        ·
          refine pr_b pr_any (fun rh18 _ => ?_)
          refine pr_b pr_any (fun rh19 _ => ?_)
          refine pr_i (fun _ => ?_) (fun _ => ?_)
          ·
            exact z_X12_proves_J57 h0 
          ·
            exact z_X12_proves_J57 h0 
        ·
          exact z_X12_proves_J33 h0 
    ·
      exact z_X12_proves_J9 h0 
theorem z_X12_longest_J100 {n : Nat} {rec45 : ms_T → Int32 → Int32 → Int32 → Int32 → Int32 → Int32 → Option (Int32 × ms_T)} {σh12 : ms_T} {v1_h12 : Int32} {v2_h12 : Int32} {v4_h12 : Int32} {v5_h12 : Int32} {v6_h12 : Int32} {w0_h12 : Int32} {σ0 : ms_T} (h0 : kq σ0 σh12) (hrec45 : ∀ {y0 : ms_T} {y1 : Int32} {y2 : Int32} {y3 : Int32} {y4 : Int32} {y5 : Int32} {y6 : Int32}, kq σ0 y0 → pr (rec45 y0 y1 y2 y3 y4 y5 y6) (fun res => kq σ0 res.2)) : pr (f_X12_longest_J100 n rec45 σh12 v1_h12 v2_h12 v4_h12 v5_h12 v6_h12 w0_h12) (fun res => kq σ0 res.2) := by
  unfold f_X12_longest_J100
  refine pr_ln (fun x13 _ => ?_)
  exact hrec45 h0
theorem z_X12_longest_J82 {n : Nat} {rec45 : ms_T → Int32 → Int32 → Int32 → Int32 → Int32 → Int32 → Option (Int32 × ms_T)} {σh11 : ms_T} {v1_h11 : Int32} {v2_h11 : Int32} {v3_h11 : Int32} {v5_h11 : Int32} {v6_h11 : Int32} {w0_h11 : Int32} {σ0 : ms_T} (h0 : kq σ0 σh11) (hrec45 : ∀ {y0 : ms_T} {y1 : Int32} {y2 : Int32} {y3 : Int32} {y4 : Int32} {y5 : Int32} {y6 : Int32}, kq σ0 y0 → pr (rec45 y0 y1 y2 y3 y4 y5 y6) (fun res => kq σ0 res.2)) : pr (f_X12_longest_J82 n rec45 σh11 v1_h11 v2_h11 v3_h11 v5_h11 v6_h11 w0_h11) (fun res => kq σ0 res.2) := by
  unfold f_X12_longest_J82
  refine pr_i (fun _ => ?_) (fun _ => ?_)
  ·
    exact z_X12_longest_J100 h0 (fun h => hrec45 h)
  ·
    exact z_X12_longest_J100 h0 (fun h => hrec45 h)
theorem z_X12_longest_L45 {n : Nat} {σ0 : ms_T}  : ∀ (k45 : Nat) {σh5 : ms_T} {v1_h5 : Int32} {v2_h5 : Int32} {v3_h5 : Int32} {v4_h5 : Int32} {v5_h5 : Int32} {v6_h5 : Int32}, kq σ0 σh5 → pr (f_X12_longest_L45 n k45 σh5 v1_h5 v2_h5 v3_h5 v4_h5 v5_h5 v6_h5) (fun res => kq σ0 res.2) := by
  intro k45
  induction k45 with
  | zero => intro σh5 v1_h5 v2_h5 v3_h5 v4_h5 v5_h5 v6_h5 h0; rw [f_X12_longest_L45.eq_1]; exact pr_0
  | succ k45 ih =>
    intro σh5 v1_h5 v2_h5 v3_h5 v4_h5 v5_h5 v6_h5 h0
    rw [f_X12_longest_L45.eq_2]
    refine pr_i (fun _ => ?_) (fun _ => ?_)
    ·
      refine pr_i (fun _ => ?_) (fun _ => ?_)
      ·
        exact pr_s h0
      ·
        refine pr_i (fun _ => ?_) (fun _ => ?_)
        ·
          exact pr_s h0
        ·
          exact pr_s h0
    ·
      refine pr_b (z_X12_inclusion h0 ) (fun σh9 h_1 => ?_)
      replace h_1 : kq σ0 σh9 := h_1
      refine pr_ln (fun x10 _ => ?_)
      refine pr_i (fun _ => ?_) (fun _ => ?_)
      ·
        exact z_X12_longest_J82 h_1 (fun h => ih h)
      ·
        exact z_X12_longest_J82 h_1 (fun h => ih h)
theorem z_X12_longest_J26 {n : Nat} {σh2 : ms_T} {v1_h2 : Int32} {v2_h2 : Int32} {w0_h2 : Int32} {σ0 : ms_T} (h0 : kq σ0 σh2)  : pr (f_X12_longest_J26 n σh2 v1_h2 v2_h2 w0_h2) (fun res => kq σ0 res.2) := by
  unfold f_X12_longest_J26
  refine pr_c (z_X12_is h0 ) (fun rh3 σh3 h_1 => ?_)
  replace h_1 : kq σ0 σh3 := h_1
  refine pr_i (fun _ => ?_) (fun _ => ?_)
  ·
    exact pr_s h_1
  ·
    exact z_X12_longest_L45  _ h_1
theorem z_X12_longest_J25 {n : Nat} {σh16 : ms_T} {v1_h16 : Int32} {v2_h16 : Int32} {σ0 : ms_T} (h0 : kq σ0 σh16)  : pr (f_X12_longest_J25 n σh16 v1_h16 v2_h16) (fun res => kq σ0 res.2) := by
  unfold f_X12_longest_J25
  exact z_X12_longest_J26 h0 
theorem z_X12_longest {n : Nat} {σ : ms_T} {a1 : Int32} {a2 : Int32} {σ0 : ms_T} (h0 : kq σ0 σ)  : pr (f_X12_longest n σ a1 a2) (fun res => kq σ0 res.2) := by
  unfold f_X12_longest
  refine pr_b pr_any (fun rh1 _ => ?_)
  refine pr_i (fun _ => ?_) (fun _ => ?_)
  ·
    exact z_X12_longest_J25 h0 
  ·
    refine pr_b pr_any (fun rh18 _ => ?_)
    refine pr_i (fun _ => ?_) (fun _ => ?_)
    ·
      exact z_X12_longest_J25 h0 
    ·
      exact z_X12_longest_J26 h0 
theorem z_X12_part_J198 {n : Nat} {rec123 : ms_T → Int32 → Int32 → Int32 → Int32 → Int32 → Int32 → Option (Int32 × ms_T)} {σh21 : ms_T} {v1_h21 : Int32} {v2_h21 : Int32} {v3_h21 : Int32} {v5_h21 : Int32} {v6_h21 : Int32} {w0_h21 : Int32} {σ0 : ms_T} (h0 : kq σ0 σh21) (hrec123 : ∀ {y0 : ms_T} {y1 : Int32} {y2 : Int32} {y3 : Int32} {y4 : Int32} {y5 : Int32} {y6 : Int32}, kq σ0 y0 → pr (rec123 y0 y1 y2 y3 y4 y5 y6) (fun res => kq σ0 res.2)) : pr (f_X12_part_J198 n rec123 σh21 v1_h21 v2_h21 v3_h21 v5_h21 v6_h21 w0_h21) (fun res => kq σ0 res.2) := by
  unfold f_X12_part_J198
  exact hrec123 h0
theorem z_X12_part_J180 {n : Nat} {rec123 : ms_T → Int32 → Int32 → Int32 → Int32 → Int32 → Int32 → Option (Int32 × ms_T)} {σh19 : ms_T} {v1_h19 : Int32} {v2_h19 : Int32} {v3_h19 : Int32} {v4_h19 : Int32} {v6_h19 : Int32} {v7_h19 : Int32} {v8_h19 : Int32} {w0_h19 : Int32} {w1_h19 : Int32} {σ0 : ms_T} (h0 : kq σ0 σh19) (hrec123 : ∀ {y0 : ms_T} {y1 : Int32} {y2 : Int32} {y3 : Int32} {y4 : Int32} {y5 : Int32} {y6 : Int32}, kq σ0 y0 → pr (rec123 y0 y1 y2 y3 y4 y5 y6) (fun res => kq σ0 res.2)) : pr (f_X12_part_J180 n rec123 σh19 v1_h19 v2_h19 v3_h19 v4_h19 v6_h19 v7_h19 v8_h19 w0_h19 w1_h19) (fun res => kq σ0 res.2) := by
  unfold f_X12_part_J180
  refine pr_ln (fun x20 _ => ?_)
  refine pr_i (fun _ => ?_) (fun _ => ?_)
  ·
    exact z_X12_part_J198 h0 (fun h => hrec123 h)
  ·
    exact z_X12_part_J198 h0 (fun h => hrec123 h)
theorem z_X12_part_J165 {n : Nat} {rec123 : ms_T → Int32 → Int32 → Int32 → Int32 → Int32 → Int32 → Option (Int32 × ms_T)} {σh18 : ms_T} {v1_h18 : Int32} {v2_h18 : Int32} {v3_h18 : Int32} {v4_h18 : Int32} {v5_h18 : Int32} {v6_h18 : Int32} {v7_h18 : Int32} {w0_h18 : Int32} {σ0 : ms_T} (h0 : kq σ0 σh18) (hrec123 : ∀ {y0 : ms_T} {y1 : Int32} {y2 : Int32} {y3 : Int32} {y4 : Int32} {y5 : Int32} {y6 : Int32}, kq σ0 y0 → pr (rec123 y0 y1 y2 y3 y4 y5 y6) (fun res => kq σ0 res.2)) : pr (f_X12_part_J165 n rec123 σh18 v1_h18 v2_h18 v3_h18 v4_h18 v5_h18 v6_h18 v7_h18 w0_h18) (fun res => kq σ0 res.2) := by
  unfold f_X12_part_J165
  refine pr_i (fun _ => ?_) (fun _ => ?_)
  ·
    exact z_X12_part_J180 h0 (fun h => hrec123 h)
  ·
    exact z_X12_part_J180 h0 (fun h => hrec123 h)
theorem z_X12_part_L123 {n : Nat} {σ0 : ms_T}  : ∀ (k123 : Nat) {σh11 : ms_T} {v1_h11 : Int32} {v2_h11 : Int32} {v3_h11 : Int32} {v4_h11 : Int32} {v5_h11 : Int32} {v6_h11 : Int32}, kq σ0 σh11 → pr (f_X12_part_L123 n k123 σh11 v1_h11 v2_h11 v3_h11 v4_h11 v5_h11 v6_h11) (fun res => kq σ0 res.2) := by
  intro k123
  induction k123 with
  | zero => intro σh11 v1_h11 v2_h11 v3_h11 v4_h11 v5_h11 v6_h11 h0; rw [f_X12_part_L123.eq_1]; exact pr_0
  | succ k123 ih =>
    intro σh11 v1_h11 v2_h11 v3_h11 v4_h11 v5_h11 v6_h11 h0
    rw [f_X12_part_L123.eq_2]
    refine pr_i (fun _ => ?_) (fun _ => ?_)
    ·
      refine pr_i (fun _ => ?_) (fun _ => ?_)
      ·
        exact pr_s h0
      ·
        exact pr_s h0
    ·
      refine pr_b pr_any (fun rh14 _ => ?_)
      refine pr_ln (fun x15 _ => ?_)
      refine pr_b pr_any (fun rh16 _ => ?_)
      refine pr_b pr_any (fun rh17 _ => ?_)
      refine pr_i (fun _ => ?_) (fun _ => ?_)
      ·
        exact z_X12_part_J165 h0 (fun h => ih h)
      ·
        exact z_X12_part_J165 h0 (fun h => ih h)
theorem z_X12_part_J69 {n : Nat} {σh7 : ms_T} {v1_h7 : Int32} {v2_h7 : Int32} {v3_h7 : Int32} {w0_h7 : Int32} {σ0 : ms_T} (h0 : kq σ0 σh7)  : pr (f_X12_part_J69 n σh7 v1_h7 v2_h7 v3_h7 w0_h7) (fun res => kq σ0 res.2) := by
  unfold f_X12_part_J69
  refine pr_b pr_any (fun rh8 _ => ?_)
  refine pr_b pr_any (fun rh9 _ => ?_)
  refine pr_i (fun _ => ?_) (fun _ => ?_)
  ·
    refine pr_i (fun _ => ?_) (fun _ => ?_)
    ·
      exact pr_s h0
    ·
      refine pr_b pr_any (fun rh26 _ => ?_)
      refine pr_b pr_any (fun rh27 _ => ?_)
      refine pr_i (fun _ => ?_) (fun _ => ?_)
      ·
        exact pr_s h0
      ·
        exact pr_s h0
  ·
    exact z_X12_part_L123  _ h0
theorem z_X12_part_J35 {n : Nat} {σh2 : ms_T} {v1_h2 : Int32} {v2_h2 : Int32} {v3_h2 : Int32} {w0_h2 : Int32} {σ0 : ms_T} (h0 : kq σ0 σh2)  : pr (f_X12_part_J35 n σh2 v1_h2 v2_h2 v3_h2 w0_h2) (fun res => kq σ0 res.2) := by
  unfold f_X12_part_J35
  refine pr_c (z_X12_is h0 ) (fun rh3 σh3 h_1 => ?_)
  replace h_1 : kq σ0 σh3 := h_1
  refine pr_i (fun _ => ?_) (fun _ => ?_)
  ·
    exact pr_s h_1
  ·
    refine pr_b pr_any (fun rh5 _ => ?_)
    refine pr_b pr_any (fun rh6 _ => ?_)
    refine pr_i (fun _ => ?_) (fun _ => ?_)
    ·
      refine pr_b pr_any (fun rh30 _ => ?_)
      exact z_X12_part_J69 h_1 
    ·
      refine pr_b pr_any (fun rh31 _ => ?_)
      exact z_X12_part_J69 h_1 
theorem z_X12_part_J30 {n : Nat} {σh34 : ms_T} {v1_h34 : Int32} {v2_h34 : Int32} {v3_h34 : Int32} {σ0 : ms_T} (h0 : kq σ0 σh34)  : pr (f_X12_part_J30 n σh34 v1_h34 v2_h34 v3_h34) (fun res => kq σ0 res.2) := by
  unfold f_X12_part_J30
  exact z_X12_part_J35 h0 
theorem z_X12_part {n : Nat} {σ : ms_T} {a1 : Int32} {a2 : Int32} {a3 : Int32} {σ0 : ms_T} (h0 : kq σ0 σ)  : pr (f_X12_part n σ a1 a2 a3) (fun res => kq σ0 res.2) := by
  unfold f_X12_part
  refine pr_b pr_any (fun rh1 _ => ?_)
  refine pr_i (fun _ => ?_) (fun _ => ?_)
  ·
    exact z_X12_part_J35 h0 
  ·
    refine pr_b pr_any (fun rh33 _ => ?_)
    refine pr_i (fun _ => ?_) (fun _ => ?_)
    ·
      exact z_X12_part_J30 h0 
    ·
      refine pr_b pr_any (fun rh36 _ => ?_)
      refine pr_i (fun _ => ?_) (fun _ => ?_)
      ·
        exact z_X12_part_J30 h0 
      ·
        exact z_X12_part_J35 h0 
theorem z_X12_blame_J190 {n : Nat} {rec127 : ms_T → Int32 → Int32 → Int32 → Int32 → Int32 → Int32 → Option (Int32 × ms_T)} {σh15 : ms_T} {v1_h15 : Int32} {v2_h15 : Int32} {v3_h15 : Int32} {v4_h15 : Int32} {v5_h15 : Int32} {v6_h15 : Int32} {σ0 : ms_T} (h0 : kq σ0 σh15) (hrec127 : ∀ {y0 : ms_T} {y1 : Int32} {y2 : Int32} {y3 : Int32} {y4 : Int32} {y5 : Int32} {y6 : Int32}, kq σ0 y0 → pr (rec127 y0 y1 y2 y3 y4 y5 y6) (fun res => kq σ0 res.2)) : pr (f_X12_blame_J190 n rec127 σh15 v1_h15 v2_h15 v3_h15 v4_h15 v5_h15 v6_h15) (fun res => kq σ0 res.2) := by
  unfold f_X12_blame_J190
  refine pr_ln (fun x16 _ => ?_)
  exact hrec127 h0
theorem z_X12_blame_L127 {n : Nat} {σ0 : ms_T}  : ∀ (k127 : Nat) {σh9 : ms_T} {v1_h9 : Int32} {v2_h9 : Int32} {v3_h9 : Int32} {v4_h9 : Int32} {v5_h9 : Int32} {v6_h9 : Int32}, kq σ0 σh9 → pr (f_X12_blame_L127 n k127 σh9 v1_h9 v2_h9 v3_h9 v4_h9 v5_h9 v6_h9) (fun res => kq σ0 res.2) := by
  intro k127
  induction k127 with
  | zero => intro σh9 v1_h9 v2_h9 v3_h9 v4_h9 v5_h9 v6_h9 h0; rw [f_X12_blame_L127.eq_1]; exact pr_0
  | succ k127 ih =>
    intro σh9 v1_h9 v2_h9 v3_h9 v4_h9 v5_h9 v6_h9 h0
    rw [f_X12_blame_L127.eq_2]
    refine pr_g (fun _ _ => ?_)
    refine pr_i (fun _ => ?_) (fun _ => ?_)
    ·
      refine pr_i (fun _ => ?_) (fun _ => ?_)
      ·
        exact pr_s h0
      ·
        refine pr_i (fun _ => ?_) (fun _ => ?_)
        ·
          exact pr_s h0
        ·
          exact pr_s h0
    ·
      refine pr_b pr_any (fun rh14 _ => ?_)
      refine pr_i (fun _ => ?_) (fun _ => ?_)
      ·
        refine pr_b pr_any (fun rh18 _ => ?_)
        refine pr_i (fun _ => ?_) (fun _ => ?_)
        ·
          exact z_X12_blame_J190 h0 (fun h => ih h)
        ·
          refine pr_b pr_any (fun rh20 _ => ?_)
          refine pr_i (fun _ => ?_) (fun _ => ?_)
          ·
            exact z_X12_blame_J190 h0 (fun h => ih h)
          ·
            refine pr_b pr_any (fun rh22 _ => ?_)
            refine pr_i (fun _ => ?_) (fun _ => ?_)
            ·
              exact z_X12_blame_J190 h0 (fun h => ih h)
            ·
              refine pr_b pr_any (fun rh24 _ => ?_)
              exact z_X12_blame_J190 h0 (fun h => ih h)
      ·
        exact z_X12_blame_J190 h0 (fun h => ih h)
theorem z_X12_blame_J122 {n : Nat} {σh8 : ms_T} {v1_h8 : Int32} {v2_h8 : Int32} {v3_h8 : Int32} {v4_h8 : Int32} {w0_h8 : Int32} {σ0 : ms_T} (h0 : kq σ0 σh8)  : pr (f_X12_blame_J122 n σh8 v1_h8 v2_h8 v3_h8 v4_h8 w0_h8) (fun res => kq σ0 res.2) := by
  unfold f_X12_blame_J122
  exact z_X12_blame_L127  _ h0
theorem z_X12_blame_J107 {n : Nat} {rec43 : ms_T → Int32 → Int32 → Int32 → Int32 → Int32 → Option (Int32 × ms_T)} {σh27 : ms_T} {v1_h27 : Int32} {v2_h27 : Int32} {v3_h27 : Int32} {v4_h27 : Int32} {v5_h27 : Int32} {σ0 : ms_T} (h0 : kq σ0 σh27) (hrec43 : ∀ {y0 : ms_T} {y1 : Int32} {y2 : Int32} {y3 : Int32} {y4 : Int32} {y5 : Int32}, kq σ0 y0 → pr (rec43 y0 y1 y2 y3 y4 y5) (fun res => kq σ0 res.2)) : pr (f_X12_blame_J107 n rec43 σh27 v1_h27 v2_h27 v3_h27 v4_h27 v5_h27) (fun res => kq σ0 res.2) := by
  unfold f_X12_blame_J107
  refine pr_ln (fun x28 _ => ?_)
  exact hrec43 h0
theorem z_X12_blame_J106 {n : Nat} {rec43 : ms_T → Int32 → Int32 → Int32 → Int32 → Int32 → Option (Int32 × ms_T)} {σh33 : ms_T} {v1_h33 : Int32} {v2_h33 : Int32} {v4_h33 : Int32} {v5_h33 : Int32} {w0_h33 : Int32} {σ0 : ms_T} (h0 : kq σ0 σh33) (hrec43 : ∀ {y0 : ms_T} {y1 : Int32} {y2 : Int32} {y3 : Int32} {y4 : Int32} {y5 : Int32}, kq σ0 y0 → pr (rec43 y0 y1 y2 y3 y4 y5) (fun res => kq σ0 res.2)) : pr (f_X12_blame_J106 n rec43 σh33 v1_h33 v2_h33 v4_h33 v5_h33 w0_h33) (fun res => kq σ0 res.2) := by
  unfold f_X12_blame_J106
  exact z_X12_blame_J107 h0 (fun h => hrec43 h)
theorem z_X12_blame_J95 {n : Nat} {rec43 : ms_T → Int32 → Int32 → Int32 → Int32 → Int32 → Option (Int32 × ms_T)} {σh34 : ms_T} {v1_h34 : Int32} {v2_h34 : Int32} {v4_h34 : Int32} {v5_h34 : Int32} {σ0 : ms_T} (h0 : kq σ0 σh34) (hrec43 : ∀ {y0 : ms_T} {y1 : Int32} {y2 : Int32} {y3 : Int32} {y4 : Int32} {y5 : Int32}, kq σ0 y0 → pr (rec43 y0 y1 y2 y3 y4 y5) (fun res => kq σ0 res.2)) : pr (f_X12_blame_J95 n rec43 σh34 v1_h34 v2_h34 v4_h34 v5_h34) (fun res => kq σ0 res.2) := by
  unfold f_X12_blame_J95
  refine pr_b pr_any (fun rh35 _ => ?_)
  exact z_X12_blame_J106 h0 (fun h => hrec43 h)
theorem z_X12_blame_L43 {n : Nat} {σ0 : ms_T}  : ∀ (k43 : Nat) {σh5 : ms_T} {v1_h5 : Int32} {v2_h5 : Int32} {v3_h5 : Int32} {v4_h5 : Int32} {v5_h5 : Int32}, kq σ0 σh5 → pr (f_X12_blame_L43 n k43 σh5 v1_h5 v2_h5 v3_h5 v4_h5 v5_h5) (fun res => kq σ0 res.2) := by
  intro k43
  induction k43 with
  | zero => intro σh5 v1_h5 v2_h5 v3_h5 v4_h5 v5_h5 h0; rw [f_X12_blame_L43.eq_1]; exact pr_0
  | succ k43 ih =>
    intro σh5 v1_h5 v2_h5 v3_h5 v4_h5 v5_h5 h0
    rw [f_X12_blame_L43.eq_2]
    refine pr_g (fun _ _ => ?_)
    refine pr_i (fun _ => ?_) (fun _ => ?_)
    ·
      refine pr_i (fun _ => ?_) (fun _ => ?_)
      ·
        exact z_X12_blame_J122 h0 
      ·
        exact z_X12_blame_J122 h0 
    ·
      refine pr_b pr_any (fun rh26 _ => ?_)
      refine pr_i (fun _ => ?_) (fun _ => ?_)
      ·
        refine pr_b pr_any (fun rh30 _ => ?_)
        refine pr_i (fun _ => ?_) (fun _ => ?_)
        ·
          refine pr_ln (fun x32 _ => ?_)
          refine pr_i (fun _ => ?_) (fun _ => ?_)
          ·
            exact z_X12_blame_J95 h0 (fun h => ih h)
          ·
            refine pr_b pr_any (fun rh37 _ => ?_)
            refine pr_i (fun _ => ?_) (fun _ => ?_)
            ·
              exact z_X12_blame_J106 h0 (fun h => ih h)
            ·
              exact z_X12_blame_J95 h0 (fun h => ih h)
        ·
          exact z_X12_blame_J107 h0 (fun h => ih h)
      ·
        exact z_X12_blame_J107 h0 (fun h => ih h)
theorem z_X12_blame_J27 {n : Nat} {σh2 : ms_T} {v1_h2 : Int32} {v2_h2 : Int32} {w0_h2 : Int32} {σ0 : ms_T} (h0 : kq σ0 σh2)  : pr (f_X12_blame_J27 n σh2 v1_h2 v2_h2 w0_h2) (fun res => kq σ0 res.2) := by
  unfold f_X12_blame_J27
  refine pr_c (z_X12_is h0 ) (fun rh3 σh3 h_1 => ?_)
  replace h_1 : kq σ0 σh3 := h_1
  refine pr_i (fun _ => ?_) (fun _ => ?_)
  ·
    exact pr_s h_1
  ·
    exact z_X12_blame_L43  _ h_1
theorem z_X12_blame {n : Nat} {σ : ms_T} {a1 : Int32} {a2 : Int32} {σ0 : ms_T} (h0 : kq σ0 σ)  : pr (f_X12_blame n σ a1 a2) (fun res => kq σ0 res.2) := by
  unfold f_X12_blame
  refine pr_b pr_any (fun rh1 _ => ?_)
  refine pr_i (fun _ => ?_) (fun _ => ?_)
  ·
    exact z_X12_blame_J27 h0 
  ·
    refine pr_b pr_any (fun rh40 _ => ?_)
    refine pr_i (fun _ => ?_) (fun _ => ?_)
    ·
      exact z_X12_blame_J27 h0 
    ·
      exact z_X12_blame_J27 h0 
theorem z_X12_weak_J108 {n : Nat} {rec73 : ms_T → Int32 → Int32 → Int32 → Int32 → Int32 → Int32 → Int32 → Int32 → Option (Int32 × ms_T)} {σh15 : ms_T} {v2_h15 : Int32} {v3_h15 : Int32} {v4_h15 : Int32} {v5_h15 : Int32} {v6_h15 : Int32} {v7_h15 : Int32} {v8_h15 : Int32} {v9_h15 : Int32} {σ0 : ms_T} (h0 : kq σ0 σh15) (hrec73 : ∀ {y0 : ms_T} {y1 : Int32} {y2 : Int32} {y3 : Int32} {y4 : Int32} {y5 : Int32} {y6 : Int32} {y7 : Int32} {y8 : Int32}, kq σ0 y0 → pr (rec73 y0 y1 y2 y3 y4 y5 y6 y7 y8) (fun res => kq σ0 res.2)) : pr (f_X12_weak_J108 n rec73 σh15 v2_h15 v3_h15 v4_h15 v5_h15 v6_h15 v7_h15 v8_h15 v9_h15) (fun res => kq σ0 res.2) := by
  unfold f_X12_weak_J108
  refine pr_ln (fun x16 _ => ?_)
  exact hrec73 h0
theorem z_X12_weak_L73 {n : Nat} {σ0 : ms_T}  : ∀ (k73 : Nat) {σh10 : ms_T} {v2_h10 : Int32} {v3_h10 : Int32} {v4_h10 : Int32} {v5_h10 : Int32} {v6_h10 : Int32} {v7_h10 : Int32} {v8_h10 : Int32} {v9_h10 : Int32}, kq σ0 σh10 → pr (f_X12_weak_L73 n k73 σh10 v2_h10 v3_h10 v4_h10 v5_h10 v6_h10 v7_h10 v8_h10 v9_h10) (fun res => kq σ0 res.2) := by
  intro k73
  induction k73 with
  | zero => intro σh10 v2_h10 v3_h10 v4_h10 v5_h10 v6_h10 v7_h10 v8_h10 v9_h10 h0; rw [f_X12_weak_L73.eq_1]; exact pr_0
  | succ k73 ih =>
    intro σh10 v2_h10 v3_h10 v4_h10 v5_h10 v6_h10 v7_h10 v8_h10 v9_h10 h0
    rw [f_X12_weak_L73.eq_2]
    refine pr_i (fun _ => ?_) (fun _ => ?_)
    ·
      refine pr_i (fun _ => ?_) (fun _ => ?_)
      ·
        exact pr_s h0
      ·
        refine pr_i (fun _ => ?_) (fun _ => ?_)
        ·
          exact pr_s h0
        ·
          refine pr_c (z_X12_refuse h0 ) (fun rh14 σh14 h_1 => ?_)
          replace h_1 : kq σ0 σh14 := h_1
          exact pr_s h_1
    ·
      refine pr_i (fun _ => ?_) (fun _ => ?_)
      ·
        exact z_X12_weak_J108 h0 (fun h => ih h)
      ·
        refine pr_c (z_X12_folded h0 ) (fun rh18 σh18 h_2 => ?_)
        replace h_2 : kq σ0 σh18 := h_2
        refine pr_i (fun _ => ?_) (fun _ => ?_)
        ·
          refine pr_ln (fun x20 _ => ?_)
          exact z_X12_weak_J108 h_2 (fun h => ih h)
        ·
          exact z_X12_weak_J108 h_2 (fun h => ih h)
theorem z_X12_weak_J22 {n : Nat} {σh2 : ms_T} {v1_h2 : Int32} {v2_h2 : Int32} {v3_h2 : Int32} {v4_h2 : Int32} {w0_h2 : Int32} {σ0 : ms_T} (h0 : kq σ0 σh2)  : pr (f_X12_weak_J22 n σh2 v1_h2 v2_h2 v3_h2 v4_h2 w0_h2) (fun res => kq σ0 res.2) := by
  unfold f_X12_weak_J22
  refine pr_c (z_X12_is h0 ) (fun rh3 σh3 h_1 => ?_)
  replace h_1 : kq σ0 σh3 := h_1
  refine pr_i (fun _ => ?_) (fun _ => ?_)
  ·
    exact pr_s h_1
  ·
    refine pr_b (z_X12_inclusion h_1 ) (fun σh5 h_2 => ?_)
    replace h_2 : kq σ0 σh5 := h_2
    refine pr_b (z_X12_fetches h_2 ) (fun σh6 h_3 => ?_)
    replace h_3 : kq σ0 σh6 := h_3
    refine pr_b pr_any (fun rh7 _ => ?_)
    refine pr_b pr_any (fun rh8 _ => ?_)
    refine pr_g (fun _ _ => ?_)
    refine pr_ln (fun x21 _ => ?_)
    exact z_X12_weak_L73  _ h_3
theorem z_X12_weak {n : Nat} {σ : ms_T} {a1 : Int32} {a2 : Int32} {a3 : Int32} {a4 : Int32} {σ0 : ms_T} (h0 : kq σ0 σ)  : pr (f_X12_weak n σ a1 a2 a3 a4) (fun res => kq σ0 res.2) := by
  unfold f_X12_weak
  refine pr_b pr_any (fun rh1 _ => ?_)
  refine pr_i (fun _ => ?_) (fun _ => ?_)
  ·
    exact z_X12_weak_J22 h0 
  ·
    refine pr_b pr_any (fun rh23 _ => ?_)
    exact z_X12_weak_J22 h0 
theorem z_X12_stepsIn_J102 {n : Nat} {recM : ms_T → Int32 → Int32 → Int32 → Option (Int32 × ms_T)} {σh7 : ms_T} {w0_h7 : Int32} {w1_h7 : Int32} {σ0 : ms_T} (h0 : kq σ0 σh7) (hrecM : ∀ {y0 : ms_T} {y1 : Int32} {y2 : Int32} {y3 : Int32}, kq σ0 y0 → pr (recM y0 y1 y2 y3) (fun res => kq σ0 res.2)) : pr (f_X12_stepsIn_J102 n recM σh7 w0_h7 w1_h7) (fun res => kq σ0 res.2) := by
  unfold f_X12_stepsIn_J102
  refine pr_g (fun _ _ => ?_)
  refine pr_ln (fun σh9 e1 => ?_)
  have h_1 : kq σ0 σh9 := by rw [e1]; exact kq_sE rfl h0
  refine pr_g (fun _ _ => ?_)
  refine pr_g (fun _ _ => ?_)
  refine pr_b pr_any (fun rh12 _ => ?_)
  refine pr_g (fun _ _ => ?_)
  refine pr_ln (fun σh14 e2 => ?_)
  have h_2 : kq σ0 σh14 := by rw [e2]; exact kq_sE rfl h_1
  refine pr_ln (fun σh15 e3 => ?_)
  have h_3 : kq σ0 σh15 := by rw [e3]; exact kq_sI rfl h_2
  refine pr_g (fun _ _ => ?_)
  exact pr_s h_3
theorem z_X12_stepsIn_J73 {n : Nat} {recM : ms_T → Int32 → Int32 → Int32 → Option (Int32 × ms_T)} {σh4 : ms_T} {v2_h4 : Int32} {v4_h4 : Int32} {v5_h4 : Int32} {w0_h4 : Int32} {w1_h4 : Int32} {σ0 : ms_T} (h0 : kq σ0 σh4) (hrecM : ∀ {y0 : ms_T} {y1 : Int32} {y2 : Int32} {y3 : Int32}, kq σ0 y0 → pr (recM y0 y1 y2 y3) (fun res => kq σ0 res.2)) : pr (f_X12_stepsIn_J73 n recM σh4 v2_h4 v4_h4 v5_h4 w0_h4 w1_h4) (fun res => kq σ0 res.2) := by
  unfold f_X12_stepsIn_J73
  refine pr_g (fun _ _ => ?_)
  refine pr_ln (fun σh6 e1 => ?_)
  have h_1 : kq σ0 σh6 := by rw [e1]; exact kq_sE rfl h0
  refine pr_i (fun _ => ?_) (fun _ => ?_)
  ·
    exact z_X12_stepsIn_J102 h_1 (fun h => hrecM h)
  ·
    refine pr_g (fun _ _ => ?_)
    exact z_X12_stepsIn_J102 h_1 (fun h => hrecM h)
theorem z_X12_stepsIn_J43 {n : Nat} {recM : ms_T → Int32 → Int32 → Int32 → Option (Int32 × ms_T)} {σh3 : ms_T} {v2_h3 : Int32} {v4_h3 : Int32} {w0_h3 : Int32} {σ0 : ms_T} (h0 : kq σ0 σh3) (hrecM : ∀ {y0 : ms_T} {y1 : Int32} {y2 : Int32} {y3 : Int32}, kq σ0 y0 → pr (recM y0 y1 y2 y3) (fun res => kq σ0 res.2)) : pr (f_X12_stepsIn_J43 n recM σh3 v2_h3 v4_h3 w0_h3) (fun res => kq σ0 res.2) := by
  unfold f_X12_stepsIn_J43
  refine pr_i (fun _ => ?_) (fun _ => ?_)
  ·
    refine pr_g (fun _ _ => ?_)
    exact z_X12_stepsIn_J73 h0 (fun h => hrecM h)
  ·
    exact z_X12_stepsIn_J73 h0 (fun h => hrecM h)
theorem z_X12_stepsIn {n : Nat} {σ0 : ms_T}  : ∀ (d : Nat) {σ : ms_T} {a1 : Int32} {a2 : Int32} {a3 : Int32}, kq σ0 σ → pr (f_X12_stepsIn n d σ a1 a2 a3) (fun res => kq σ0 res.2) := by
  intro d
  induction d with
  | zero => intro σ a1 a2 a3 h0; rw [f_X12_stepsIn.eq_1]; exact pr_0
  | succ d ih =>
    intro σ a1 a2 a3 h0
    rw [f_X12_stepsIn.eq_2]
    refine pr_i (fun _ => ?_) (fun _ => ?_)
    ·
      exact pr_s h0
    ·
      refine pr_b pr_any (fun rh2 _ => ?_)
      refine pr_i (fun _ => ?_) (fun _ => ?_)
      ·
        refine pr_c (ih h0) (fun rh22 σh22 h_1 => ?_)
        replace h_1 : kq σ0 σh22 := h_1
        exact z_X12_stepsIn_J43 h_1 (fun h => ih h)
      ·
        refine pr_c (ih h0) (fun rh23 σh23 h_2 => ?_)
        replace h_2 : kq σ0 σh23 := h_2
        exact z_X12_stepsIn_J43 h_2 (fun h => ih h)
theorem z_X12_clash_J301 {n : Nat} {rec172 : ms_T → Int32 → Int32 → Option (Int32 × ms_T)} {σh23 : ms_T} {v5_h23 : Int32} {v6_h23 : Int32} {σ0 : ms_T} (h0 : kq σ0 σh23) (hrec172 : ∀ {y0 : ms_T} {y1 : Int32} {y2 : Int32}, kq σ0 y0 → pr (rec172 y0 y1 y2) (fun res => kq σ0 res.2)) : pr (f_X12_clash_J301 n rec172 σh23 v5_h23 v6_h23) (fun res => kq σ0 res.2) := by
  unfold f_X12_clash_J301
  refine pr_ln (fun x24 _ => ?_)
  exact hrec172 h0
theorem z_X12_clash_J235 {n : Nat} {σh28 : ms_T} {v5_h28 : Int32} {v6_h28 : Int32} {σ0 : ms_T} (h0 : kq σ0 σh28)  : pr (f_X12_clash_J235 n σh28 v5_h28 v6_h28) (fun res => kq σ0 res.2) := by
  unfold f_X12_clash_J235
  refine pr_i (fun _ => ?_) (fun _ => ?_)
  ·
    exact pr_s h0
  ·
    refine pr_i (fun _ => ?_) (fun _ => ?_)
    ·
      refine pr_g (fun _ _ => ?_)
      exact pr_s h0
    ·
      refine pr_i (fun _ => ?_) (fun _ => ?_)
      ·
        refine pr_g (fun _ _ => ?_)
        exact pr_s h0
      ·
        refine pr_i (fun _ => ?_) (fun _ => ?_)
        ·
          refine pr_g (fun _ _ => ?_)
          exact pr_s h0
        ·
          refine pr_g (fun _ _ => ?_)
          exact pr_s h0
theorem z_X12_clash_L172 {n : Nat} {σ0 : ms_T}  : ∀ (k172 : Nat) {σh18 : ms_T} {v5_h18 : Int32} {v6_h18 : Int32}, kq σ0 σh18 → pr (f_X12_clash_L172 n k172 σh18 v5_h18 v6_h18) (fun res => kq σ0 res.2) := by
  intro k172
  induction k172 with
  | zero => intro σh18 v5_h18 v6_h18 h0; rw [f_X12_clash_L172.eq_1]; exact pr_0
  | succ k172 ih =>
    intro σh18 v5_h18 v6_h18 h0
    rw [f_X12_clash_L172.eq_2]
    refine pr_i (fun _ => ?_) (fun _ => ?_)
    ·
      refine pr_c (z_X12_refuse h0 ) (fun rh20 σh20 h_1 => ?_)
      replace h_1 : kq σ0 σh20 := h_1
      exact pr_s h_1
    ·
      refine pr_g (fun _ _ => ?_)
      refine pr_g (fun _ _ => ?_)
      refine pr_i (fun _ => ?_) (fun _ => ?_)
      ·
        refine pr_g (fun _ _ => ?_)
        refine pr_g (fun _ _ => ?_)
        refine pr_i (fun _ => ?_) (fun _ => ?_)
        ·
          refine pr_g (fun _ _ => ?_)
          refine pr_g (fun _ _ => ?_)
          refine pr_i (fun _ => ?_) (fun _ => ?_)
          ·
            exact z_X12_clash_J301 h0 (fun h => ih h)
          ·
            exact z_X12_clash_J235 h0 
        ·
          exact z_X12_clash_J235 h0 
      ·
        exact z_X12_clash_J301 h0 (fun h => ih h)
theorem z_X12_clash_L83 {n : Nat} {σ0 : ms_T}  : ∀ (k83 : Nat) {σh11 : ms_T} {v1_h11 : Int32} {v2_h11 : Int32} {v3_h11 : Int32} {v5_h11 : Int32} {v6_h11 : Int32}, kq σ0 σh11 → pr (f_X12_clash_L83 n k83 σh11 v1_h11 v2_h11 v3_h11 v5_h11 v6_h11) (fun res => kq σ0 res.2) := by
  intro k83
  induction k83 with
  | zero => intro σh11 v1_h11 v2_h11 v3_h11 v5_h11 v6_h11 h0; rw [f_X12_clash_L83.eq_1]; exact pr_0
  | succ k83 ih =>
    intro σh11 v1_h11 v2_h11 v3_h11 v5_h11 v6_h11 h0
    rw [f_X12_clash_L83.eq_2]
    refine pr_i (fun _ => ?_) (fun _ => ?_)
    ·
      refine pr_b (z_X12_inclusion h0 ) (fun σh13 h_1 => ?_)
      replace h_1 : kq σ0 σh13 := h_1
      refine pr_b (z_X12_fetches h_1 ) (fun σh14 h_2 => ?_)
      replace h_2 : kq σ0 σh14 := h_2
      refine pr_ln (fun σh15 e3 => ?_)
      have h_3 : kq σ0 σh15 := by rw [e3]; exact kq_sI rfl h_2
      refine pr_b pr_any (fun rh16 _ => ?_)
      refine pr_c (z_X12_stepsIn  _ h_3) (fun rh17 σh17 h_4 => ?_)
      replace h_4 : kq σ0 σh17 := h_4
      exact z_X12_clash_L172  _ h_4
    ·
      refine pr_g (fun _ _ => ?_)
      refine pr_g (fun _ _ => ?_)
      refine pr_ln (fun σh43 e5 => ?_)
      have h_5 : kq σ0 σh43 := by rw [e5]; exact kq_sE rfl h0
      refine pr_g (fun _ _ => ?_)
      refine pr_g (fun _ _ => ?_)
      refine pr_ln (fun σh46 e6 => ?_)
      have h_6 : kq σ0 σh46 := by rw [e6]; exact kq_sE rfl h_5
      refine pr_g (fun _ _ => ?_)
      refine pr_g (fun _ _ => ?_)
      refine pr_ln (fun σh49 e7 => ?_)
      have h_7 : kq σ0 σh49 := by rw [e7]; exact kq_sE rfl h_6
      refine pr_ln (fun x50 _ => ?_)
      exact ih h_7
theorem z_X12_clash_J31 {n : Nat} {σh2 : ms_T} {v1_h2 : Int32} {v2_h2 : Int32} {v3_h2 : Int32} {v4_h2 : Int32} {v5_h2 : Int32} {w0_h2 : Int32} {σ0 : ms_T} (h0 : kq σ0 σh2)  : pr (f_X12_clash_J31 n σh2 v1_h2 v2_h2 v3_h2 v4_h2 v5_h2 w0_h2) (fun res => kq σ0 res.2) := by
  unfold f_X12_clash_J31
  refine pr_c (z_X12_is h0 ) (fun rh3 σh3 h_1 => ?_)
  replace h_1 : kq σ0 σh3 := h_1
  refine pr_i (fun _ => ?_) (fun _ => ?_)
  ·
    exact pr_s h_1
  ·
    refine pr_c (z_X12_fromPad h_1 ) (fun rh5 σh5 h_2 => ?_)
    replace h_2 : kq σ0 σh5 := h_2
    refine pr_b pr_any (fun rh6 _ => ?_)
    refine pr_c (z_X12_whyIn h_2 ) (fun rh7 σh7 h_3 => ?_)
    replace h_3 : kq σ0 σh7 := h_3
    refine pr_i (fun _ => ?_) (fun _ => ?_)
    ·
      refine pr_ln (fun σh9 e4 => ?_)
      have h_4 : kq σ0 σh9 := by rw [e4]; exact kq_sI rfl h_3
      refine pr_c (z_X12_stepsIn  _ h_4) (fun rh10 σh10 h_5 => ?_)
      replace h_5 : kq σ0 σh10 := h_5
      exact z_X12_clash_L83  _ h_5
    ·
      refine pr_c (z_X12_refuse h_3 ) (fun rh51 σh51 h_6 => ?_)
      replace h_6 : kq σ0 σh51 := h_6
      exact pr_s h_6
theorem z_X12_clash_J20 {n : Nat} {σh52 : ms_T} {v1_h52 : Int32} {v2_h52 : Int32} {v3_h52 : Int32} {v4_h52 : Int32} {v5_h52 : Int32} {σ0 : ms_T} (h0 : kq σ0 σh52)  : pr (f_X12_clash_J20 n σh52 v1_h52 v2_h52 v3_h52 v4_h52 v5_h52) (fun res => kq σ0 res.2) := by
  unfold f_X12_clash_J20
  exact z_X12_clash_J31 h0 
theorem z_X12_clash {n : Nat} {σ : ms_T} {a1 : Int32} {a2 : Int32} {a3 : Int32} {a4 : Int32} {a5 : Int32} {σ0 : ms_T} (h0 : kq σ0 σ)  : pr (f_X12_clash n σ a1 a2 a3 a4 a5) (fun res => kq σ0 res.2) := by
  unfold f_X12_clash
  refine pr_b pr_any (fun rh1 _ => ?_)
  refine pr_i (fun _ => ?_) (fun _ => ?_)
  ·
    exact z_X12_clash_J20 h0 
  ·
    refine pr_b pr_any (fun rh54 _ => ?_)
    refine pr_i (fun _ => ?_) (fun _ => ?_)
    ·
      exact z_X12_clash_J20 h0 
    ·
      refine pr_b pr_any (fun rh56 _ => ?_)
      exact z_X12_clash_J31 h0 
theorem z_X12_forge_J71 {n : Nat} {σh7 : ms_T} {σ0 : ms_T} (h0 : kq σ0 σh7)  : pr (f_X12_forge_J71 n σh7) (fun res => kq σ0 res.2) := by
  unfold f_X12_forge_J71
  refine pr_c (z_X12_refuse h0 ) (fun rh8 σh8 h_1 => ?_)
  replace h_1 : kq σ0 σh8 := h_1
  exact pr_s h_1
theorem z_X12_forge_L80 {n : Nat} {σ0 : ms_T}  : ∀ (k80 : Nat) {σh11 : ms_T} {v1_h11 : Int32} {v2_h11 : Int32} {v3_h11 : Int32} {v4_h11 : Int32} {v5_h11 : Int32} {v6_h11 : Int32}, kq σ0 σh11 → pr (f_X12_forge_L80 n k80 σh11 v1_h11 v2_h11 v3_h11 v4_h11 v5_h11 v6_h11) (fun res => kq σ0 res.2) := by
  intro k80
  induction k80 with
  | zero => intro σh11 v1_h11 v2_h11 v3_h11 v4_h11 v5_h11 v6_h11 h0; rw [f_X12_forge_L80.eq_1]; exact pr_0
  | succ k80 ih =>
    intro σh11 v1_h11 v2_h11 v3_h11 v4_h11 v5_h11 v6_h11 h0
    rw [f_X12_forge_L80.eq_2]
    refine pr_g (fun _ _ => ?_)
    refine pr_i (fun _ => ?_) (fun _ => ?_)
    ·
      refine pr_c (z_X12_refuse h0 ) (fun rh14 σh14 h_1 => ?_)
      replace h_1 : kq σ0 σh14 := h_1
      exact pr_s h_1
    ·
      refine pr_g (fun _ _ => ?_)
      refine pr_ln (fun σh16 e2 => ?_)
      have h_2 : kq σ0 σh16 := by rw [e2]; exact kq_sE rfl h0
      refine pr_c (z_X12_folded h_2 ) (fun rh17 σh17 h_3 => ?_)
      replace h_3 : kq σ0 σh17 := h_3
      refine pr_i (fun _ => ?_) (fun _ => ?_)
      ·
        exact pr_s h_3
      ·
        refine pr_ln (fun x19 _ => ?_)
        exact ih h_3
theorem z_X12_forge_J37 {n : Nat} {σh2 : ms_T} {v1_h2 : Int32} {v2_h2 : Int32} {v3_h2 : Int32} {v4_h2 : Int32} {v5_h2 : Int32} {w0_h2 : Int32} {σ0 : ms_T} (h0 : kq σ0 σh2)  : pr (f_X12_forge_J37 n σh2 v1_h2 v2_h2 v3_h2 v4_h2 v5_h2 w0_h2) (fun res => kq σ0 res.2) := by
  unfold f_X12_forge_J37
  refine pr_c (z_X12_is h0 ) (fun rh3 σh3 h_1 => ?_)
  replace h_1 : kq σ0 σh3 := h_1
  refine pr_i (fun _ => ?_) (fun _ => ?_)
  ·
    exact pr_s h_1
  ·
    refine pr_b (z_X12_inclusion h_1 ) (fun σh5 h_2 => ?_)
    replace h_2 : kq σ0 σh5 := h_2
    refine pr_c (z_X12_fromPad h_2 ) (fun rh6 σh6 h_3 => ?_)
    replace h_3 : kq σ0 σh6 := h_3
    refine pr_i (fun _ => ?_) (fun _ => ?_)
    ·
      refine pr_i (fun _ => ?_) (fun _ => ?_)
      ·
        exact z_X12_forge_L80  _ h_3
      ·
        exact z_X12_forge_J71 h_3 
    ·
      exact z_X12_forge_J71 h_3 
theorem z_X12_forge_J36 {n : Nat} {σh20 : ms_T} {v1_h20 : Int32} {v2_h20 : Int32} {v3_h20 : Int32} {v4_h20 : Int32} {v5_h20 : Int32} {σ0 : ms_T} (h0 : kq σ0 σh20)  : pr (f_X12_forge_J36 n σh20 v1_h20 v2_h20 v3_h20 v4_h20 v5_h20) (fun res => kq σ0 res.2) := by
  unfold f_X12_forge_J36
  exact z_X12_forge_J37 h0 
theorem z_X12_forge {n : Nat} {σ : ms_T} {a1 : Int32} {a2 : Int32} {a3 : Int32} {a4 : Int32} {a5 : Int32} {σ0 : ms_T} (h0 : kq σ0 σ)  : pr (f_X12_forge n σ a1 a2 a3 a4 a5) (fun res => kq σ0 res.2) := by
  unfold f_X12_forge
  refine pr_b pr_any (fun rh1 _ => ?_)
  refine pr_i (fun _ => ?_) (fun _ => ?_)
  ·
    exact z_X12_forge_J36 h0 
  ·
    refine pr_i (fun _ => ?_) (fun _ => ?_)
    ·
      exact z_X12_forge_J36 h0 
    ·
      refine pr_b pr_any (fun rh23 _ => ?_)
      refine pr_i (fun _ => ?_) (fun _ => ?_)
      ·
        exact z_X12_forge_J36 h0 
      ·
        refine pr_b pr_any (fun rh25 _ => ?_)
        refine pr_i (fun _ => ?_) (fun _ => ?_)
        ·
          exact z_X12_forge_J36 h0 
        ·
          exact z_X12_forge_J37 h0 
theorem z_X12_trace_J60 {n : Nat} {σh6 : ms_T} {σ0 : ms_T} (h0 : kq σ0 σh6)  : pr (f_X12_trace_J60 n σh6) (fun res => kq σ0 res.2) := by
  unfold f_X12_trace_J60
  refine pr_c (z_X12_refuse h0 ) (fun rh7 σh7 h_1 => ?_)
  replace h_1 : kq σ0 σh7 := h_1
  exact pr_s h_1
theorem z_X12_trace_L72 {n : Nat} {σ0 : ms_T}  : ∀ (k72 : Nat) {σh12 : ms_T} {v1_h12 : Int32} {v2_h12 : Int32} {v3_h12 : Int32} {v4_h12 : Int32} {v5_h12 : Int32}, kq σ0 σh12 → pr (f_X12_trace_L72 n k72 σh12 v1_h12 v2_h12 v3_h12 v4_h12 v5_h12) (fun res => kq σ0 res.2) := by
  intro k72
  induction k72 with
  | zero => intro σh12 v1_h12 v2_h12 v3_h12 v4_h12 v5_h12 h0; rw [f_X12_trace_L72.eq_1]; exact pr_0
  | succ k72 ih =>
    intro σh12 v1_h12 v2_h12 v3_h12 v4_h12 v5_h12 h0
    rw [f_X12_trace_L72.eq_2]
    refine pr_i (fun _ => ?_) (fun _ => ?_)
    ·
      refine pr_ln (fun σh14 e1 => ?_)
      have h_1 : kq σ0 σh14 := by rw [e1]; exact kq_sI rfl h0
      refine pr_c (z_X12_stepsIn  _ h_1) (fun rh15 σh15 h_2 => ?_)
      replace h_2 : kq σ0 σh15 := h_2
      refine pr_i (fun _ => ?_) (fun _ => ?_)
      ·
        exact pr_s h_2
      ·
        refine pr_g (fun _ _ => ?_)
        exact pr_s h_2
    ·
      refine pr_g (fun _ _ => ?_)
      refine pr_ln (fun σh19 e3 => ?_)
      have h_3 : kq σ0 σh19 := by rw [e3]; exact kq_sE rfl h0
      refine pr_ln (fun x20 _ => ?_)
      exact ih h_3
theorem z_X12_trace_J28 {n : Nat} {σh2 : ms_T} {v1_h2 : Int32} {v2_h2 : Int32} {v3_h2 : Int32} {v4_h2 : Int32} {w0_h2 : Int32} {σ0 : ms_T} (h0 : kq σ0 σh2)  : pr (f_X12_trace_J28 n σh2 v1_h2 v2_h2 v3_h2 v4_h2 w0_h2) (fun res => kq σ0 res.2) := by
  unfold f_X12_trace_J28
  refine pr_c (z_X12_is h0 ) (fun rh3 σh3 h_1 => ?_)
  replace h_1 : kq σ0 σh3 := h_1
  refine pr_i (fun _ => ?_) (fun _ => ?_)
  ·
    exact pr_s h_1
  ·
    refine pr_b (z_X12_inclusion h_1 ) (fun σh5 h_2 => ?_)
    replace h_2 : kq σ0 σh5 := h_2
    refine pr_i (fun _ => ?_) (fun _ => ?_)
    ·
      exact z_X12_trace_J60 h_2 
    ·
      refine pr_c (z_X12_fromPad h_2 ) (fun rh9 σh9 h_3 => ?_)
      replace h_3 : kq σ0 σh9 := h_3
      refine pr_i (fun _ => ?_) (fun _ => ?_)
      ·
        refine pr_c (z_X12_fromPad h_3 ) (fun rh11 σh11 h_4 => ?_)
        replace h_4 : kq σ0 σh11 := h_4
        exact z_X12_trace_L72  _ h_4
      ·
        exact z_X12_trace_J60 h_3 
theorem z_X12_trace_J27 {n : Nat} {σh21 : ms_T} {v1_h21 : Int32} {v2_h21 : Int32} {v3_h21 : Int32} {v4_h21 : Int32} {σ0 : ms_T} (h0 : kq σ0 σh21)  : pr (f_X12_trace_J27 n σh21 v1_h21 v2_h21 v3_h21 v4_h21) (fun res => kq σ0 res.2) := by
  unfold f_X12_trace_J27
  exact z_X12_trace_J28 h0 
theorem z_X12_trace {n : Nat} {σ : ms_T} {a1 : Int32} {a2 : Int32} {a3 : Int32} {a4 : Int32} {σ0 : ms_T} (h0 : kq σ0 σ)  : pr (f_X12_trace n σ a1 a2 a3 a4) (fun res => kq σ0 res.2) := by
  unfold f_X12_trace
  refine pr_b pr_any (fun rh1 _ => ?_)
  refine pr_i (fun _ => ?_) (fun _ => ?_)
  ·
    exact z_X12_trace_J27 h0 
  ·
    refine pr_i (fun _ => ?_) (fun _ => ?_)
    ·
      exact z_X12_trace_J27 h0 
    ·
      refine pr_b pr_any (fun rh24 _ => ?_)
      refine pr_i (fun _ => ?_) (fun _ => ?_)
      ·
        exact z_X12_trace_J27 h0 
      ·
        exact z_X12_trace_J28 h0 
theorem z_X12_wayAt {n : Nat} {σ : ms_T} {a1 : Int32} {a2 : Int32} {σ0 : ms_T} (h0 : kq σ0 σ)  : pr (f_X12_wayAt n σ a1 a2) (fun res => kq σ0 res.2) := by
  unfold f_X12_wayAt
  refine pr_i (fun _ => ?_) (fun _ => ?_)
  ·
    refine pr_i (fun _ => ?_) (fun _ => ?_)
    ·
      refine pr_g (fun _ _ => ?_)
      exact pr_s h0
    ·
      refine pr_g (fun _ _ => ?_)
      exact pr_s h0
  ·
    refine pr_c (z_X12_refuse h0 ) (fun rh5 σh5 h_1 => ?_)
    replace h_1 : kq σ0 σh5 := h_1
    exact pr_s h_1
theorem z_X12_span_J29 {n : Nat} {σh2 : ms_T} {v1_h2 : Int32} {v2_h2 : Int32} {v3_h2 : Int32} {v4_h2 : Int32} {w0_h2 : Int32} {σ0 : ms_T} (h0 : kq σ0 σh2)  : pr (f_X12_span_J29 n σh2 v1_h2 v2_h2 v3_h2 v4_h2 w0_h2) (fun res => kq σ0 res.2) := by
  unfold f_X12_span_J29
  refine pr_c (z_X12_is h0 ) (fun rh3 σh3 h_1 => ?_)
  replace h_1 : kq σ0 σh3 := h_1
  refine pr_i (fun _ => ?_) (fun _ => ?_)
  ·
    exact pr_s h_1
  ·
    refine pr_b (z_X12_inclusion h_1 ) (fun σh5 h_2 => ?_)
    replace h_2 : kq σ0 σh5 := h_2
    refine pr_c (z_X12_wayAt h_2 ) (fun rh6 σh6 h_3 => ?_)
    replace h_3 : kq σ0 σh6 := h_3
    exact pr_s h_3
theorem z_X12_span_J28 {n : Nat} {σh7 : ms_T} {v1_h7 : Int32} {v2_h7 : Int32} {v3_h7 : Int32} {v4_h7 : Int32} {σ0 : ms_T} (h0 : kq σ0 σh7)  : pr (f_X12_span_J28 n σh7 v1_h7 v2_h7 v3_h7 v4_h7) (fun res => kq σ0 res.2) := by
  unfold f_X12_span_J28
  exact z_X12_span_J29 h0 
theorem z_X12_span {n : Nat} {σ : ms_T} {a1 : Int32} {a2 : Int32} {a3 : Int32} {a4 : Int32} {σ0 : ms_T} (h0 : kq σ0 σ)  : pr (f_X12_span n σ a1 a2 a3 a4) (fun res => kq σ0 res.2) := by
  unfold f_X12_span
  refine pr_b pr_any (fun rh1 _ => ?_)
  refine pr_i (fun _ => ?_) (fun _ => ?_)
  ·
    exact z_X12_span_J28 h0 
  ·
    refine pr_i (fun _ => ?_) (fun _ => ?_)
    ·
      exact z_X12_span_J28 h0 
    ·
      refine pr_b pr_any (fun rh10 _ => ?_)
      refine pr_i (fun _ => ?_) (fun _ => ?_)
      ·
        exact z_X12_span_J28 h0 
      ·
        exact z_X12_span_J29 h0 
theorem z_X12_rise_J29 {n : Nat} {σh1 : ms_T} {v1_h1 : Int32} {v2_h1 : Int32} {v3_h1 : Int32} {v4_h1 : Int32} {w0_h1 : Int32} {σ0 : ms_T} (h0 : kq σ0 σh1)  : pr (f_X12_rise_J29 n σh1 v1_h1 v2_h1 v3_h1 v4_h1 w0_h1) (fun res => kq σ0 res.2) := by
  unfold f_X12_rise_J29
  refine pr_c (z_X12_is h0 ) (fun rh2 σh2 h_1 => ?_)
  replace h_1 : kq σ0 σh2 := h_1
  refine pr_i (fun _ => ?_) (fun _ => ?_)
  ·
    exact pr_s h_1
  ·
    refine pr_b (z_X12_growth h_1 ) (fun σh4 h_2 => ?_)
    replace h_2 : kq σ0 σh4 := h_2
    refine pr_c (z_X12_wayAt h_2 ) (fun rh5 σh5 h_3 => ?_)
    replace h_3 : kq σ0 σh5 := h_3
    exact pr_s h_3
theorem z_X12_rise_J28 {n : Nat} {σh6 : ms_T} {v1_h6 : Int32} {v2_h6 : Int32} {v3_h6 : Int32} {v4_h6 : Int32} {σ0 : ms_T} (h0 : kq σ0 σh6)  : pr (f_X12_rise_J28 n σh6 v1_h6 v2_h6 v3_h6 v4_h6) (fun res => kq σ0 res.2) := by
  unfold f_X12_rise_J28
  exact z_X12_rise_J29 h0 
theorem z_X12_rise {n : Nat} {σ : ms_T} {a1 : Int32} {a2 : Int32} {a3 : Int32} {a4 : Int32} {σ0 : ms_T} (h0 : kq σ0 σ)  : pr (f_X12_rise n σ a1 a2 a3 a4) (fun res => kq σ0 res.2) := by
  unfold f_X12_rise
  refine pr_i (fun _ => ?_) (fun _ => ?_)
  ·
    exact z_X12_rise_J28 h0 
  ·
    refine pr_i (fun _ => ?_) (fun _ => ?_)
    ·
      exact z_X12_rise_J28 h0 
    ·
      refine pr_i (fun _ => ?_) (fun _ => ?_)
      ·
        exact z_X12_rise_J28 h0 
      ·
        refine pr_b pr_any (fun rh10 _ => ?_)
        refine pr_i (fun _ => ?_) (fun _ => ?_)
        ·
          exact z_X12_rise_J28 h0 
        ·
          exact z_X12_rise_J29 h0 
theorem z_X12_notes_J72 {n : Nat} {rec2 : ms_T → Int32 → Option ms_T} {σh6 : ms_T} {v1_h6 : Int32} {σ0 : ms_T} (h0 : kq σ0 σh6) (hrec2 : ∀ {y0 : ms_T} {y1 : Int32}, kq σ0 y0 → pr (rec2 y0 y1) (fun res => kq σ0 res)) : pr (f_X12_notes_J72 n rec2 σh6 v1_h6) (fun res => kq σ0 res) := by
  unfold f_X12_notes_J72
  refine pr_ln (fun x7 _ => ?_)
  exact hrec2 h0
theorem z_X12_notes_L2 {n : Nat} {σ0 : ms_T}  : ∀ (k2 : Nat) {σh1 : ms_T} {v1_h1 : Int32}, kq σ0 σh1 → pr (f_X12_notes_L2 n k2 σh1 v1_h1) (fun res => kq σ0 res) := by
  intro k2
  induction k2 with
  | zero => intro σh1 v1_h1 h0; rw [f_X12_notes_L2.eq_1]; exact pr_0
  | succ k2 ih =>
    intro σh1 v1_h1 h0
    rw [f_X12_notes_L2.eq_2]
    refine pr_i (fun _ => ?_) (fun _ => ?_)
    ·
      exact pr_s h0
    ·
      refine pr_g (fun _ _ => ?_)
      refine pr_g (fun _ _ => ?_)
      refine pr_b pr_any (fun rh5 _ => ?_)
      refine pr_i (fun _ => ?_) (fun _ => ?_)
      ·
        refine pr_g (fun _ _ => ?_)
        refine pr_g (fun _ _ => ?_)
        refine pr_ln (fun σh11 e1 => ?_)
        have h_1 : kq σ0 σh11 := by rw [e1]; exact kq_sE rfl h0
        refine pr_g (fun _ _ => ?_)
        refine pr_g (fun _ _ => ?_)
        refine pr_ln (fun σh14 e2 => ?_)
        have h_2 : kq σ0 σh14 := by rw [e2]; exact kq_sE rfl h_1
        refine pr_ln (fun σh15 e3 => ?_)
        have h_3 : kq σ0 σh15 := by rw [e3]; exact kq_sI rfl h_2
        exact z_X12_notes_J72 h_3 (fun h => ih h)
      ·
        exact z_X12_notes_J72 h0 (fun h => ih h)
theorem z_X12_notes {n : Nat} {σ : ms_T} {σ0 : ms_T} (h0 : kq σ0 σ)  : pr (f_X12_notes n σ) (fun res => kq σ0 res) := by
  unfold f_X12_notes
  exact z_X12_notes_L2  _ h0
theorem z_X12_kept_J92 {n : Nat} {rec55 : ms_T → Int32 → Int32 → Option (Int32 × ms_T)} {σh14 : ms_T} {v5_h14 : Int32} {w0_h14 : Int32} {w1_h14 : Int32} {σ0 : ms_T} (h0 : kq σ0 σh14) (hrec55 : ∀ {y0 : ms_T} {y1 : Int32} {y2 : Int32}, kq σ0 y0 → pr (rec55 y0 y1 y2) (fun res => kq σ0 res.2)) : pr (f_X12_kept_J92 n rec55 σh14 v5_h14 w0_h14 w1_h14) (fun res => kq σ0 res.2) := by
  unfold f_X12_kept_J92
  refine pr_ln (fun x15 _ => ?_)
  refine pr_ln (fun x16 _ => ?_)
  exact hrec55 h0
theorem z_X12_kept_L55 {n : Nat} {σ0 : ms_T}  : ∀ (k55 : Nat) {σh9 : ms_T} {v4_h9 : Int32} {v5_h9 : Int32}, kq σ0 σh9 → pr (f_X12_kept_L55 n k55 σh9 v4_h9 v5_h9) (fun res => kq σ0 res.2) := by
  intro k55
  induction k55 with
  | zero => intro σh9 v4_h9 v5_h9 h0; rw [f_X12_kept_L55.eq_1]; exact pr_0
  | succ k55 ih =>
    intro σh9 v4_h9 v5_h9 h0
    rw [f_X12_kept_L55.eq_2]
    refine pr_i (fun _ => ?_) (fun _ => ?_)
    ·
      exact pr_s h0
    ·
      refine pr_g (fun _ _ => ?_)
      refine pr_g (fun _ _ => ?_)
      refine pr_b pr_any (fun rh13 _ => ?_)
      refine pr_i (fun _ => ?_) (fun _ => ?_)
      ·
        exact z_X12_kept_J92 h0 (fun h => ih h)
      ·
        exact z_X12_kept_J92 h0 (fun h => ih h)
theorem z_X12_kept_J20 {n : Nat} {σh2 : ms_T} {v1_h2 : Int32} {v2_h2 : Int32} {v3_h2 : Int32} {w0_h2 : Int32} {σ0 : ms_T} (h0 : kq σ0 σh2)  : pr (f_X12_kept_J20 n σh2 v1_h2 v2_h2 v3_h2 w0_h2) (fun res => kq σ0 res.2) := by
  unfold f_X12_kept_J20
  refine pr_c (z_X12_is h0 ) (fun rh3 σh3 h_1 => ?_)
  replace h_1 : kq σ0 σh3 := h_1
  refine pr_i (fun _ => ?_) (fun _ => ?_)
  ·
    exact pr_s h_1
  ·
    refine pr_ln (fun σh5 e2 => ?_)
    have h_2 : kq σ0 σh5 := by rw [e2]; exact kq_sI rfl h_1
    refine pr_b (z_X12_inclusion h_2 ) (fun σh6 h_3 => ?_)
    replace h_3 : kq σ0 σh6 := h_3
    refine pr_b (z_X12_notes h_3 ) (fun σh7 h_4 => ?_)
    replace h_4 : kq σ0 σh7 := h_4
    refine pr_b (z_X12_inclusion h_4 ) (fun σh8 h_5 => ?_)
    replace h_5 : kq σ0 σh8 := h_5
    exact z_X12_kept_L55  _ h_5
theorem z_X12_kept_J19 {n : Nat} {σh18 : ms_T} {v1_h18 : Int32} {v2_h18 : Int32} {v3_h18 : Int32} {σ0 : ms_T} (h0 : kq σ0 σh18)  : pr (f_X12_kept_J19 n σh18 v1_h18 v2_h18 v3_h18) (fun res => kq σ0 res.2) := by
  unfold f_X12_kept_J19
  exact z_X12_kept_J20 h0 
theorem z_X12_kept {n : Nat} {σ : ms_T} {a1 : Int32} {a2 : Int32} {a3 : Int32} {σ0 : ms_T} (h0 : kq σ0 σ)  : pr (f_X12_kept n σ a1 a2 a3) (fun res => kq σ0 res.2) := by
  unfold f_X12_kept
  refine pr_b pr_any (fun rh1 _ => ?_)
  refine pr_i (fun _ => ?_) (fun _ => ?_)
  ·
    exact z_X12_kept_J19 h0 
  ·
    refine pr_i (fun _ => ?_) (fun _ => ?_)
    ·
      exact z_X12_kept_J19 h0 
    ·
      exact z_X12_kept_J20 h0 
theorem z_X12_sick_J89 {n : Nat} {rec56 : ms_T → Int32 → Int32 → Int32 → Option (Int32 × ms_T)} {σh12 : ms_T} {v1_h12 : Int32} {v3_h12 : Int32} {w0_h12 : Int32} {w1_h12 : Int32} {σ0 : ms_T} (h0 : kq σ0 σh12) (hrec56 : ∀ {y0 : ms_T} {y1 : Int32} {y2 : Int32} {y3 : Int32}, kq σ0 y0 → pr (rec56 y0 y1 y2 y3) (fun res => kq σ0 res.2)) : pr (f_X12_sick_J89 n rec56 σh12 v1_h12 v3_h12 w0_h12 w1_h12) (fun res => kq σ0 res.2) := by
  unfold f_X12_sick_J89
  refine pr_ln (fun x13 _ => ?_)
  refine pr_ln (fun x14 _ => ?_)
  exact hrec56 h0
theorem z_X12_sick_L56 {n : Nat} {σ0 : ms_T}  : ∀ (k56 : Nat) {σh8 : ms_T} {v1_h8 : Int32} {v2_h8 : Int32} {v3_h8 : Int32}, kq σ0 σh8 → pr (f_X12_sick_L56 n k56 σh8 v1_h8 v2_h8 v3_h8) (fun res => kq σ0 res.2) := by
  intro k56
  induction k56 with
  | zero => intro σh8 v1_h8 v2_h8 v3_h8 h0; rw [f_X12_sick_L56.eq_1]; exact pr_0
  | succ k56 ih =>
    intro σh8 v1_h8 v2_h8 v3_h8 h0
    rw [f_X12_sick_L56.eq_2]
    refine pr_i (fun _ => ?_) (fun _ => ?_)
    ·
      exact pr_s h0
    ·
      refine pr_g (fun _ _ => ?_)
      refine pr_b pr_any (fun rh11 _ => ?_)
      refine pr_i (fun _ => ?_) (fun _ => ?_)
      ·
        exact z_X12_sick_J89 h0 (fun h => ih h)
      ·
        exact z_X12_sick_J89 h0 (fun h => ih h)
theorem z_X12_sick_J24 {n : Nat} {σh1 : ms_T} {v1_h1 : Int32} {w0_h1 : Int32} {σ0 : ms_T} (h0 : kq σ0 σh1)  : pr (f_X12_sick_J24 n σh1 v1_h1 w0_h1) (fun res => kq σ0 res.2) := by
  unfold f_X12_sick_J24
  refine pr_c (z_X12_is h0 ) (fun rh2 σh2 h_1 => ?_)
  replace h_1 : kq σ0 σh2 := h_1
  refine pr_i (fun _ => ?_) (fun _ => ?_)
  ·
    exact pr_s h_1
  ·
    refine pr_b pr_any (fun rh4 _ => ?_)
    refine pr_b (z_X12_peaksOf h_1 ) (fun σh5 h_2 => ?_)
    replace h_2 : kq σ0 σh5 := h_2
    refine pr_b pr_any (fun rh6 _ => ?_)
    refine pr_b (z_X12_fetches h_2 ) (fun σh7 h_3 => ?_)
    replace h_3 : kq σ0 σh7 := h_3
    exact z_X12_sick_L56  _ h_3
theorem z_X12_sick {n : Nat} {σ : ms_T} {a1 : Int32} {σ0 : ms_T} (h0 : kq σ0 σ)  : pr (f_X12_sick n σ a1) (fun res => kq σ0 res.2) := by
  unfold f_X12_sick
  refine pr_i (fun _ => ?_) (fun _ => ?_)
  ·
    refine pr_g (fun _ _ => ?_)
    refine pr_i (fun _ => ?_) (fun _ => ?_)
    ·
      exact z_X12_sick_J24 h0 
    ·
      exact z_X12_sick_J24 h0 
  ·
    exact z_X12_sick_J24 h0 
theorem z_X12_chain_J82 {n : Nat} {rec56 : ms_T → Int32 → Int32 → Int32 → Int32 → Int32 → Int32 → Option (Int32 × ms_T)} {σh13 : ms_T} {v1_h13 : Int32} {v2_h13 : Int32} {v3_h13 : Int32} {v4_h13 : Int32} {v6_h13 : Int32} {σ0 : ms_T} (h0 : kq σ0 σh13) (hrec56 : ∀ {y0 : ms_T} {y1 : Int32} {y2 : Int32} {y3 : Int32} {y4 : Int32} {y5 : Int32} {y6 : Int32}, kq σ0 y0 → pr (rec56 y0 y1 y2 y3 y4 y5 y6) (fun res => kq σ0 res.2)) : pr (f_X12_chain_J82 n rec56 σh13 v1_h13 v2_h13 v3_h13 v4_h13 v6_h13) (fun res => kq σ0 res.2) := by
  unfold f_X12_chain_J82
  refine pr_ln (fun x14 _ => ?_)
  refine pr_b (z_X12_notes h0 ) (fun σh15 h_1 => ?_)
  replace h_1 : kq σ0 σh15 := h_1
  refine pr_b pr_any (fun rh16 _ => ?_)
  exact hrec56 h_1
theorem z_X12_chain_L56 {n : Nat} {σ0 : ms_T}  : ∀ (k56 : Nat) {σh7 : ms_T} {v1_h7 : Int32} {v2_h7 : Int32} {v3_h7 : Int32} {v4_h7 : Int32} {v5_h7 : Int32} {v6_h7 : Int32}, kq σ0 σh7 → pr (f_X12_chain_L56 n k56 σh7 v1_h7 v2_h7 v3_h7 v4_h7 v5_h7 v6_h7) (fun res => kq σ0 res.2) := by
  intro k56
  induction k56 with
  | zero => intro σh7 v1_h7 v2_h7 v3_h7 v4_h7 v5_h7 v6_h7 h0; rw [f_X12_chain_L56.eq_1]; exact pr_0
  | succ k56 ih =>
    intro σh7 v1_h7 v2_h7 v3_h7 v4_h7 v5_h7 v6_h7 h0
    rw [f_X12_chain_L56.eq_2]
    refine pr_i (fun _ => ?_) (fun _ => ?_)
    ·
      refine pr_i (fun _ => ?_) (fun _ => ?_)
      ·
        exact pr_s h0
      ·
        refine pr_i (fun _ => ?_) (fun _ => ?_)
        ·
          exact pr_s h0
        ·
          exact pr_s h0
    ·
      refine pr_ln (fun x11 _ => ?_)
      refine pr_ln (fun σh12 e1 => ?_)
      have h_1 : kq σ0 σh12 := by rw [e1]; exact kq_sI rfl h0
      refine pr_i (fun _ => ?_) (fun _ => ?_)
      ·
        exact z_X12_chain_J82 h_1 (fun h => ih h)
      ·
        refine pr_b (z_X12_growth h_1 ) (fun σh18 h_2 => ?_)
        replace h_2 : kq σ0 σh18 := h_2
        exact z_X12_chain_J82 h_2 (fun h => ih h)
theorem z_X12_chain_J27 {n : Nat} {σh2 : ms_T} {v1_h2 : Int32} {v2_h2 : Int32} {w0_h2 : Int32} {σ0 : ms_T} (h0 : kq σ0 σh2)  : pr (f_X12_chain_J27 n σh2 v1_h2 v2_h2 w0_h2) (fun res => kq σ0 res.2) := by
  unfold f_X12_chain_J27
  refine pr_c (z_X12_is h0 ) (fun rh3 σh3 h_1 => ?_)
  replace h_1 : kq σ0 σh3 := h_1
  refine pr_i (fun _ => ?_) (fun _ => ?_)
  ·
    exact pr_s h_1
  ·
    refine pr_ln (fun σh5 e2 => ?_)
    have h_2 : kq σ0 σh5 := by rw [e2]; exact kq_sI rfl h_1
    refine pr_b pr_any (fun rh6 _ => ?_)
    exact z_X12_chain_L56  _ h_2
theorem z_X12_chain {n : Nat} {σ : ms_T} {a1 : Int32} {a2 : Int32} {σ0 : ms_T} (h0 : kq σ0 σ)  : pr (f_X12_chain n σ a1 a2) (fun res => kq σ0 res.2) := by
  unfold f_X12_chain
  refine pr_b pr_any (fun rh1 _ => ?_)
  refine pr_i (fun _ => ?_) (fun _ => ?_)
  ·
    exact z_X12_chain_J27 h0 
  ·
    refine pr_b pr_any (fun rh20 _ => ?_)
    refine pr_i (fun _ => ?_) (fun _ => ?_)
    ·
      exact z_X12_chain_J27 h0 
    ·
      exact z_X12_chain_J27 h0 
theorem z_X12_split_J82 {n : Nat} {rec30 : ms_T → Int32 → Int32 → Int32 → Int32 → Option (Int32 × ms_T)} {rec42 : ms_T → Int32 → Int32 → Int32 → Int32 → Int32 → Option (Int32 × ms_T)} {σh14 : ms_T} {v1_h14 : Int32} {v2_h14 : Int32} {v3_h14 : Int32} {v4_h14 : Int32} {v5_h14 : Int32} {σ0 : ms_T} (h0 : kq σ0 σh14) (hrec30 : ∀ {y0 : ms_T} {y1 : Int32} {y2 : Int32} {y3 : Int32} {y4 : Int32}, kq σ0 y0 → pr (rec30 y0 y1 y2 y3 y4) (fun res => kq σ0 res.2)) (hrec42 : ∀ {y0 : ms_T} {y1 : Int32} {y2 : Int32} {y3 : Int32} {y4 : Int32} {y5 : Int32}, kq σ0 y0 → pr (rec42 y0 y1 y2 y3 y4 y5) (fun res => kq σ0 res.2)) : pr (f_X12_split_J82 n rec30 rec42 σh14 v1_h14 v2_h14 v3_h14 v4_h14 v5_h14) (fun res => kq σ0 res.2) := by
  unfold f_X12_split_J82
  refine pr_ln (fun x15 _ => ?_)
  exact hrec42 h0
theorem z_X12_split_J81 {n : Nat} {rec30 : ms_T → Int32 → Int32 → Int32 → Int32 → Option (Int32 × ms_T)} {rec42 : ms_T → Int32 → Int32 → Int32 → Int32 → Int32 → Option (Int32 × ms_T)} {σh18 : ms_T} {v1_h18 : Int32} {v2_h18 : Int32} {v4_h18 : Int32} {v5_h18 : Int32} {w0_h18 : Int32} {σ0 : ms_T} (h0 : kq σ0 σh18) (hrec30 : ∀ {y0 : ms_T} {y1 : Int32} {y2 : Int32} {y3 : Int32} {y4 : Int32}, kq σ0 y0 → pr (rec30 y0 y1 y2 y3 y4) (fun res => kq σ0 res.2)) (hrec42 : ∀ {y0 : ms_T} {y1 : Int32} {y2 : Int32} {y3 : Int32} {y4 : Int32} {y5 : Int32}, kq σ0 y0 → pr (rec42 y0 y1 y2 y3 y4 y5) (fun res => kq σ0 res.2)) : pr (f_X12_split_J81 n rec30 rec42 σh18 v1_h18 v2_h18 v4_h18 v5_h18 w0_h18) (fun res => kq σ0 res.2) := by
  unfold f_X12_split_J81
  exact z_X12_split_J82 h0 (fun h => hrec30 h) (fun h => hrec42 h)
theorem z_X12_split_L42 {n : Nat} {rec30 : ms_T → Int32 → Int32 → Int32 → Int32 → Option (Int32 × ms_T)} {σ0 : ms_T} (hrec30 : ∀ {y0 : ms_T} {y1 : Int32} {y2 : Int32} {y3 : Int32} {y4 : Int32}, kq σ0 y0 → pr (rec30 y0 y1 y2 y3 y4) (fun res => kq σ0 res.2)) : ∀ (k42 : Nat) {σh10 : ms_T} {v1_h10 : Int32} {v2_h10 : Int32} {v3_h10 : Int32} {v4_h10 : Int32} {v5_h10 : Int32}, kq σ0 σh10 → pr (f_X12_split_L42 n rec30 k42 σh10 v1_h10 v2_h10 v3_h10 v4_h10 v5_h10) (fun res => kq σ0 res.2) := by
  intro k42
  induction k42 with
  | zero => intro σh10 v1_h10 v2_h10 v3_h10 v4_h10 v5_h10 h0; rw [f_X12_split_L42.eq_1]; exact pr_0
  | succ k42 ih =>
    intro σh10 v1_h10 v2_h10 v3_h10 v4_h10 v5_h10 h0
    rw [f_X12_split_L42.eq_2]
    refine pr_i (fun _ => ?_) (fun _ => ?_)
    ·
      refine pr_ln (fun x12 _ => ?_)
      exact hrec30 h0
    ·
      refine pr_b pr_any (fun rh13 _ => ?_)
      refine pr_i (fun _ => ?_) (fun _ => ?_)
      ·
        refine pr_ln (fun x17 _ => ?_)
        refine pr_i (fun _ => ?_) (fun _ => ?_)
        ·
          exact z_X12_split_J81 h0 (fun h => hrec30 h) (fun h => ih h)
        ·
          exact z_X12_split_J81 h0 (fun h => hrec30 h) (fun h => ih h)
      ·
        exact z_X12_split_J82 h0 (fun h => hrec30 h) (fun h => ih h)
theorem z_X12_split_L30 {n : Nat} {σ0 : ms_T}  : ∀ (k30 : Nat) {σh5 : ms_T} {v1_h5 : Int32} {v2_h5 : Int32} {v3_h5 : Int32} {v4_h5 : Int32}, kq σ0 σh5 → pr (f_X12_split_L30 n k30 σh5 v1_h5 v2_h5 v3_h5 v4_h5) (fun res => kq σ0 res.2) := by
  intro k30
  induction k30 with
  | zero => intro σh5 v1_h5 v2_h5 v3_h5 v4_h5 h0; rw [f_X12_split_L30.eq_1]; exact pr_0
  | succ k30 ih =>
    intro σh5 v1_h5 v2_h5 v3_h5 v4_h5 h0
    rw [f_X12_split_L30.eq_2]
    refine pr_i (fun _ => ?_) (fun _ => ?_)
    ·
      refine pr_i (fun _ => ?_) (fun _ => ?_)
      ·
        exact pr_s h0
      ·
        refine pr_i (fun _ => ?_) (fun _ => ?_)
        ·
          exact pr_s h0
        ·
          refine pr_c (z_X12_refuse h0 ) (fun rh9 σh9 h_1 => ?_)
          replace h_1 : kq σ0 σh9 := h_1
          exact pr_s h_1
    ·
      refine pr_ln (fun x20 _ => ?_)
      exact z_X12_split_L42 (fun h => ih h) _ h0
theorem z_X12_split_J15 {n : Nat} {σh2 : ms_T} {v1_h2 : Int32} {w0_h2 : Int32} {σ0 : ms_T} (h0 : kq σ0 σh2)  : pr (f_X12_split_J15 n σh2 v1_h2 w0_h2) (fun res => kq σ0 res.2) := by
  unfold f_X12_split_J15
  refine pr_c (z_X12_is h0 ) (fun rh3 σh3 h_1 => ?_)
  replace h_1 : kq σ0 σh3 := h_1
  refine pr_i (fun _ => ?_) (fun _ => ?_)
  ·
    exact pr_s h_1
  ·
    exact z_X12_split_L30  _ h_1
theorem z_X12_split {n : Nat} {σ : ms_T} {a1 : Int32} {σ0 : ms_T} (h0 : kq σ0 σ)  : pr (f_X12_split n σ a1) (fun res => kq σ0 res.2) := by
  unfold f_X12_split
  refine pr_b pr_any (fun rh1 _ => ?_)
  refine pr_i (fun _ => ?_) (fun _ => ?_)
  ·
    exact z_X12_split_J15 h0 
  ·
    exact z_X12_split_J15 h0 
theorem z_X12_tells {n : Nat} {σ : ms_T} {a1 : Int32} {σ0 : ms_T} (h0 : kq σ0 σ)  : pr (f_X12_tells n σ a1) (fun res => kq σ0 res) := by
  unfold f_X12_tells
  refine pr_g (fun _ _ => ?_)
  refine pr_ln (fun σh2 e1 => ?_)
  have h_1 : kq σ0 σh2 := by rw [e1]; exact kq_sE rfl h0
  refine pr_ln (fun σh3 e2 => ?_)
  have h_2 : kq σ0 σh3 := by rw [e2]; exact kq_sI rfl h_1
  exact pr_s h_2
theorem z_X12_tellsNumber_L18 {n : Nat} {σ0 : ms_T}  : ∀ (k18 : Nat) {σh3 : ms_T} {v1_h3 : Int32} {v2_h3 : Int32}, kq σ0 σh3 → pr (f_X12_tellsNumber_L18 n k18 σh3 v1_h3 v2_h3) (fun res => kq σ0 res) := by
  intro k18
  induction k18 with
  | zero => intro σh3 v1_h3 v2_h3 h0; rw [f_X12_tellsNumber_L18.eq_1]; exact pr_0
  | succ k18 ih =>
    intro σh3 v1_h3 v2_h3 h0
    rw [f_X12_tellsNumber_L18.eq_2]
    refine pr_i (fun _ => ?_) (fun _ => ?_)
    ·
      exact pr_s h0
    ·
      refine pr_n (fun _ => ?_)
      refine pr_b (z_X12_tells h0 ) (fun σh6 h_1 => ?_)
      replace h_1 : kq σ0 σh6 := h_1
      refine pr_ln (fun x7 _ => ?_)
      exact ih h_1
theorem z_X12_tellsNumber_L2 {n : Nat} {σ0 : ms_T}  : ∀ (k2 : Nat) {σh1 : ms_T} {v1_h1 : Int32} {v2_h1 : Int32}, kq σ0 σh1 → pr (f_X12_tellsNumber_L2 n k2 σh1 v1_h1 v2_h1) (fun res => kq σ0 res) := by
  intro k2
  induction k2 with
  | zero => intro σh1 v1_h1 v2_h1 h0; rw [f_X12_tellsNumber_L2.eq_1]; exact pr_0
  | succ k2 ih =>
    intro σh1 v1_h1 v2_h1 h0
    rw [f_X12_tellsNumber_L2.eq_2]
    refine pr_n (fun _ => ?_)
    refine pr_i (fun _ => ?_) (fun _ => ?_)
    ·
      exact z_X12_tellsNumber_L18  _ h0
    ·
      refine pr_ln (fun x9 _ => ?_)
      exact ih h0
theorem z_X12_tellsNumber {n : Nat} {σ : ms_T} {a1 : Int32} {σ0 : ms_T} (h0 : kq σ0 σ)  : pr (f_X12_tellsNumber n σ a1) (fun res => kq σ0 res) := by
  unfold f_X12_tellsNumber
  exact z_X12_tellsNumber_L2  _ h0
theorem z_X12_says_L15 {n : Nat} {i1 : Nat} {σ0 : ms_T}  : ∀ (k15 : Nat) {σh2 : ms_T} {v2_h2 : Int32} {v3_h2 : Int32}, kq σ0 σh2 → pr (f_X12_says_L15 n i1 k15 σh2 v2_h2 v3_h2) (fun res => kq σ0 res) := by
  intro k15
  induction k15 with
  | zero => intro σh2 v2_h2 v3_h2 h0; rw [f_X12_says_L15.eq_1]; exact pr_0
  | succ k15 ih =>
    intro σh2 v2_h2 v3_h2 h0
    rw [f_X12_says_L15.eq_2]
    refine pr_i (fun _ => ?_) (fun _ => ?_)
    ·
      refine pr_b (z_X12_tells h0 ) (fun σh5 h_1 => ?_)
      replace h_1 : kq σ0 σh5 := h_1
      refine pr_b (z_X12_tellsNumber h_1 ) (fun σh6 h_2 => ?_)
      replace h_2 : kq σ0 σh6 := h_2
      exact pr_s h_2
    ·
      refine pr_q (fun _ _ => ?_)
      refine pr_b (z_X12_tells h0 ) (fun σh9 h_3 => ?_)
      replace h_3 : kq σ0 σh9 := h_3
      refine pr_ln (fun x10 _ => ?_)
      exact ih h_3
theorem z_X12_says_J13 {n : Nat} {i1 : Nat} {σh1 : ms_T} {v2_h1 : Int32} {σ0 : ms_T} (h0 : kq σ0 σh1)  : pr (f_X12_says_J13 n i1 σh1 v2_h1) (fun res => kq σ0 res) := by
  unfold f_X12_says_J13
  exact z_X12_says_L15  _ h0
theorem z_X12_says {n : Nat} {σ : ms_T} {i1 : Nat} {a2 : Int32} {σ0 : ms_T} (h0 : kq σ0 σ)  : pr (f_X12_says n σ i1 a2) (fun res => kq σ0 res) := by
  unfold f_X12_says
  refine pr_i (fun _ => ?_) (fun _ => ?_)
  ·
    exact z_X12_says_J13 h0 
  ·
    refine pr_b (z_X12_tells h0 ) (fun σh12 h_1 => ?_)
    replace h_1 : kq σ0 σh12 := h_1
    exact z_X12_says_J13 h_1 
theorem z_X12_tellsMarks_L25 {n : Nat} {σ0 : ms_T}  : ∀ (k25 : Nat) {σh5 : ms_T} {v2_h5 : Int32}, kq σ0 σh5 → pr (f_X12_tellsMarks_L25 n k25 σh5 v2_h5) (fun res => kq σ0 res.2) := by
  intro k25
  induction k25 with
  | zero => intro σh5 v2_h5 h0; rw [f_X12_tellsMarks_L25.eq_1]; exact pr_0
  | succ k25 ih =>
    intro σh5 v2_h5 h0
    rw [f_X12_tellsMarks_L25.eq_2]
    refine pr_i (fun _ => ?_) (fun _ => ?_)
    ·
      refine pr_b (z_X12_tells h0 ) (fun σh7 h_1 => ?_)
      replace h_1 : kq σ0 σh7 := h_1
      exact pr_s h_1
    ·
      refine pr_b (z_X12_tells h0 ) (fun σh8 h_2 => ?_)
      replace h_2 : kq σ0 σh8 := h_2
      refine pr_g (fun _ _ => ?_)
      refine pr_b (z_X12_tellsNumber h_2 ) (fun σh10 h_3 => ?_)
      replace h_3 : kq σ0 σh10 := h_3
      refine pr_ln (fun x11 _ => ?_)
      exact ih h_3
theorem z_X12_tellsMarks {n : Nat} {σ : ms_T} {a1 : Int32} {σ0 : ms_T} (h0 : kq σ0 σ)  : pr (f_X12_tellsMarks n σ a1) (fun res => kq σ0 res.2) := by
  unfold f_X12_tellsMarks
  refine pr_b (z_X12_fetches h0 ) (fun σh1 h_1 => ?_)
  replace h_1 : kq σ0 σh1 := h_1
  refine pr_b (z_X12_tells h_1 ) (fun σh2 h_2 => ?_)
  replace h_2 : kq σ0 σh2 := h_2
  refine pr_b (z_X12_tells h_2 ) (fun σh3 h_3 => ?_)
  replace h_3 : kq σ0 σh3 := h_3
  refine pr_b (z_X12_tells h_3 ) (fun σh4 h_4 => ?_)
  replace h_4 : kq σ0 σh4 := h_4
  exact z_X12_tellsMarks_L25  _ h_4
theorem z_X12_tell {n : Nat} {σ : ms_T} {a1 : Int32} {a2 : Int32} {a3 : Int32} {σ0 : ms_T} (h0 : kq σ0 σ)  : pr (f_X12_tell n σ a1 a2 a3) (fun res => kq σ0 res.2) := by
  unfold f_X12_tell
  refine pr_b pr_any (fun rh1 _ => ?_)
  refine pr_c (z_X12_is h0 ) (fun rh2 σh2 h_1 => ?_)
  replace h_1 : kq σ0 σh2 := h_1
  refine pr_i (fun _ => ?_) (fun _ => ?_)
  ·
    exact pr_s h_1
  ·
    refine pr_ln (fun σh4 e2 => ?_)
    have h_2 : kq σ0 σh4 := by rw [e2]; exact kq_sI rfl h_1
    refine pr_b (z_X12_says h_2 ) (fun σh5 h_3 => ?_)
    replace h_3 : kq σ0 σh5 := h_3
    refine pr_b (z_X12_says h_3 ) (fun σh6 h_4 => ?_)
    replace h_4 : kq σ0 σh6 := h_4
    refine pr_b pr_any (fun rh7 _ => ?_)
    refine pr_b (z_X12_says h_4 ) (fun σh8 h_5 => ?_)
    replace h_5 : kq σ0 σh8 := h_5
    refine pr_b pr_any (fun rh9 _ => ?_)
    refine pr_b (z_X12_says h_5 ) (fun σh10 h_6 => ?_)
    replace h_6 : kq σ0 σh10 := h_6
    refine pr_b (z_X12_inclusion h_6 ) (fun σh11 h_7 => ?_)
    replace h_7 : kq σ0 σh11 := h_7
    refine pr_c (z_X12_tellsMarks h_7 ) (fun rh12 σh12 h_8 => ?_)
    replace h_8 : kq σ0 σh12 := h_8
    exact pr_s h_8
theorem z_X12_tellGrowth_J20 {n : Nat} {σh1 : ms_T} {v1_h1 : Int32} {v2_h1 : Int32} {v3_h1 : Int32} {w0_h1 : Int32} {σ0 : ms_T} (h0 : kq σ0 σh1)  : pr (f_X12_tellGrowth_J20 n σh1 v1_h1 v2_h1 v3_h1 w0_h1) (fun res => kq σ0 res.2) := by
  unfold f_X12_tellGrowth_J20
  refine pr_c (z_X12_is h0 ) (fun rh2 σh2 h_1 => ?_)
  replace h_1 : kq σ0 σh2 := h_1
  refine pr_i (fun _ => ?_) (fun _ => ?_)
  ·
    exact pr_s h_1
  ·
    refine pr_ln (fun σh4 e2 => ?_)
    have h_2 : kq σ0 σh4 := by rw [e2]; exact kq_sI rfl h_1
    refine pr_b (z_X12_says h_2 ) (fun σh5 h_3 => ?_)
    replace h_3 : kq σ0 σh5 := h_3
    refine pr_b pr_any (fun rh6 _ => ?_)
    refine pr_b (z_X12_says h_3 ) (fun σh7 h_4 => ?_)
    replace h_4 : kq σ0 σh7 := h_4
    refine pr_b (z_X12_says h_4 ) (fun σh8 h_5 => ?_)
    replace h_5 : kq σ0 σh8 := h_5
    refine pr_b pr_any (fun rh9 _ => ?_)
    refine pr_b (z_X12_says h_5 ) (fun σh10 h_6 => ?_)
    replace h_6 : kq σ0 σh10 := h_6
    refine pr_b (z_X12_growth h_6 ) (fun σh11 h_7 => ?_)
    replace h_7 : kq σ0 σh11 := h_7
    refine pr_c (z_X12_tellsMarks h_7 ) (fun rh12 σh12 h_8 => ?_)
    replace h_8 : kq σ0 σh12 := h_8
    exact pr_s h_8
theorem z_X12_tellGrowth_J10 {n : Nat} {σh13 : ms_T} {v1_h13 : Int32} {v2_h13 : Int32} {v3_h13 : Int32} {σ0 : ms_T} (h0 : kq σ0 σh13)  : pr (f_X12_tellGrowth_J10 n σh13 v1_h13 v2_h13 v3_h13) (fun res => kq σ0 res.2) := by
  unfold f_X12_tellGrowth_J10
  exact z_X12_tellGrowth_J20 h0 
theorem z_X12_tellGrowth {n : Nat} {σ : ms_T} {a1 : Int32} {a2 : Int32} {a3 : Int32} {σ0 : ms_T} (h0 : kq σ0 σ)  : pr (f_X12_tellGrowth n σ a1 a2 a3) (fun res => kq σ0 res.2) := by
  unfold f_X12_tellGrowth
  refine pr_i (fun _ => ?_) (fun _ => ?_)
  ·
    exact z_X12_tellGrowth_J10 h0 
  ·
    refine pr_i (fun _ => ?_) (fun _ => ?_)
    ·
      refine pr_b pr_any (fun rh16 _ => ?_)
      exact z_X12_tellGrowth_J20 h0 
    ·
      exact z_X12_tellGrowth_J10 h0 
theorem z_X12_out_J22 {n : Nat} {σh1 : ms_T} {v1_h1 : Int32} {w0_h1 : Int32} {σ0 : ms_T} (h0 : kq σ0 σh1)  : pr (f_X12_out_J22 n σh1 v1_h1 w0_h1) (fun res => kq σ0 res.2) := by
  unfold f_X12_out_J22
  refine pr_c (z_X12_is h0 ) (fun rh2 σh2 h_1 => ?_)
  replace h_1 : kq σ0 σh2 := h_1
  refine pr_i (fun _ => ?_) (fun _ => ?_)
  ·
    exact pr_s h_1
  ·
    refine pr_g (fun _ _ => ?_)
    exact pr_s h_1
theorem z_X12_out {n : Nat} {σ : ms_T} {a1 : Int32} {σ0 : ms_T} (h0 : kq σ0 σ)  : pr (f_X12_out n σ a1) (fun res => kq σ0 res.2) := by
  unfold f_X12_out
  refine pr_i (fun _ => ?_) (fun _ => ?_)
  ·
    refine pr_i (fun _ => ?_) (fun _ => ?_)
    ·
      exact z_X12_out_J22 h0 
    ·
      exact z_X12_out_J22 h0 
  ·
    exact z_X12_out_J22 h0 
theorem z_X12_trusted_J65 {n : Nat} {rec31 : ms_T → Int32 → Int32 → Int32 → Int32 → Option (Int32 × ms_T)} {σh7 : ms_T} {v1_h7 : Int32} {v2_h7 : Int32} {v4_h7 : Int32} {w0_h7 : Int32} {w1_h7 : Int32} {σ0 : ms_T} (h0 : kq σ0 σh7) (hrec31 : ∀ {y0 : ms_T} {y1 : Int32} {y2 : Int32} {y3 : Int32} {y4 : Int32}, kq σ0 y0 → pr (rec31 y0 y1 y2 y3 y4) (fun res => kq σ0 res.2)) : pr (f_X12_trusted_J65 n rec31 σh7 v1_h7 v2_h7 v4_h7 w0_h7 w1_h7) (fun res => kq σ0 res.2) := by
  unfold f_X12_trusted_J65
  refine pr_ln (fun x8 _ => ?_)
  refine pr_ln (fun x9 _ => ?_)
  exact hrec31 h0
theorem z_X12_trusted_J64 {n : Nat} {rec31 : ms_T → Int32 → Int32 → Int32 → Int32 → Option (Int32 × ms_T)} {σh10 : ms_T} {v1_h10 : Int32} {v2_h10 : Int32} {v4_h10 : Int32} {w0_h10 : Int32} {σ0 : ms_T} (h0 : kq σ0 σh10) (hrec31 : ∀ {y0 : ms_T} {y1 : Int32} {y2 : Int32} {y3 : Int32} {y4 : Int32}, kq σ0 y0 → pr (rec31 y0 y1 y2 y3 y4) (fun res => kq σ0 res.2)) : pr (f_X12_trusted_J64 n rec31 σh10 v1_h10 v2_h10 v4_h10 w0_h10) (fun res => kq σ0 res.2) := by
  unfold f_X12_trusted_J64
  exact z_X12_trusted_J65 h0 (fun h => hrec31 h)
theorem z_X12_trusted_L31 {n : Nat} {σ0 : ms_T}  : ∀ (k31 : Nat) {σh4 : ms_T} {v1_h4 : Int32} {v2_h4 : Int32} {v3_h4 : Int32} {v4_h4 : Int32}, kq σ0 σh4 → pr (f_X12_trusted_L31 n k31 σh4 v1_h4 v2_h4 v3_h4 v4_h4) (fun res => kq σ0 res.2) := by
  intro k31
  induction k31 with
  | zero => intro σh4 v1_h4 v2_h4 v3_h4 v4_h4 h0; rw [f_X12_trusted_L31.eq_1]; exact pr_0
  | succ k31 ih =>
    intro σh4 v1_h4 v2_h4 v3_h4 v4_h4 h0
    rw [f_X12_trusted_L31.eq_2]
    refine pr_i (fun _ => ?_) (fun _ => ?_)
    ·
      exact pr_s h0
    ·
      refine pr_b pr_any (fun rh6 _ => ?_)
      refine pr_i (fun _ => ?_) (fun _ => ?_)
      ·
        refine pr_b pr_any (fun rh12 _ => ?_)
        refine pr_i (fun _ => ?_) (fun _ => ?_)
        ·
          exact z_X12_trusted_J65 h0 (fun h => ih h)
        ·
          exact z_X12_trusted_J64 h0 (fun h => ih h)
      ·
        exact z_X12_trusted_J64 h0 (fun h => ih h)
theorem z_X12_trusted_J18 {n : Nat} {σh1 : ms_T} {v1_h1 : Int32} {v2_h1 : Int32} {w0_h1 : Int32} {σ0 : ms_T} (h0 : kq σ0 σh1)  : pr (f_X12_trusted_J18 n σh1 v1_h1 v2_h1 w0_h1) (fun res => kq σ0 res.2) := by
  unfold f_X12_trusted_J18
  refine pr_c (z_X12_is h0 ) (fun rh2 σh2 h_1 => ?_)
  replace h_1 : kq σ0 σh2 := h_1
  refine pr_i (fun _ => ?_) (fun _ => ?_)
  ·
    exact pr_s h_1
  ·
    exact z_X12_trusted_L31  _ h_1
theorem z_X12_trusted_J13 {n : Nat} {σh14 : ms_T} {v1_h14 : Int32} {v2_h14 : Int32} {σ0 : ms_T} (h0 : kq σ0 σh14)  : pr (f_X12_trusted_J13 n σh14 v1_h14 v2_h14) (fun res => kq σ0 res.2) := by
  unfold f_X12_trusted_J13
  exact z_X12_trusted_J18 h0 
theorem z_X12_trusted {n : Nat} {σ : ms_T} {a1 : Int32} {a2 : Int32} {σ0 : ms_T} (h0 : kq σ0 σ)  : pr (f_X12_trusted n σ a1 a2) (fun res => kq σ0 res.2) := by
  unfold f_X12_trusted
  refine pr_i (fun _ => ?_) (fun _ => ?_)
  ·
    exact z_X12_trusted_J13 h0 
  ·
    refine pr_b pr_any (fun rh16 _ => ?_)
    refine pr_i (fun _ => ?_) (fun _ => ?_)
    ·
      exact z_X12_trusted_J13 h0 
    ·
      exact z_X12_trusted_J18 h0 
theorem z_X12_saves_J64 {n : Nat} {rec31 : ms_T → Int32 → Int32 → Int32 → Int32 → Option (Int32 × ms_T)} {σh7 : ms_T} {v1_h7 : Int32} {v2_h7 : Int32} {v3_h7 : Int32} {v4_h7 : Int32} {σ0 : ms_T} (h0 : kq σ0 σh7) (hrec31 : ∀ {y0 : ms_T} {y1 : Int32} {y2 : Int32} {y3 : Int32} {y4 : Int32}, kq σ0 y0 → pr (rec31 y0 y1 y2 y3 y4) (fun res => kq σ0 res.2)) : pr (f_X12_saves_J64 n rec31 σh7 v1_h7 v2_h7 v3_h7 v4_h7) (fun res => kq σ0 res.2) := by
  unfold f_X12_saves_J64
  refine pr_ln (fun x8 _ => ?_)
  exact hrec31 h0
theorem z_X12_saves_L31 {n : Nat} {σ0 : ms_T}  : ∀ (k31 : Nat) {σh4 : ms_T} {v1_h4 : Int32} {v2_h4 : Int32} {v3_h4 : Int32} {v4_h4 : Int32}, kq σ0 σh4 → pr (f_X12_saves_L31 n k31 σh4 v1_h4 v2_h4 v3_h4 v4_h4) (fun res => kq σ0 res.2) := by
  intro k31
  induction k31 with
  | zero => intro σh4 v1_h4 v2_h4 v3_h4 v4_h4 h0; rw [f_X12_saves_L31.eq_1]; exact pr_0
  | succ k31 ih =>
    intro σh4 v1_h4 v2_h4 v3_h4 v4_h4 h0
    rw [f_X12_saves_L31.eq_2]
    refine pr_i (fun _ => ?_) (fun _ => ?_)
    ·
      refine pr_b (z_X12_bundleOf h0 ) (fun σh6 h_1 => ?_)
      replace h_1 : kq σ0 σh6 := h_1
      exact pr_s h_1
    ·
      refine pr_i (fun _ => ?_) (fun _ => ?_)
      ·
        exact z_X12_saves_J64 h0 (fun h => ih h)
      ·
        refine pr_b (z_X12_inclusion h0 ) (fun σh10 h_2 => ?_)
        replace h_2 : kq σ0 σh10 := h_2
        refine pr_ln (fun x11 _ => ?_)
        exact z_X12_saves_J64 h_2 (fun h => ih h)
theorem z_X12_saves_J18 {n : Nat} {σh1 : ms_T} {v1_h1 : Int32} {v2_h1 : Int32} {w0_h1 : Int32} {σ0 : ms_T} (h0 : kq σ0 σh1)  : pr (f_X12_saves_J18 n σh1 v1_h1 v2_h1 w0_h1) (fun res => kq σ0 res.2) := by
  unfold f_X12_saves_J18
  refine pr_c (z_X12_is h0 ) (fun rh2 σh2 h_1 => ?_)
  replace h_1 : kq σ0 σh2 := h_1
  refine pr_i (fun _ => ?_) (fun _ => ?_)
  ·
    exact pr_s h_1
  ·
    exact z_X12_saves_L31  _ h_1
theorem z_X12_saves_J13 {n : Nat} {σh12 : ms_T} {v1_h12 : Int32} {v2_h12 : Int32} {σ0 : ms_T} (h0 : kq σ0 σh12)  : pr (f_X12_saves_J13 n σh12 v1_h12 v2_h12) (fun res => kq σ0 res.2) := by
  unfold f_X12_saves_J13
  exact z_X12_saves_J18 h0 
theorem z_X12_saves {n : Nat} {σ : ms_T} {a1 : Int32} {a2 : Int32} {σ0 : ms_T} (h0 : kq σ0 σ)  : pr (f_X12_saves n σ a1 a2) (fun res => kq σ0 res.2) := by
  unfold f_X12_saves
  refine pr_i (fun _ => ?_) (fun _ => ?_)
  ·
    exact z_X12_saves_J13 h0 
  ·
    refine pr_b pr_any (fun rh14 _ => ?_)
    refine pr_i (fun _ => ?_) (fun _ => ?_)
    ·
      exact z_X12_saves_J18 h0 
    ·
      exact z_X12_saves_J13 h0 
theorem z_X12_who_J62 {n : Nat} {rec31 : ms_T → Int32 → Int32 → Int32 → Int32 → Option (Int32 × ms_T)} {σh8 : ms_T} {v1_h8 : Int32} {v2_h8 : Int32} {v4_h8 : Int32} {w0_h8 : Int32} {w1_h8 : Int32} {σ0 : ms_T} (h0 : kq σ0 σh8) (hrec31 : ∀ {y0 : ms_T} {y1 : Int32} {y2 : Int32} {y3 : Int32} {y4 : Int32}, kq σ0 y0 → pr (rec31 y0 y1 y2 y3 y4) (fun res => kq σ0 res.2)) : pr (f_X12_who_J62 n rec31 σh8 v1_h8 v2_h8 v4_h8 w0_h8 w1_h8) (fun res => kq σ0 res.2) := by
  unfold f_X12_who_J62
  refine pr_ln (fun x9 _ => ?_)
  refine pr_ln (fun x10 _ => ?_)
  exact hrec31 h0
theorem z_X12_who_L31 {n : Nat} {σ0 : ms_T}  : ∀ (k31 : Nat) {σh4 : ms_T} {v1_h4 : Int32} {v2_h4 : Int32} {v3_h4 : Int32} {v4_h4 : Int32}, kq σ0 σh4 → pr (f_X12_who_L31 n k31 σh4 v1_h4 v2_h4 v3_h4 v4_h4) (fun res => kq σ0 res.2) := by
  intro k31
  induction k31 with
  | zero => intro σh4 v1_h4 v2_h4 v3_h4 v4_h4 h0; rw [f_X12_who_L31.eq_1]; exact pr_0
  | succ k31 ih =>
    intro σh4 v1_h4 v2_h4 v3_h4 v4_h4 h0
    rw [f_X12_who_L31.eq_2]
    refine pr_g (fun _ _ => ?_)
    refine pr_i (fun _ => ?_) (fun _ => ?_)
    ·
      exact pr_s h0
    ·
      refine pr_b pr_any (fun rh7 _ => ?_)
      refine pr_i (fun _ => ?_) (fun _ => ?_)
      ·
        exact z_X12_who_J62 h0 (fun h => ih h)
      ·
        exact z_X12_who_J62 h0 (fun h => ih h)
theorem z_X12_who_J18 {n : Nat} {σh1 : ms_T} {v1_h1 : Int32} {v2_h1 : Int32} {w0_h1 : Int32} {σ0 : ms_T} (h0 : kq σ0 σh1)  : pr (f_X12_who_J18 n σh1 v1_h1 v2_h1 w0_h1) (fun res => kq σ0 res.2) := by
  unfold f_X12_who_J18
  refine pr_c (z_X12_is h0 ) (fun rh2 σh2 h_1 => ?_)
  replace h_1 : kq σ0 σh2 := h_1
  refine pr_i (fun _ => ?_) (fun _ => ?_)
  ·
    exact pr_s h_1
  ·
    exact z_X12_who_L31  _ h_1
theorem z_X12_who_J13 {n : Nat} {σh12 : ms_T} {v1_h12 : Int32} {v2_h12 : Int32} {σ0 : ms_T} (h0 : kq σ0 σh12)  : pr (f_X12_who_J13 n σh12 v1_h12 v2_h12) (fun res => kq σ0 res.2) := by
  unfold f_X12_who_J13
  exact z_X12_who_J18 h0 
theorem z_X12_who {n : Nat} {σ : ms_T} {a1 : Int32} {a2 : Int32} {σ0 : ms_T} (h0 : kq σ0 σ)  : pr (f_X12_who n σ a1 a2) (fun res => kq σ0 res.2) := by
  unfold f_X12_who
  refine pr_i (fun _ => ?_) (fun _ => ?_)
  ·
    exact z_X12_who_J13 h0 
  ·
    refine pr_b pr_any (fun rh14 _ => ?_)
    refine pr_i (fun _ => ?_) (fun _ => ?_)
    ·
      exact z_X12_who_J13 h0 
    ·
      exact z_X12_who_J18 h0 
/-! ===== what calls that write the pad leave of the reference's cells ===== -/
def kpd (σ τ : ms_T) : Prop := ms_I τ 664 = ms_I σ 664 ∧ (∀ κ, (κ == 45 || κ == 47) = true → ∀ j, ms_E τ κ j = ms_E σ κ j) ∧ ∀ j : Nat, j ≠ 2 → (j < 8 ∨ 8 + (ms_E τ 40 2).toInt ≤ (j : Int)) → ms_E τ 40 j = ms_E σ 40 j
theorem kq_45 {κ : Nat} (h : (κ == 45 || κ == 47) = true) : (κ == 40 || κ == 45 || κ == 47) = true := by rw [Bool.or_assoc, h, Bool.or_true]
theorem kpd_kq {σ τ : ms_T} (h : kq σ τ) : kpd σ τ := ⟨h.1 664 rfl, fun κ hκ j => h.2 κ (kq_45 hκ) j, fun j _ _ => h.2 40 rfl j⟩
theorem kpd_l {σ τ υ : ms_T} (h : kpd τ υ) (e1 : ms_I τ 664 = ms_I σ 664) (e2 : ∀ κ, (κ == 45 || κ == 47) = true → ∀ j, ms_E τ κ j = ms_E σ κ j) (e3 : ∀ j, j ≠ 2 → ms_E τ 40 j = ms_E σ 40 j) : kpd σ υ :=
  ⟨h.1.trans e1, fun κ hκ j => (h.2.1 κ hκ j).trans (e2 κ hκ j), fun j h2 hj => (h.2.2 j h2 hj).trans (e3 j h2)⟩
theorem kpd_lq {σ τ υ : ms_T} (h : kpd τ υ) (g : kq σ τ) : kpd σ υ := kpd_l h (g.1 664 rfl) (fun κ hκ j => g.2 κ (kq_45 hκ) j) (fun j _ => g.2 40 rfl j)
theorem n40_45 {κ : Nat} (h : (κ == 45 || κ == 47) = true) : κ ≠ 40 := fun e => by rw [e] at h; cases h
theorem zp_pads_L {n : Nat} {σ0 : ms_T} : ∀ (k : Nat) (σ : ms_T) (v : Nat) (vI : Int32), vI.toInt = (v : Int) → ms_I σ 657 = ms_I σ0 657 → ms_I σ 664 = ms_I σ0 664 → (∀ κ, (κ == 45 || κ == 47) = true → ∀ j, ms_E σ κ j = ms_E σ0 κ j) → (∀ j : Nat, (j < 8 ∨ 8 + v ≤ j) → ms_E σ 40 j = ms_E σ0 40 j) → (v = 0 ∨ (v : Int) ≤ (ms_I σ0 657).toInt) → pr (f_X12_pads_L7 n k σ vI) (fun res => kpd σ0 res.2) := by
  intro k
  induction k with
  | zero => intro σ v vI _ _ _ _ _ _; rw [f_X12_pads_L7.eq_1]; exact pr_0
  | succ k ih =>
    intro σ v vI hv h7 h4 hE hc hv0
    rw [f_X12_pads_L7.eq_2, c2]
    refine pr_le (fun e => pr_g (fun _ _ => pr_l (pr_s ⟨h4, fun κ hκ j => ?_, fun j h2 hj => ?_⟩))) (fun e => pr_g (fun g0 g1 => pr_g (fun _ _ => pr_l (pr_l ?_))))
    · show ms_E (ms_sE σ 40 2 _) κ j = _
      rw [mE_sE, if_neg (fun q => n40_45 hκ q.1)]
      exact hE κ hκ j
    · have q : ms_E (ms_sE σ 40 2 (ms_I σ 657)) 40 2 = ms_I σ 657 := by rw [mE_sE, if_pos ⟨rfl, rfl⟩]
      replace hj : j < 8 ∨ 8 + (ms_E (ms_sE σ 40 2 (ms_I σ 657)) 40 2).toInt ≤ (j : Int) := hj
      rw [q, h7] at hj
      show ms_E (ms_sE σ 40 2 _) 40 j = _
      rw [mE_sE, if_neg (fun q => h2 q.2)]
      exact hc j (by omega)
    · have ec : ((8 : Int32) + vI).toNatClampNeg = 8 + v := cl_n (by rw [iw_add, t_8]; omega)
      have e1 : (vI + 1).toInt = ((v + 1 : Nat) : Int) := by rw [iw_add, lt1]; omega
      rw [ec]
      refine ih _ (v + 1) _ e1 h7 h4 (fun κ hκ j => ?_) (fun j hj => ?_) (Or.inr (by rw [h7] at e; omega))
      · rw [mE_sE, if_neg (fun q => n40_45 hκ q.1)]; exact hE κ hκ j
      · rw [mE_sE, if_neg (fun q => by omega)]; exact hc j (by omega)
theorem zp_pads {n : Nat} {σ : ms_T} {a1 : Int32} : pr (f_X12_pads n σ a1) (fun res => kpd σ res.2) := by
  unfold f_X12_pads
  refine pr_b (z_X12_fetches kq_rf) (fun τ hτ => ?_)
  exact pr_m (zp_pads_L n τ 0 0 rfl rfl rfl (fun _ _ _ => rfl) (fun _ _ => rfl) (Or.inl rfl)) (fun res hr => kpd_lq hr hτ)
theorem zc_include (n : Nat) (σ : ms_T) (a b c : Int32) : pr (f_X12_include n σ a b c) (fun res => kpd σ res.2) := by
  unfold f_X12_include
  refine pr_b pr_any (fun _ _ => pr_c (z_X12_is kq_rf) (fun _ τ hτ => pr_i (fun _ => pr_s (kpd_kq hτ)) (fun _ => pr_b (z_X12_inclusion hτ) (fun υ hυ => pr_c zp_pads (fun _ ξ hξ => pr_s (kpd_lq hξ hυ))))))
theorem zc_grow (n : Nat) (σ : ms_T) (a b c : Int32) : pr (f_X12_grow n σ a b c) (fun res => kpd σ res.2) := by
  have hJ : ∀ w, pr (f_X12_grow_J20 n σ a b c w) (fun res => kpd σ res.2) := by
    intro w
    unfold f_X12_grow_J20
    exact pr_c (z_X12_is kq_rf) (fun _ τ hτ => pr_i (fun _ => pr_s (kpd_kq hτ)) (fun _ => pr_b (z_X12_growth hτ) (fun υ hυ => pr_c zp_pads (fun _ ξ hξ => pr_s (kpd_lq hξ hυ)))))
  unfold f_X12_grow f_X12_grow_J10
  exact pr_i (fun _ => hJ _) (fun _ => pr_i (fun _ => pr_b pr_any (fun _ _ => hJ _)) (fun _ => hJ _))
theorem zc_bundle (n : Nat) (σ : ms_T) (a b c : Int32) : pr (f_X12_bundle n σ a b c) (fun res => kpd σ res.2) := by
  have hJ : ∀ w, pr (f_X12_bundle_J19 n σ a b c w) (fun res => kpd σ res.2) := by
    intro w
    unfold f_X12_bundle_J19
    exact pr_c (z_X12_is kq_rf) (fun _ τ hτ => pr_i (fun _ => pr_s (kpd_kq hτ)) (fun _ => pr_b pr_any (fun _ _ => pr_i (fun _ => pr_b (z_X12_bundleOf hτ) (fun υ hυ => pr_c zp_pads (fun _ ξ hξ => pr_s (kpd_lq hξ hυ)))) (fun _ => pr_c (z_X12_refuse hτ) (fun _ υ hυ => pr_s (kpd_kq hυ))))))
  unfold f_X12_bundle f_X12_bundle_J9
  exact pr_i (fun _ => hJ _) (fun _ => pr_i (fun _ => pr_b pr_any (fun _ _ => hJ _)) (fun _ => hJ _))
theorem zc_peaks (n : Nat) (σ : ms_T) (a b : Int32) : pr (f_X12_peaks n σ a b) (fun res => kpd σ res.2) := by
  unfold f_X12_peaks
  refine pr_b pr_any (fun _ _ => pr_c (z_X12_is kq_rf) (fun _ τ hτ => pr_i (fun _ => pr_s (kpd_kq hτ)) (fun _ => pr_b (z_X12_peaksOf hτ) (fun υ hυ => pr_c zp_pads (fun _ ξ hξ => pr_s (kpd_lq hξ hυ))))))
theorem zc_cut (n : Nat) (σ : ms_T) (a : Int32) : pr (f_X12_cut n σ a) (fun res => kpd σ res.2) := by
  have hJ : ∀ w, pr (f_X12_cut_J24 n σ a w) (fun res => kpd σ res.2) := by
    intro w
    unfold f_X12_cut_J24
    rw [c2]
    refine pr_c (z_X12_is kq_rf) (fun _ τ hτ => pr_i (fun _ => pr_s (kpd_kq hτ)) (fun _ => pr_g (fun _ _ => pr_l (pr_s (kpd_lq (τ := τ) ⟨rfl, fun κ hκ j => ?_, fun j h2 _ => ?_⟩ hτ)))))
    · show ms_E (ms_sE τ 40 2 a) κ j = _
      rw [mE_sE, if_neg (fun q => n40_45 hκ q.1)]
    · show ms_E (ms_sE τ 40 2 a) 40 j = _
      rw [mE_sE, if_neg (fun q => h2 q.2)]
  unfold f_X12_cut
  exact pr_i (fun _ => pr_g (fun _ _ => pr_i (fun _ => hJ _) (fun _ => hJ _))) (fun _ => hJ _)
theorem zc_push (n : Nat) (σ : ms_T) (hC : rC (ms_E σ 40)) (a : Int32) : pr (f_X12_push n σ a) (fun res => kpd σ res.2) := by
  have hJ : ∀ w, pr (f_X12_push_J29 n σ a w) (fun res => kpd σ res.2) := by
    intro w
    unfold f_X12_push_J29
    rw [c2]
    refine pr_c (z_X12_is kq_rf) (fun _ τ hτ => pr_i (fun _ => pr_s (kpd_kq hτ)) (fun _ => pr_g (fun _ _ => pr_g (fun _ _ => pr_l (pr_g (fun _ _ => pr_g (fun _ _ => pr_l (pr_g (fun _ _ => pr_s ?_)))))))))
    replace hτ : kq σ τ := hτ
    have h2 : 0 ≤ (ms_E τ 40 2).toInt ∧ (ms_E τ 40 2).toInt ≤ 64 := by rw [hτ.2 40 rfl 2]; exact hC.2.2.1
    have ec : ((8 : Int32) + ms_E τ 40 2).toNatClampNeg = 8 + (ms_E τ 40 2).toInt.toNat := cl_n (by rw [iw_add, t_8]; omega)
    have e1 : (ms_E τ 40 2 + 1).toInt = (ms_E τ 40 2).toInt + 1 := by rw [iw_add, lt1]; omega
    rw [ec]
    have q2 : ms_E (ms_sE τ 40 (8 + (ms_E τ 40 2).toInt.toNat) a) 40 2 = ms_E τ 40 2 := by rw [mE_sE, if_neg (fun q => by omega)]
    rw [q2]
    refine kpd_lq (τ := τ) ⟨rfl, fun κ hκ j => ?_, fun j h3 hj => ?_⟩ hτ
    · show ms_E (ms_sE (ms_sE τ 40 _ a) 40 2 _) κ j = _
      rw [mE_sE, if_neg (fun q => n40_45 hκ q.1), mE_sE, if_neg (fun q => n40_45 hκ q.1)]
    · replace hj : j < 8 ∨ 8 + (ms_E (ms_sE (ms_sE τ 40 (8 + (ms_E τ 40 2).toInt.toNat) a) 40 2 (ms_E τ 40 2 + 1)) 40 2).toInt ≤ (j : Int) := hj
      rw [mE_sE, if_pos ⟨rfl, rfl⟩, e1] at hj
      show ms_E (ms_sE (ms_sE τ 40 _ a) 40 2 _) 40 j = _
      rw [mE_sE, if_neg (fun q => h3 q.2), mE_sE, if_neg (fun q => by omega)]
  unfold f_X12_push
  exact pr_b pr_any (fun _ _ => pr_i (fun _ => hJ _) (fun _ => pr_g (fun _ _ => pr_i (fun _ => hJ _) (fun _ => hJ _))))
theorem zc_poke (n : Nat) (σ : ms_T) (hC : rC (ms_E σ 40)) (a b : Int32) : pr (f_X12_poke n σ a b) (fun res => kpd σ res.2) := by
  have hz : ∀ w, ¬ w = 0 → pr (f_X12_poke_J32 n σ a b w) (fun res => kpd σ res.2) := by
    intro w hw
    unfold f_X12_poke_J32
    exact v_is1 n σ w hw (pr_s (kpd_kq (kq_sI rfl (kq_sI rfl kq_rf))))
  unfold f_X12_poke f_X12_poke_J13
  refine pr_lt (fun _ => hz _ (by decide)) (fun h0 => pr_b pr_any (fun _ _ => pr_i (fun _ => hz _ (by decide)) (fun _ => pr_g (fun _ _ => ?_))))
  rw [c2]
  refine pr_lt (fun h1 => ?_) (fun _ => hz _ (by decide))
  unfold f_X12_poke_J32
  refine v_is0 n σ (pr_g (fun g0 g1 => pr_l (pr_g (fun _ _ => pr_l (pr_s ?_)))))
  rw [lt0] at h0
  have h2 := hC.2.2.1
  have ec : ((8 : Int32) + a).toNatClampNeg = 8 + a.toInt.toNat := cl_n (by rw [iw_add, t_8]; omega)
  rw [ec]
  refine ⟨rfl, fun κ hκ j => ?_, fun j h3 hj => ?_⟩
  · show ms_E (ms_sE (ms_sI (ms_sI σ 653 0) 652 0) 40 _ b) κ j = _
    rw [mE_sE, if_neg (fun q => n40_45 hκ q.1)]; rfl
  · replace hj : j < 8 ∨ 8 + (ms_E (ms_sE (ms_sI (ms_sI σ 653 0) 652 0) 40 (8 + a.toInt.toNat) b) 40 2).toInt ≤ (j : Int) := hj
    rw [mE_sE, if_neg (fun q => by omega)] at hj
    replace hj : j < 8 ∨ 8 + (ms_E σ 40 2).toInt ≤ (j : Int) := hj
    show ms_E (ms_sE (ms_sI (ms_sI σ 653 0) 652 0) 40 _ b) 40 j = _
    rw [mE_sE, if_neg (fun q => by omega)]; rfl
theorem zc_extend_L (n : Nat) (A P : Nat) (hA : A < 1048576) (hP : P = bc A) (hP63 : P ≤ 63) : ∀ (k t : Nat) (τ : ms_T) (x v : Int32), RI τ → (ms_E τ 40 2).toInt = (P : Int) - t → A % 2 ^ t = 2 ^ t - 1 → v.toInt = ((A / 2 ^ t : Nat) : Int) → t ≤ 20 → pr (f_X12_extend_L55 n k τ x v) (fun res => kpd τ res.2) := by
  intro k
  induction k with
  | zero => intro t τ x v hR hc hm hv ht; rw [f_X12_extend_L55.eq_1]; exact pr_0
  | succ k ih =>
    intro t τ x v hR hc hm hv ht
    rw [f_X12_extend_L55.eq_2, c2]
    have h64 := hR.2.2.2.1
    have hv0 : 0 ≤ v.toInt := by
      generalize A / 2 ^ t = Q at hv
      omega
    have hrem : (v - v / 2 * 2).toInt = v.toInt % 2 := by rw [ii_rem (x := v) (y := 2) hv0 (by decide), t_2]
    have l1 := lt1
    refine pr_i (fun e => ?_) (fun e => ?_)
    · have e' : (v - v / 2 * 2).toInt = 1 := by rw [e, lt1]
      have ho : A / 2 ^ t % 2 = 1 := by omega
      have hp := Nat.one_le_two_pow (n := t)
      have ht2 : t + 1 ≤ 20 := by
        rcases Nat.lt_or_ge t 20 with q | q
        · omega
        · have e20 : t = 20 := by omega
          rw [e20, Nat.div_eq_of_lt (by omega)] at ho
          omega
      have hm2 : A % 2 ^ (t + 1) = 2 ^ (t + 1) - 1 := by
        rw [Nat.pow_succ, Nat.mod_mul, hm, ho]
        omega
      have hle := bc_t A (t + 1) hA ht2 hm2
      rw [← hP] at hle
      have e1 : (ms_E τ 40 2 - 1).toInt = (P : Int) - t - 1 := by rw [iw_sub, lt1]; omega
      have ed : (v / 2).toInt = ((A / 2 ^ (t + 1) : Nat) : Int) := by
        rw [ii_div hv0 (by decide), t_2, hv, Nat.pow_succ, ← Nat.div_div_eq_div_mul]
        generalize A / 2 ^ t = Q
        omega
      refine pr_g (fun _ _ => pr_g (fun _ _ => pr_ln (fun σ1 hs => pr_g (fun _ _ => pr_g (fun _ _ => pr_b pr_any (fun y _ => pr_l ?_))))))
      have hR1 : RI σ1 := by rw [hs]; exact RI_sE hR ⟨fun _ => by omega, fun _ => by omega, fun _ => by omega, fun _ => by omega, fun _ _ _ => by omega, fun _ _ _ => by omega, fun _ _ _ => by omega, fun _ _ _ => by omega, fun _ _ _ => by omega⟩
      have ez : ms_E σ1 40 2 = ms_E τ 40 2 - 1 := by rw [hs, mE_sE, if_pos ⟨rfl, rfl⟩]
      refine pr_m (ih (t + 1) σ1 y (v / 2) hR1 (by rw [ez, e1]; omega) hm2 ed ht2) (fun q hq => kpd_l hq (by rw [hs]; rfl) (fun κ hκ j => ?_) (fun j hj => ?_))
      · rw [hs, mE_sE, if_neg (fun q => n40_45 hκ q.1)]
      · rw [hs, mE_sE, if_neg (fun q => hj q.2)]
    · have e8 : ((8 : Int32) + ms_E τ 40 2).toInt = 8 + (ms_E τ 40 2).toInt := by rw [iw_add, t_8]; omega
      have e1 : (ms_E τ 40 2 + 1).toInt = (ms_E τ 40 2).toInt + 1 := by rw [iw_add, lt1]; omega
      have ec := cl_n (i := (8 : Int32) + ms_E τ 40 2) (k := 8 + (ms_E τ 40 2).toInt.toNat) (by omega)
      refine pr_g (fun _ _ => pr_g (fun _ _ => pr_l (pr_g (fun _ _ => pr_g (fun _ _ => pr_l (pr_g (fun _ _ => pr_s ?_)))))))
      rw [ec]
      have q2 : ms_E (ms_sE τ 40 (8 + (ms_E τ 40 2).toInt.toNat) x) 40 2 = ms_E τ 40 2 := by rw [mE_sE, if_neg (fun q => by omega)]
      rw [q2]
      refine ⟨rfl, fun κ hκ j => ?_, fun j h3 hj => ?_⟩
      · show ms_E (ms_sE (ms_sE τ 40 _ x) 40 2 _) κ j = _
        rw [mE_sE, if_neg (fun q => n40_45 hκ q.1), mE_sE, if_neg (fun q => n40_45 hκ q.1)]
      · replace hj : j < 8 ∨ 8 + (ms_E (ms_sE (ms_sE τ 40 (8 + (ms_E τ 40 2).toInt.toNat) x) 40 2 (ms_E τ 40 2 + 1)) 40 2).toInt ≤ (j : Int) := hj
        rw [mE_sE, if_pos ⟨rfl, rfl⟩, e1] at hj
        show ms_E (ms_sE (ms_sE τ 40 _ x) 40 2 _) 40 j = _
        rw [mE_sE, if_neg (fun q => h3 q.2), mE_sE, if_neg (fun q => by omega)]
theorem zc_extend (n : Nat) (hn : 70000 ≤ n) (σ : ms_T) (hR : RI σ) (a1 a2 : Int32) : pr (f_X12_extend n σ a1 a2) (fun res => kpd σ res.2) := by
  have L := lits
  have tm := t_mil
  have hC := hR.2
  have hJ : ∀ w : Int32, (w = 0 → 0 ≤ a1.toInt ∧ a1.toInt ≤ 1000000 ∧ (ms_E σ 40 2).toInt = (bc a1.toInt.toNat : Int) ∧ bc a1.toInt.toNat ≤ 63) → pr (f_X12_extend_J42 n σ a1 a2 w) (fun res => kpd σ res.2) := by
    intro w hw
    unfold f_X12_extend_J42
    by_cases e : w = 0
    · obtain ⟨q1, q2, q3, q4⟩ := hw e
      subst e
      refine v_is0 n σ ?_
      have hR2 : RI (ms_sI (ms_sI σ 653 0) 652 0) := hR
      exact pr_m (zc_extend_L n a1.toInt.toNat _ (by omega) rfl q4 n 0 _ a2 a1 hR2 (by show (ms_E σ 40 2).toInt = _; omega) (by rw [Nat.pow_zero, Nat.mod_one]) (by rw [Nat.pow_zero, Nat.div_one]; omega) (by omega)) (fun res hr => kpd_lq hr (kq_sI rfl (kq_sI rfl kq_rf)))
    · exact v_is1 n σ w e (pr_s (kpd_kq (kq_sI rfl (kq_sI rfl kq_rf))))
  unfold f_X12_extend f_X12_extend_J20
  rw [c2]
  refine pr_bo (pr_w (s_isIn n _ _ _)) (fun _ => hJ _ (fun h => absurd h (by decide))) (fun q => pr_bo (pr_w (s_isMark hC _)) (fun _ => hJ _ (fun h => absurd h (by decide))) (fun _ => ?_))
  obtain ⟨r, er, hr⟩ := s_bitCount2 n a1 (by omega) (by omega)
  obtain ⟨r', er', hr'⟩ := s_bitCount n a1
  rw [er] at er'
  cases er'
  refine pr_b (T := fun x => x = r) (fun x hx => by rw [er] at hx; cases hx; rfl) (fun x hx => ?_)
  subst hx
  refine pr_g (fun _ _ => pr_i (fun e => hJ _ (fun _ => ⟨by omega, by omega, by rw [← e]; omega, by omega⟩)) (fun _ => hJ _ (fun h => absurd h (by decide))))
end JN10_2
section JN10_3
set_option maxRecDepth 100000
/-! ===== type: what it leaves, on both sides ===== -/
def ty_L (a b : Int32) : Nat → Int32 → List Int32
  | 0, _ => []
  | m + 1, v => if ty_l a b v = 0 then [] else ty_l a b v :: ty_L a b m (v + 1)
theorem ty_l31 (a b v : Int32) : (ty_l a b v).toInt < 32 := by
  unfold ty_l
  split
  · exact (and31 _).2
  · exact (and31 _).2
/-- letters handed so far -/
def LT46 (τ : ms_T) (l : List Int32) : Prop := ∀ j, j < l.length → some (ms_E τ 46 j) = l[j]?
def k4 (σ τ : ms_T) : Prop := ∀ κ, (κ == 40 || κ == 47) = true → ∀ j, ms_E τ κ j = ms_E σ κ j
theorem k4_sI {σ τ : ms_T} {φ : Nat} {v : Int32} (h : k4 σ τ) : k4 σ (ms_sI τ φ v) := h
theorem k4_sE {σ τ : ms_T} {κ i : Nat} {v : Int32} (hκ : (κ == 40 || κ == 47) = false) (h : k4 σ τ) : k4 σ (ms_sE τ κ i v) := fun ψ hψ j => by
  rw [mE_sE, if_neg (fun e => by rw [e.1, hκ] at hψ; cases hψ)]
  exact h ψ hψ j
theorem kq_k4 {σ τ : ms_T} (h : kq σ τ) : k4 σ τ := fun κ hκ j => h.2 κ (by
  have : κ = 40 ∨ κ = 47 := by simpa using hκ
  rcases this with rfl | rfl <;> rfl) j
def TPo (σ : ms_T) (L : List Int32) (res : Int32 × ms_T) : Prop := (res.1 = -1 ∧ kq σ res.2) ∨ (¬ res.1 = -1 ∧ TYS res.2 L ∧ k4 σ res.2)
theorem v_tyC (n : Nat) (σ : ms_T) (l : List Int32) (mI : Int32) (hl : l.length ≤ 8) (hm : mI.toInt = (l.length : Int)) : ∀ (k : Nat) (τ : ms_T) (v : Nat) (vI : Int32), vI.toInt = (v : Int) → LT46 τ l → k4 σ τ → (∀ j, j < v → j < l.length → some (ms_E τ 45 j) = l[j]?) → pr (f_X12_type_L102 n k τ mI vI) (fun res => TPo σ l res) := by
  intro k
  induction k with
  | zero => intro τ v vI _ _ _ _; rw [f_X12_type_L102.eq_1]; exact pr_0
  | succ k ih =>
    intro τ v vI hv hL h4 hc
    rw [f_X12_type_L102.eq_2]
    refine pr_le (fun e => pr_l (pr_s (Or.inr ⟨fun q => ?_, ⟨hl, ?_, fun j hj => ?_⟩, k4_sI h4⟩))) (fun e => pr_g (fun g0 g1 => pr_g (fun _ _ => pr_l (pr_l ?_))))
    · have q2 : mI = -1 := q
      rw [q2] at hm
      have : ((-1 : Int32)).toInt = -1 := by decide
      omega
    · show (ms_I (ms_sI τ 664 mI) 664).toInt = _
      rw [mI_sI, if_pos rfl]; exact hm
    · show some (ms_E (ms_sI τ 664 mI) 45 j) = _
      exact hc j (by omega) hj
    · rw [cl_n hv]
      have e1 : (vI + 1).toInt = ((v + 1 : Nat) : Int) := by rw [iw_add, lt1]; omega
      refine ih _ (v + 1) _ e1 (fun j hj => ?_) (k4_sE rfl h4) (fun j hj hj2 => ?_)
      · rw [mE_sE, if_neg (fun q => absurd q.1 (by decide))]; exact hL j hj
      · rw [mE_sE]
        by_cases e : j = v
        · rw [if_pos ⟨rfl, e⟩, ← e]; exact hL j hj2
        · rw [if_neg (fun q => e q.2)]; exact hc j (by omega) hj2
theorem v_tyL (n : Nat) (σ : ms_T) (a b : Int32) : ∀ (k : Nat) (τ : ms_T) (l : List Int32) (x y v : Int32), x.toInt = (l.length : Int) → l.length ≤ 8 → LT46 τ l → kq σ τ → (y = 0 ∨ (y = 1 ∧ v = x)) → pr (f_X12_type_L13 n k τ a b x y v) (fun res => TPo σ (if y = 0 then l else l ++ ty_L a b (8 - l.length) v) res) := by
  intro k
  induction k with
  | zero => intro τ l x y v _ _ _ _ _; rw [f_X12_type_L13.eq_1]; exact pr_0
  | succ k ih =>
    intro τ l x y v hx hl hL hq hy
    have L := lits
    rw [f_X12_type_L13.eq_2]
    have h9 : pr (f_X12_type_J99 n τ x) (fun res => TPo σ l res) := by
      unfold f_X12_type_J99
      exact v_tyC n σ l x hl hx n τ 0 0 rfl hL (kq_k4 hq) (fun j hj => by omega)
    rcases hy with hy | ⟨hy, hvx⟩
    · refine pr_m (P := fun res => TPo σ l res) ?_ (fun r h => by rw [if_pos hy]; exact h)
      exact pr_le (fun _ => h9) (fun _ => pr_i (fun _ => h9) (fun e => absurd hy e))
    · subst hy; subst hvx
      refine pr_m (P := fun res => TPo σ (l ++ ty_L a b (8 - l.length) v) res) ?_ (fun r h => by rw [if_neg (by decide)]; exact h)
      refine pr_le (fun h8 => ?_) (fun h8 => pr_i (fun e => absurd e (by decide)) (fun _ => ?_))
      · rw [show 8 - l.length = 0 by omega, ty_L, List.append_nil]
        exact h9
      · have hlt : l.length < 8 := by omega
        have hq8 : 8 - l.length = (8 - (l.length + 1)) + 1 := by omega
        have hJ : ∀ w, (((w).toUInt32 >>> ((((5 : Int32) * (v - v / (6 : Int32) * (6 : Int32)))).toUInt32 &&& Int32.toUInt32 31)).toInt32 &&& (31 : Int32)) = ty_l a b v → pr (f_X12_type_J37 n (f_X12_type_L13 n k) τ a b v v w) (fun res => TPo σ (l ++ ty_L a b (8 - l.length) v) res) := by
          intro w hw
          unfold f_X12_type_J37
          rw [hw]
          have h0 := ty_l0 a b v
          have hw8 : ∀ u : Int32, LT46 (ms_sE τ 46 v.toNatClampNeg u) l := fun u j hj => by
            rw [cl_n hx, mE_sE, if_neg (fun q => by omega)]; exact hL j hj
          refine pr_l (pr_le (fun h26 => pr_le (fun hz => ?_) (fun hz => ?_)) (fun h26 => pr_s (Or.inl ⟨rfl, hq⟩)))
          · have hz2 : ty_l a b v = 0 := Int32.toInt_inj.mp (by rw [lt0]; omega)
            unfold f_X12_type_J69 f_X12_type_J91
            refine pr_g (fun _ _ => pr_l (pr_i (fun _ => pr_l (pr_l ?_)) (fun e => absurd rfl e)))
            have := ih (ms_sE τ 46 v.toNatClampNeg (ty_l a b v)) l (v + 0) 0 (v + 1) (by rw [iw_add, lt0]; omega) hl (hw8 _) (kq_sE rfl hq) (Or.inl rfl)
            rw [if_pos rfl] at this
            rw [hq8, ty_L, if_pos hz2, List.append_nil]
            exact this
          · have hz2 : ¬ ty_l a b v = 0 := fun e => by rw [e, lt0] at hz; omega
            unfold f_X12_type_J69 f_X12_type_J91
            refine pr_g (fun _ _ => pr_l (pr_i (fun e => absurd e (by decide)) (fun _ => pr_l (pr_l ?_))))
            have e1 : (v + 1).toInt = ((l ++ [ty_l a b v]).length : Int) := by rw [iw_add, lt1, List.length_append]; simp; omega
            have := ih (ms_sE τ 46 v.toNatClampNeg (ty_l a b v)) (l ++ [ty_l a b v]) (v + 1) 1 (v + 1) e1 (by rw [List.length_append]; simp; omega) (fun j hj => ?_) (kq_sE rfl hq) (Or.inr ⟨rfl, rfl⟩)
            · rw [if_neg (by decide), List.length_append, List.append_assoc] at this
              rw [hq8, ty_L, if_neg hz2]
              exact this
            · rw [List.length_append] at hj
              simp only [List.length_cons, List.length_nil] at hj
              by_cases e : j < l.length
              · rw [hw8 _ j e, List.getElem?_append_left e]
              · have ej : j = l.length := by omega
                rw [cl_n hx, mE_sE, if_pos ⟨rfl, ej⟩, ej, List.getElem?_append_right (Nat.le_refl _), Nat.sub_self]
                rfl
        refine pr_le (fun h6 => hJ _ ?_) (fun h6 => hJ _ ?_)
        · rw [ty_v v (by omega) (by omega), if_pos (Int32.le_iff_toInt_le.mpr h6)]
          unfold ty_l
          rw [if_pos (Int32.le_iff_toInt_le.mpr h6)]
        · have h7 : ¬ (6 : Int32) ≤ v := fun e => by have := il_le e; omega
          rw [ty_v v (by omega) (by omega), if_neg h7]
          unfold ty_l
          rw [if_neg h7]
theorem v_type2 (n : Nat) (σ : ms_T) (a b : Int32) : pr (f_X12_type n σ a b) (fun res => TPo σ (ty_L a b 8 0) res) := by
  unfold f_X12_type
  have := v_tyL n σ a b n (ms_sI σ 653 0) [] 0 1 0 rfl (by simp) (fun j hj => absurd hj (by simp)) (kq_sI rfl kq_rf) (Or.inr ⟨rfl, rfl⟩)
  rw [if_neg (by decide), List.nil_append] at this
  exact pr_l this
def CPo (uw x : Nat) (α : hp_T) (L : List Int32) (res : Int32 × hp_T) : Prop := (res.1 = -1 ∧ df uw α res.2) ∨ (¬ res.1 = -1 ∧ ∃ γ, df uw α γ ∧ WD γ uw L ∧ res.2 = hp_sR (hp_sR γ 606 x uw) 607 x (hp_R γ 606 x))
theorem k_tyL (n : Nat) (x uw : Nat) (a b : Int32) (α0 : hp_T) (hu : hp_R α0 607 x = uw) : ∀ (k : Nat) (α : hp_T) (l : List Int32) (v : Int32), df uw α0 α → WD α uw l → v.toInt = (l.length : Int) → 9 - l.length ≤ k → ws (f_X11_type_L9 n x k α a b v) (fun res => CPo uw x α0 (l ++ ty_L a b (8 - l.length) v) res) := by
  intro k
  induction k with
  | zero => intro α l v hd hW hv hk; have := hW.1; omega
  | succ k ih =>
    intro α l v hd hW hv hk
    have L := lits
    have hl := hW.1
    have hu2 : hp_R α 607 x = uw := by rw [hd.1]; exact hu
    rw [f_X11_type_L9.eq_2]
    have h7 : ws (f_X11_type_J77 n x α) (fun res => CPo uw x α0 l res) := by
      unfold f_X11_type_J77
      refine ws_l (ws_l (ws_l (ws_l (ws_l (ws_l (ws_s (Or.inr ⟨fun q => ?_, α, hd, hW, ?_⟩)))))))
      · rw [hu2] at q
        have q2 : hp_I α 501 (hp_R (hp_sR (hp_sR α 606 x uw) 607 x (hp_R α 606 x)) 606 x) = -1 := q
        rw [hR_sR, if_neg (fun h => absurd h.1 (by decide)), hR_sR, if_pos ⟨rfl, rfl⟩] at q2
        have h5 := hW.2.1
        rw [q2] at h5
        have : ((-1 : Int32)).toInt = -1 := by decide
        omega
      · rw [hu2]
    refine ws_le (fun h8 => ?_) (fun h8 => ?_)
    · rw [show 8 - l.length = 0 by omega, ty_L, List.append_nil]
      exact h7
    · have hq8 : 8 - l.length = (8 - (l.length + 1)) + 1 := by omega
      have hJ : ∀ w, w = ty_l a b v → ws (f_X11_type_J43 n x (f_X11_type_L9 n x k) α a b v w) (fun res => CPo uw x α0 (l ++ ty_L a b (8 - l.length) v) res) := by
        intro w hw
        subst hw
        unfold f_X11_type_J43
        rw [hq8, ty_L]
        refine ws_i (fun hz => ?_) (fun hz => ?_)
        · rw [if_pos hz, List.append_nil]; exact h7
        · rw [if_neg hz]
          refine ws_i (fun h26 => ?_) (fun h26 => ws_s (Or.inl ⟨rfl, hd⟩))
          have h26' := il_le h26
          refine ws_l ?_
          rw [hu2]
          refine ws_b (k_wput n hW (by omega) _ (ty_l0 a b v) (by have := ty_l31 a b v; omega)) (fun β hβ => ws_l ?_)
          have e1 : (v + 1).toInt = ((l ++ [ty_l a b v]).length : Int) := by rw [iw_add, lt1, List.length_append]; simp; omega
          have := ih β (l ++ [ty_l a b v]) (v + 1) (df_tr hd hβ.2) hβ.1 e1 (by rw [List.length_append]; simp; omega)
          rw [List.length_append, List.append_assoc] at this
          exact this
      refine ws_le (fun h6 => hJ _ ?_) (fun h6 => hJ _ ?_)
      · unfold ty_l
        rw [if_pos (Int32.le_iff_toInt_le.mpr h6)]
      · unfold ty_l
        rw [if_neg (fun e => by have := il_le e; omega)]
theorem k_type2 (n : Nat) (hn : 70000 ≤ n) (α : hp_T) (x : Nat) (a b : Int32) : ws (f_X11_type n α x a b) (fun res => CPo (hp_R α 607 x) x α (ty_L a b 8 0) res) := by
  unfold f_X11_type
  refine ws_l (ws_b (k_wclear n α (hp_R α 607 x)) (fun β hβ => ?_))
  have := k_tyL n x (hp_R α 607 x) a b α rfl n β [] 0 hβ.2 hβ.1 rfl (by simp; omega)
  rw [List.nil_append] at this
  exact this
end JN10_3
section JN10_4
set_option maxRecDepth 100000
/-! ===== LX: what the law's loop keeps of both sides (without rows of marks) ===== -/
def okR (φ : Nat) : Bool := [551, 553, 555, 557, 558, 559, 300, 450, 451, 452, 150, 151, 500, 104, 601, 602, 603, 604, 606, 607, 616, 200, 207].contains φ
def okI (φ : Nat) : Bool := [550, 552, 554, 556, 152, 501, 100, 101, 102, 103, 400, 401, 402, 403].contains φ
def WZ (α : hp_T) (w : Nat) (f : Nat → Int32) : Prop := SHW α w ∧ (hp_I α 550 w = f 1 ∧ hp_I α 552 w = f 0 ∧ hp_I α 554 w = f 3 ∧ hp_I α 556 w = f 4) ∧ (∀ r, r < (f 0).toInt.toNat → hp_I α 152 (lpA w r) = f (72 + r) ∧ ∀ i, i < (f (72 + r)).toInt.toNat → EN α w f r i) ∧ (∀ i, i < (f 3).toInt.toNat → FZN α w f i) ∧ ∀ i, i < 4 → WTN α w f i
theorem WR_Z {α : hp_T} {w : Nat} {f : Nat → Int32} (g : GC α) (h : WZ α w f) : WR α w f := ⟨h.1, h.2.1, h.2.2.1, h.2.2.2.1, h.2.2.2.2, fun i _ => g.1 301 _ rfl⟩
theorem WZ_R {α : hp_T} {w : Nat} {f : Nat → Int32} (h : WR α w f) : WZ α w f := ⟨h.1, h.2.1, h.2.2.1, h.2.2.2.1, h.2.2.2.2.1⟩
def RWZ (α : hp_T) (x : Nat) (f : Nat → Int32) : Prop := ∃ w u, hp_R α 601 x = w ∧ hp_R α 602 x = u ∧ ((w = x + 1 ∧ u = x + 460) ∨ (w = x + 460 ∧ u = x + 1)) ∧ WZ α w f ∧ SHW α u
theorem RWX_Z {α : hp_T} {x : Nat} {f : Nat → Int32} (g : GC α) (h : RWZ α x f) : RWX α x f := by
  obtain ⟨w, u, h1, h2, h3, h4, h5⟩ := h
  exact ⟨w, u, h1, h2, h3, WR_Z g h4, g.1 301 _ rfl, h5, g.1 301 _ rfl, fun i _ => g.1 301 _ rfl⟩
theorem RWZ_X {α : hp_T} {x : Nat} {f : Nat → Int32} (h : RWX α x f) : RWZ α x f := by
  obtain ⟨w, u, h1, h2, h3, h4, -, h6, -, -⟩ := h
  exact ⟨w, u, h1, h2, h3, WZ_R h4, h6⟩
theorem SHW_z {α β : hp_T} {w : Nat} (h : SHW α w) (eR : ∀ φ b, w ≤ b → b < w + 459 → okR φ = true → hp_R β φ b = hp_R α φ b) (eQ : ∀ κ b j, w ≤ b → b < w + 459 → hp_Q β κ b j = hp_Q α κ b j) : SHW β w := by
  obtain ⟨a1, a2, a3, a4, a5, a6, a7, a8, a9, a10, ⟨a11, a12, a13⟩, a14, a15⟩ := h
  refine ⟨?_, ?_, ?_, ?_, ?_, ?_, fun r hr => ?_, fun r hr => ?_, fun r hr => ?_, ?_, ⟨?_, ?_, ?_⟩, fun r hr => ?_, fun i hi => ?_⟩
  · rw [eR 551 _ (by omega) (by omega) rfl]; exact a1
  · rw [eR 553 _ (by omega) (by omega) rfl]; exact a2
  · rw [eR 555 _ (by omega) (by omega) rfl]; exact a3
  · rw [eR 557 _ (by omega) (by omega) rfl]; exact a4
  · rw [eR 558 _ (by omega) (by omega) rfl]; exact a5
  · rw [eR 559 _ (by omega) (by omega) rfl]; exact a6
  · rw [eQ 30 _ r (by omega) (by omega)]; exact a7 r hr
  · rw [eQ 31 _ r (by omega) (by omega)]; exact a8 r hr
  · rw [eQ 32 _ r (by omega) (by omega)]; exact a9 r hr
  · rw [eR 300 _ (by omega) (by omega) rfl]; exact a10
  · rw [eR 450 _ (by omega) (by omega) rfl]; exact a11
  · rw [eR 451 _ (by omega) (by omega) rfl]; exact a12
  · rw [eR 452 _ (by omega) (by omega) rfl]; exact a13
  · obtain ⟨b1, b2, b3⟩ := a14 r hr
    refine ⟨?_, ?_, fun i hi => ⟨?_, ?_⟩⟩
    · rw [eR 150 _ (by unfold lpA; omega) (by unfold lpA; omega) rfl]; exact b1
    · rw [eR 151 _ (by unfold lpA; omega) (by unfold lpA; omega) rfl]; exact b2
    · rw [eQ 28 _ i (by unfold lpA; omega) (by unfold lpA; omega)]; exact (b3 i hi).1
    · rw [eR 500 _ (by unfold wdA; omega) (by unfold wdA; omega) rfl]; exact (b3 i hi).2
  · refine ⟨?_, ?_⟩
    · rw [eR 104 _ (by unfold fzA; omega) (by unfold fzA; omega) rfl]; exact (a15 i hi).1
    · rw [eR 300 _ (by unfold fzA; omega) (by unfold fzA; omega) rfl]; exact (a15 i hi).2
theorem WZ_z {α β : hp_T} {w : Nat} {f : Nat → Int32} (h : WZ α w f) (hC : rC f) (eR : ∀ φ b, w ≤ b → b < w + 459 → okR φ = true → hp_R β φ b = hp_R α φ b) (eQ : ∀ κ b j, w ≤ b → b < w + 459 → hp_Q β κ b j = hp_Q α κ b j) (eI : ∀ φ b, w ≤ b → b < w + 459 → okI φ = true → hp_I β φ b = hp_I α φ b) (eE : ∀ κ b j, w ≤ b → b < w + 459 → κ = 27 ∨ κ = 29 → hp_E β κ b j = hp_E α κ b j) : WZ β w f := by
  have h4 := hC.1.2
  have h16 := hC.2.2.2.1.2
  obtain ⟨h1, h2, h3, hF, hW⟩ := h
  refine ⟨SHW_z h1 eR eQ, ⟨?_, ?_, ?_, ?_⟩, fun r hr => ?_, fun i hi => ?_, fun i hi => ?_⟩
  · rw [eI 550 w (by omega) (by omega) rfl]; exact h2.1
  · rw [eI 552 w (by omega) (by omega) rfl]; exact h2.2.1
  · rw [eI 554 w (by omega) (by omega) rfl]; exact h2.2.2.1
  · rw [eI 556 w (by omega) (by omega) rfl]; exact h2.2.2.2
  · obtain ⟨a1, a2⟩ := h3 r hr
    have hs := hC.2.2.2.2.1 r (by omega)
    refine ⟨by rw [eI 152 _ (by unfold lpA; omega) (by unfold lpA; omega) rfl]; exact a1, fun i hi => ?_⟩
    obtain ⟨⟨b1, b2, b3, b4⟩, b5⟩ := a2 i hi
    have hsh := (h1.2.2.2.2.2.2.2.2.2.2.2.1 r (by omega)).2.2 i (by omega)
    refine ⟨⟨b1, by rw [eI 501 _ (by unfold wdA; omega) (by unfold wdA; omega) rfl]; exact b2, fun k hk => ?_, b4⟩, ?_⟩
    · rw [eR 500 _ (by unfold wdA; omega) (by unfold wdA; omega) rfl, hsh.2, eE 27 _ k (by unfold wdA; omega) (by unfold wdA; omega) (Or.inl rfl), ← hsh.2]; exact b3 k hk
    · rw [eE 29 _ i (by unfold lpA; omega) (by unfold lpA; omega) (Or.inr rfl)]; exact b5
  · obtain ⟨b1, b2, b3, b4, b5, b6⟩ := hF i hi
    refine ⟨?_, ?_, ?_, ?_, fun p => absurd p (fun q => q), fun k hk p => absurd p (fun q => q)⟩
    · rw [eI 100 _ (by unfold fzA; omega) (by unfold fzA; omega) rfl]; exact b1
    · rw [eI 101 _ (by unfold fzA; omega) (by unfold fzA; omega) rfl]; exact b2
    · rw [eI 102 _ (by unfold fzA; omega) (by unfold fzA; omega) rfl]; exact b3
    · rw [eI 103 _ (by unfold fzA; omega) (by unfold fzA; omega) rfl]; exact b4
  · obtain ⟨b1, b2, b3, b4⟩ := hW i hi
    refine ⟨?_, ?_, ?_, ?_⟩
    · rw [eI 400 _ (by unfold wtA; omega) (by unfold wtA; omega) rfl]; exact b1
    · rw [eI 401 _ (by unfold wtA; omega) (by unfold wtA; omega) rfl]; exact b2
    · rw [eI 403 _ (by unfold wtA; omega) (by unfold wtA; omega) rfl]; exact b3
    · rw [eI 402 _ (by unfold wtA; omega) (by unfold wtA; omega) rfl]; exact b4
/-- cells that are alike but for the pad -/
def cel (f g : Nat → Int32) : Prop := ∀ j, j ≠ 2 → (j < 8 ∨ 72 ≤ j) → j < 1980 → g j = f j
theorem WZ_g {α : hp_T} {w : Nat} {f g : Nat → Int32} (h : WZ α w f) (hC : rC f) (e : cel f g) : WZ α w g := by
  have h4 := hC.1.2
  have h16 := hC.2.2.2.1.2
  obtain ⟨h1, h2, h3, hF, hW⟩ := h
  have e0 := e 0 (by omega) (by omega) (by omega)
  have e3 := e 3 (by omega) (by omega) (by omega)
  refine ⟨h1, by rw [e 1 (by omega) (by omega) (by omega), e0, e3, e 4 (by omega) (by omega) (by omega)]; exact h2, fun r hr => ?_, fun i hi => ?_, fun i hi => ?_⟩
  · rw [e0] at hr
    obtain ⟨a1, a2⟩ := h3 r hr
    have hs := hC.2.2.2.2.1 r (by omega)
    rw [e (72 + r) (by omega) (by omega) (by omega)]
    refine ⟨a1, fun i hi => ?_⟩
    have hq := hC.2.2.2.2.2.2.2.2 (48 * r + i) (by omega)
    obtain ⟨b1, b2⟩ := a2 i hi
    have k1 := e (252 + (48 * r + i)) (by omega) (by omega) (by omega)
    have k2 : ∀ k, k < (f (252 + (48 * r + i))).toInt.toNat → g (444 + 8 * (48 * r + i) + k) = f (444 + 8 * (48 * r + i) + k) := fun k hk => e _ (by omega) (by omega) (by omega)
    exact ⟨by rw [ltr_c k1 k2]; exact b1, by rw [EM_c (e 1 (by omega) (by omega) (by omega)) k1 k2]; exact b2⟩
  · rw [e3] at hi
    obtain ⟨b1, b2, b3, b4, b5, b6⟩ := hF i hi
    exact ⟨by rw [e (92 + 10 * i) (by omega) (by omega) (by omega)]; exact b1, by rw [e (93 + 10 * i) (by omega) (by omega) (by omega)]; exact b2, by rw [e (94 + 10 * i) (by omega) (by omega) (by omega)]; exact b3, by rw [e (95 + 10 * i) (by omega) (by omega) (by omega)]; exact b4, fun p => absurd p (fun q => q), fun k hk p => absurd p (fun q => q)⟩
  · obtain ⟨b1, b2, b3, b4⟩ := hW i hi
    exact ⟨by rw [e (76 + 4 * i) (by omega) (by omega) (by omega)]; exact b1, by rw [e (77 + 4 * i) (by omega) (by omega) (by omega)]; exact b2, by rw [e (78 + 4 * i) (by omega) (by omega) (by omega)]; exact b3, by rw [e (79 + 4 * i) (by omega) (by omega) (by omega)]; exact b4⟩
def TYX (α : hp_T) (x : Nat) (σ : ms_T) : Prop := ∃ l, TYS σ l ∧ TYC α x l
def LX (α : hp_T) (x : Nat) (σ : ms_T) : Prop := rC (ms_E σ 40) ∧ XSH α x ∧ RWZ α x (ms_E σ 40) ∧ AL01 (ms_E σ 40) ∧ TPX α x σ ∧ TYX α x σ
/-- where what is kept lies -/
def inX (x b : Nat) : Prop := (x ≤ b ∧ b < x + 926) ∨ b = x + 944 ∨ b = x + 953
/-- what a change of the picture must leave -/
def keR (x : Nat) (α β : hp_T) : Prop := ∀ φ b, inX x b → okR φ = true → hp_R β φ b = hp_R α φ b
theorem XSH_f {α β : hp_T} {x : Nat} (h : XSH α x) (eR : keR x α β) (eK : hp_K β (x + 921) = hp_K α (x + 921)) : XSH β x := by
  obtain ⟨z1, z2, z3, z4, z5, z6, z7, z8⟩ := h
  refine ⟨?_, ?_, ?_, by rw [eK]; exact z4, ?_, ?_, ?_, ?_⟩
  · rw [eR 603 _ (by unfold inX; omega) rfl]; exact z1
  · rw [eR 300 _ (by unfold inX; omega) rfl]; exact z2
  · rw [eR 604 _ (by unfold inX; omega) rfl]; exact z3
  · rw [eR 616 _ (by unfold inX; omega) rfl]; exact z5
  · rw [eR 200 _ (by unfold inX; omega) rfl]; exact z6
  · rw [eR 207 _ (by unfold inX; omega) rfl]; exact z7
  · rw [eR 500 _ (by unfold inX; omega) rfl]; exact z8
theorem TYC_f {α β : hp_T} {x : Nat} {l : List Int32} (h : TYC α x l) (eR : keR x α β) (eI : ∀ b, x + 922 ≤ b → b < x + 926 → hp_I β 501 b = hp_I α 501 b) (eE : ∀ b j, x + 922 ≤ b → b < x + 926 → hp_E β 27 b j = hp_E α 27 b j) : TYC β x l := by
  obtain ⟨h1, h2, h3, h4⟩ := h
  have e6 := eR 606 x (by unfold inX; omega) rfl
  have e7 := eR 607 x (by unfold inX; omega) rfl
  have e8 := eR 500 (x + 922) (by unfold inX; omega) rfl
  have e9 := eR 500 (x + 924) (by unfold inX; omega) rfl
  refine ⟨by rw [e6, e7]; exact h1, e8.trans h2, e9.trans h3, ?_⟩
  rw [e6]
  obtain ⟨b1, b2, b3, b4⟩ := h4
  have ht : hp_R α 606 x = x + 922 ∨ hp_R α 606 x = x + 924 := by rcases h1 with q | q; exact Or.inl q.1; exact Or.inr q.1
  have hE : hp_R β 500 (hp_R α 606 x) = hp_R α 500 (hp_R α 606 x) ∧ x + 922 ≤ hp_R α 500 (hp_R α 606 x) ∧ hp_R α 500 (hp_R α 606 x) < x + 926 := by
    rcases ht with q | q
    · rw [q, e8, h2]; omega
    · rw [q, e9, h3]; omega
  refine ⟨b1, by rw [eI _ (by omega) (by omega)]; exact b2, fun k hk => ?_, b4⟩
  rw [hE.1, eE _ _ hE.2.1 hE.2.2]; exact b3 k hk
theorem RWZ_f {α β : hp_T} {x : Nat} {f g : Nat → Int32} (h : RWZ α x f) (hC : rC f) (eR : keR x α β) (eQ : ∀ κ b j, inX x b → hp_Q β κ b j = hp_Q α κ b j) (eI : ∀ φ b, inX x b → okI φ = true → hp_I β φ b = hp_I α φ b) (eE : ∀ κ b j, inX x b → κ = 27 ∨ κ = 29 → hp_E β κ b j = hp_E α κ b j) (e : cel f g) : RWZ β x g := by
  obtain ⟨w, u, h1, h2, h3, h4, h5⟩ := h
  refine ⟨w, u, by rw [eR 601 _ (by unfold inX; omega) rfl]; exact h1, by rw [eR 602 _ (by unfold inX; omega) rfl]; exact h2, h3, ?_, ?_⟩
  · exact WZ_g (WZ_z h4 hC (fun φ b p q r => eR φ b (by unfold inX; omega) r) (fun κ b j p q => eQ κ b j (by unfold inX; omega)) (fun φ b p q r => eI φ b (by unfold inX; omega) r) (fun κ b j p q r => eE κ b j (by unfold inX; omega) r)) hC e
  · exact SHW_z h5 (fun φ b p q r => eR φ b (by unfold inX; omega) r) (fun κ b j p q => eQ κ b j (by unfold inX; omega))
theorem TYS_e {σ τ : ms_T} {l : List Int32} (h : TYS σ l) (e1 : ms_I τ 664 = ms_I σ 664) (e2 : ∀ j, ms_E τ 45 j = ms_E σ 45 j) : TYS τ l := ⟨h.1, by rw [e1]; exact h.2.1, fun k hk => by rw [e2]; exact h.2.2 k hk⟩
theorem TPX_e {α : hp_T} {x : Nat} {σ τ : ms_T} (h : TPX α x σ) (e1 : ms_I τ 667 = ms_I σ 667) (e2 : ∀ j, ms_E τ 47 j = ms_E σ 47 j) : TPX α x τ := ⟨by rw [e1]; exact h.1, fun j hj => by rw [e2]; rw [e1] at hj; exact h.2 j hj⟩
theorem LX_p {α β : hp_T} {x : Nat} {σ : ms_T} (h : LX α x σ) (eR : keR x α β) (eQ : ∀ κ b j, inX x b → hp_Q β κ b j = hp_Q α κ b j) (eI : ∀ φ b, inX x b → okI φ = true ∨ φ = 605 → hp_I β φ b = hp_I α φ b) (eE : ∀ κ b j, inX x b → κ = 27 ∨ κ = 29 ∨ κ = 24 → hp_E β κ b j = hp_E α κ b j) (eK : hp_K β (x + 921) = hp_K α (x + 921)) : LX β x σ := by
  obtain ⟨h0, h1, h2, h3, ⟨t1, t2⟩, l, h5, h6⟩ := h
  refine ⟨h0, XSH_f h1 eR eK, RWZ_f h2 h0 eR eQ (fun φ b p r => eI φ b p (Or.inl r)) (fun κ b j p r => eE κ b j p (by omega)) (fun _ _ _ _ => rfl), h3, ⟨?_, fun j hj => ?_⟩, l, h5, TYC_f h6 eR (fun b p q => eI 501 b (by unfold inX; omega) (Or.inl rfl)) (fun b j p q => eE 27 b j (by unfold inX; omega) (Or.inl rfl))⟩
  · rw [eI 605 x (by unfold inX; omega) (Or.inr rfl)]; exact t1
  · rw [eE 24 _ j (by unfold inX; omega) (Or.inr (Or.inr rfl))]; exact t2 j hj
theorem AL_cel {f g : Nat → Int32} (hC : rC f) (h : AL01 f) (e : cel f g) : AL01 g := AL_eq hC h (e 0 (by omega) (by omega) (by omega)) (e 3 (by omega) (by omega) (by omega)) (fun j _ _ => e j (by omega) (by omega) (by omega))
theorem LX_s {α : hp_T} {x : Nat} {σ τ : ms_T} (h : LX α x σ) (e : cel (ms_E σ 40) (ms_E τ 40)) (hC : rC (ms_E τ 40)) (e4 : ms_I τ 664 = ms_I σ 664) (e7 : ms_I τ 667 = ms_I σ 667) (e45 : ∀ j, ms_E τ 45 j = ms_E σ 45 j) (e47 : ∀ j, ms_E τ 47 j = ms_E σ 47 j) : LX α x τ := by
  obtain ⟨h0, h1, h2, h3, h4, l, h5, h6⟩ := h
  exact ⟨hC, h1, RWZ_f h2 h0 (fun _ _ _ _ => rfl) (fun _ _ _ _ => rfl) (fun _ _ _ _ => rfl) (fun _ _ _ _ _ => rfl) e, AL_cel h0 h3 e, TPX_e h4 e7 e47, l, TYS_e h5 e4 e45, h6⟩
theorem cel_kq {σ τ : ms_T} (h : kq σ τ) : cel (ms_E σ 40) (ms_E τ 40) := fun j _ _ _ => h.2 40 rfl j
theorem cel_kpd {σ τ : ms_T} (h : kpd σ τ) (hC : rC (ms_E τ 40)) : cel (ms_E σ 40) (ms_E τ 40) := fun j h2 h8 _ => h.2.2 j h2 (by have := hC.2.2.1; omega)
/-- lists of a call that leaves it all -/
def wlx (w : cw_W) : Bool := w.1.all (fun φ => !(okI φ) && !(φ == 605)) && w.2.1.all (fun φ => !(okR φ)) && w.2.2.1.all (fun κ => !(κ == 27) && !(κ == 29) && !(κ == 24))
theorem wlx_I {w : cw_W} (h : wlx w = true) {φ : Nat} (hφ : okI φ = true ∨ φ = 605) : φ ∉ w.1 := fun q => by
  simp only [wlx, Bool.and_eq_true, List.all_eq_true] at h
  have := h.1.1 φ q
  rcases hφ with e | e
  · rw [e] at this; simp at this
  · rw [e] at this; simp at this
theorem wlx_R {w : cw_W} (h : wlx w = true) {φ : Nat} (hφ : okR φ = true) : φ ∉ w.2.1 := fun q => by
  simp only [wlx, Bool.and_eq_true, List.all_eq_true] at h
  have := h.1.2 φ q
  rw [hφ] at this; simp at this
theorem wlx_E {w : cw_W} (h : wlx w = true) {κ : Nat} (hκ : κ = 27 ∨ κ = 29 ∨ κ = 24) : κ ∉ w.2.2.1 := fun q => by
  simp only [wlx, Bool.and_eq_true, List.all_eq_true] at h
  have := h.2 κ q
  rcases hκ with e | e | e <;> rw [e] at this <;> simp at this
theorem LX_cw {w : cw_W} {α β : hp_T} {x : Nat} {σ : ms_T} (h : LX α x σ) (c : cw w α β) (hw : wlx w = true) : LX β x σ := by
  obtain ⟨c0, c1, c2, c3, c4, c5, c6, c7, c8⟩ := c
  exact LX_p h (fun φ b _ r => by rw [c6 φ (wlx_R hw r)]) (fun κ b j _ => by rw [c3]) (fun φ b _ r => by rw [c5 φ (wlx_I hw r)]) (fun κ b j _ r => by rw [c7 κ (wlx_E hw r)]) (by rw [c1])
theorem LX_mo {α β : hp_T} {x : Nat} {σ : ms_T} (h : LX α x σ) (c : mo α β) : LX β x σ := by
  obtain ⟨c1, c2, c3, c4, c5, c6, c7⟩ := c
  refine LX_p h (fun φ b _ r => by rw [c2]) (fun κ b j _ => by rw [c4]) (fun φ b _ r => ?_) (fun κ b j _ r => ?_) (by rw [c1])
  · rw [c6 φ ?_]
    rcases r with r | r
    · simp only [okI, List.contains_cons, List.contains_nil, Bool.or_false, Bool.or_eq_true, beq_iff_eq] at r
      omega
    · omega
  · rw [c7 κ (by omega)]
end JN10_4
section JN10_5
set_option maxRecDepth 100000
/-! ===== kinds of what is kept; a change that makes things ===== -/
theorem gkr {α : hp_T} {φ a : Nat} (g : GC α) (hk : hp_K α a = φ / 50) (hr : gc_rk φ ≠ 0) (h3 : φ ≠ 350) : hp_K α (hp_R α φ a) = gc_rk φ := by
  rcases g.2.1 φ a hk hr with q | q
  · exact q
  · exact absurd q.1 h3
theorem gkR {α : hp_T} {φ a b κ : Nat} (g : GC α) (hk : hp_K α a = φ / 50) (e : hp_R α φ a = b) (hr : gc_rk φ = κ) (h0 : κ ≠ 0) (h3 : φ ≠ 350) : hp_K α b = κ := by
  rw [← e, ← hr]
  exact gkr g hk (by rw [hr]; exact h0) h3
theorem gkQ {α : hp_T} {κ a j b μ : Nat} (g : GC α) (hk : hp_K α a = κ) (e : hp_Q α κ a j = some b) (hr : gc_qk κ = μ) (h0 : μ ≠ 0) : hp_K α b = μ := by
  rw [← hr]
  exact g.2.2.2 κ a j b hk (by rw [hr]; exact h0) e
theorem adr {w b : Nat} (h0 : w ≤ b) (h1 : b < w + 459) : (b = w ∨ b = w + 1 ∨ b = w + 2 ∨ b = w + 3 ∨ b = w + 4 ∨ b = w + 5 ∨ b = w + 6 ∨ b = w + 7 ∨ b = w + 8 ∨ b = w + 9 ∨ b = w + 10) ∨ (∃ r, r < 4 ∧ (b = lpA w r ∨ b = lpA w r + 1 ∨ b = lpA w r + 2 ∨ ∃ i, i < 48 ∧ (b = wdA w r i ∨ b = wdA w r i + 1))) ∨ (∃ i, i < 16 ∧ (b = fzA w i ∨ b = fzA w i + 1 ∨ b = fzA w i + 2)) ∨ ∃ i, i < 4 ∧ b = wtA w i := by
  by_cases c1 : b < w + 11
  · left; omega
  · by_cases c2 : b < w + 407
    · right; left
      refine ⟨(b - w - 11) / 99, by omega, ?_⟩
      unfold lpA wdA
      by_cases d1 : (b - w - 11) % 99 < 3
      · omega
      · right; right; right
        exact ⟨((b - w - 11) % 99 - 3) / 2, by omega, by omega⟩
    · by_cases c3 : b < w + 455
      · right; right; left
        exact ⟨(b - w - 407) / 3, by omega, by unfold fzA; omega⟩
      · right; right; right
        exact ⟨b - w - 455, by omega, by unfold wtA; omega⟩
theorem nz {k κ : Nat} (h : k = κ) (h0 : κ ≠ 0) : k ≠ 0 := by rw [h]; exact h0
theorem SHK {α : hp_T} {w : Nat} (g : GC α) (hk : hp_K α w = 11) (h : SHW α w) : ∀ b, w ≤ b → b < w + 459 → hp_K α b ≠ 0 := by
  obtain ⟨a1, a2, a3, a4, a5, a6, a7, a8, a9, a10, ⟨a11, a12, a13⟩, a14, a15⟩ := h
  have k1 : hp_K α (w + 1) = 30 := gkR g hk a1 rfl (by decide) (by decide)
  have k2 : hp_K α (w + 2) = 31 := gkR g hk a2 rfl (by decide) (by decide)
  have k3 : hp_K α (w + 3) = 32 := gkR g hk a3 rfl (by decide) (by decide)
  have k5 : hp_K α (w + 5) = 6 := gkR g hk a5 rfl (by decide) (by decide)
  have k7 : hp_K α (w + 7) = 9 := gkR g hk a6 rfl (by decide) (by decide)
  intro b h0 h1
  rcases adr h0 h1 with (e | e | e | e | e | e | e | e | e | e | e) | ⟨r, hr4, hb⟩ | ⟨i, hi16, hb⟩ | ⟨i, hi4, e⟩
  · rw [e]; exact nz hk (by decide)
  · rw [e]; exact nz k1 (by decide)
  · rw [e]; exact nz k2 (by decide)
  · rw [e]; exact nz k3 (by decide)
  · rw [e]; exact nz (gkR g hk a4 rfl (by decide) (by decide)) (by decide)
  · rw [e]; exact nz k5 (by decide)
  · rw [e]; exact nz (gkR g k5 a10 rfl (by decide) (by decide)) (by decide)
  · rw [e]; exact nz k7 (by decide)
  · rw [e]; exact nz (gkR g k7 a11 rfl (by decide) (by decide)) (by decide)
  · rw [e]; exact nz (gkR g k7 a12 rfl (by decide) (by decide)) (by decide)
  · rw [e]; exact nz (gkR g k7 a13 rfl (by decide) (by decide)) (by decide)
  · obtain ⟨b1, b2, b3⟩ := a14 r hr4
    have kl : hp_K α (lpA w r) = 3 := gkQ g k1 (a7 r hr4) rfl (by decide)
    have kl1 : hp_K α (lpA w r + 1) = 28 := gkR g kl b1 rfl (by decide) (by decide)
    rcases hb with e | e | e | ⟨i, hi, e | e⟩
    · rw [e]; exact nz kl (by decide)
    · rw [e]; exact nz kl1 (by decide)
    · rw [e]; exact nz (gkR g kl b2 rfl (by decide) (by decide)) (by decide)
    · rw [e]; exact nz (gkQ g kl1 (b3 i hi).1 rfl (by decide)) (by decide)
    · rw [e]; exact nz (gkR g (gkQ g kl1 (b3 i hi).1 rfl (by decide)) (b3 i hi).2 rfl (by decide) (by decide)) (by decide)
  · have kf : hp_K α (fzA w i) = 2 := gkQ g k2 (a8 i hi16) rfl (by decide)
    have kf1 : hp_K α (fzA w i + 1) = 6 := gkR g kf (a15 i hi16).1 rfl (by decide) (by decide)
    rcases hb with e | e | e
    · rw [e]; exact nz kf (by decide)
    · rw [e]; exact nz kf1 (by decide)
    · rw [e]; exact nz (gkR g kf1 (a15 i hi16).2 rfl (by decide) (by decide)) (by decide)
  · rw [e]; exact nz (gkQ g k3 (a9 i hi4) rfl (by decide)) (by decide)
theorem adx {x w u b : Nat} (hb : inX x b) (h3 : (w = x + 1 ∧ u = x + 460) ∨ (w = x + 460 ∧ u = x + 1)) : b = x ∨ (w ≤ b ∧ b < w + 459) ∨ (u ≤ b ∧ b < u + 459) ∨ b = x + 919 ∨ b = x + 920 ∨ b = x + 921 ∨ b = x + 922 ∨ b = x + 923 ∨ b = x + 924 ∨ b = x + 925 ∨ b = x + 944 ∨ b = x + 944 + 9 := by
  unfold inX at hb
  omega
theorem LXK {α : hp_T} {x : Nat} {σ : ms_T} (g : GC α) (hk : hp_K α x = 12) (h : LX α x σ) : ∀ b, inX x b → hp_K α b ≠ 0 := by
  obtain ⟨-, ⟨z1, z2, z3, z4, z5, z6, z7, z8⟩, ⟨w, u, h1, h2, h3, h4, h5⟩, -, -, l, -, ⟨y1, y2, y3, -⟩⟩ := h
  have kw : hp_K α w = 11 := gkR g hk h1 rfl (by decide) (by decide)
  have ku : hp_K α u = 11 := gkR g hk h2 rfl (by decide) (by decide)
  have k19 : hp_K α (x + 919) = 6 := gkR g hk z1 rfl (by decide) (by decide)
  have k44 : hp_K α (x + 944) = 4 := gkR g hk z5 rfl (by decide) (by decide)
  have k22 : hp_K α (x + 922) = 10 ∧ hp_K α (x + 924) = 10 := by
    rcases y1 with q | q
    · exact ⟨gkR g hk q.1 rfl (by decide) (by decide), gkR g hk q.2 rfl (by decide) (by decide)⟩
    · exact ⟨gkR g hk q.2 rfl (by decide) (by decide), gkR g hk q.1 rfl (by decide) (by decide)⟩
  intro b hb
  rcases adx hb h3 with e | e | e | e | e | e | e | e | e | e | e | e
  · rw [e]; exact nz hk (by decide)
  · exact SHK g kw h4.1 b e.1 e.2
  · exact SHK g ku h5 b e.1 e.2
  · rw [e]; exact nz k19 (by decide)
  · rw [e]; exact nz (gkR g k19 z2 rfl (by decide) (by decide)) (by decide)
  · rw [e]; exact nz z4 (by decide)
  · rw [e]; exact nz k22.1 (by decide)
  · rw [e]; exact nz (gkR g k22.1 y2 rfl (by decide) (by decide)) (by decide)
  · rw [e]; exact nz k22.2 (by decide)
  · rw [e]; exact nz (gkR g k22.2 y3 rfl (by decide) (by decide)) (by decide)
  · rw [e]; exact nz k44 (by decide)
  · rw [e]; exact nz (gkR g k44 z7 rfl (by decide) (by decide)) (by decide)
theorem LX_cg {w : cw_W} {α β : hp_T} {x : Nat} {σ : ms_T} (g : GC α) (hk : hp_K α x = 12) (h : LX α x σ) (c : cg w α β) (hw : wlx w = true) : LX β x σ := by
  have hK := LXK g hk h
  obtain ⟨c0, c1, c2, c3, c4, c5, c6, c7⟩ := c
  exact LX_p h (fun φ b p r => c3 φ b (hK b p) (wlx_R hw r)) (fun κ b j p => c7 κ b j (hK b p)) (fun φ b p r => c2 φ b (hK b p) (wlx_I hw r)) (fun κ b j p r => c4 κ b j (hK b p) (wlx_E hw r)) (c1 _ (hK _ (by unfold inX; omega)))
end JN10_5
section JN10_6
set_option maxRecDepth 100000
/-! ===== what acts leave of the reference: the tape's bytes, the word typed ===== -/
def kt (σ τ : ms_T) : Prop := (∀ φ, (φ == 664) = true → ms_I τ φ = ms_I σ φ) ∧ (∀ κ, (κ == 45 || κ == 47) = true → ∀ j, ms_E τ κ j = ms_E σ κ j)
theorem kt_rf {σ : ms_T} : kt σ σ := ⟨fun _ _ => rfl, fun _ _ _ => rfl⟩
theorem kt_sI {σ0 σ : ms_T} {φ : Nat} {v : Int32} (hφ : (φ == 664) = false) (h : kt σ0 σ) : kt σ0 (ms_sI σ φ v) := by
  refine ⟨fun ψ hψ => ?_, h.2⟩
  rw [mI_sI, if_neg (fun e => by rw [e, hφ] at hψ; cases hψ)]
  exact h.1 ψ hψ
theorem kt_sE {σ0 σ : ms_T} {κ i : Nat} {v : Int32} (hκ : (κ == 45 || κ == 47) = false) (h : kt σ0 σ) : kt σ0 (ms_sE σ κ i v) := by
  refine ⟨h.1, fun ψ hψ j => ?_⟩
  rw [mE_sE, if_neg (fun e => by rw [e.1, hκ] at hψ; cases hψ)]
  exact h.2 ψ hψ j
theorem y_X12_refuse {n : Nat} {σ : ms_T} {a1 : Int32} {σ0 : ms_T} (h0 : kt σ0 σ)  : pr (f_X12_refuse n σ a1) (fun res => kt σ0 res.2) := by
  unfold f_X12_refuse
  refine pr_ln (fun σh1 e1 => ?_)
  have h_1 : kt σ0 σh1 := by rw [e1]; exact kt_sI rfl h0
  exact pr_s h_1
theorem y_X12_is {n : Nat} {σ : ms_T} {a1 : Int32} {σ0 : ms_T} (h0 : kt σ0 σ)  : pr (f_X12_is n σ a1) (fun res => kt σ0 res.2) := by
  unfold f_X12_is
  refine pr_ln (fun σh1 e1 => ?_)
  have h_1 : kt σ0 σh1 := by rw [e1]; exact kt_sI rfl h0
  refine pr_ln (fun σh2 e2 => ?_)
  have h_2 : kt σ0 σh2 := by rw [e2]; exact kt_sI rfl h_1
  refine pr_i (fun _ => ?_) (fun _ => ?_)
  ·
    exact pr_s h_2
  ·
    exact pr_s h_2
theorem y_X12_asks {n : Nat} {σ : ms_T} {a1 : Int32} {a2 : Int32} {σ0 : ms_T} (h0 : kt σ0 σ)  : pr (f_X12_asks n σ a1 a2) (fun res => kt σ0 res) := by
  unfold f_X12_asks
  refine pr_g (fun _ _ => ?_)
  refine pr_ln (fun σh2 e1 => ?_)
  have h_1 : kt σ0 σh2 := by rw [e1]; exact kt_sE rfl h0
  refine pr_g (fun _ _ => ?_)
  refine pr_ln (fun σh4 e2 => ?_)
  have h_2 : kt σ0 σh4 := by rw [e2]; exact kt_sE rfl h_1
  refine pr_ln (fun σh5 e3 => ?_)
  have h_3 : kt σ0 σh5 := by rw [e3]; exact kt_sI rfl h_2
  exact pr_s h_3
theorem y_X12_growsIn {n : Nat} {σ0 : ms_T}  : ∀ (d : Nat) {σ : ms_T} {a1 : Int32} {a2 : Int32} {a3 : Int32} {a4 : Int32}, kt σ0 σ → pr (f_X12_growsIn n d σ a1 a2 a3 a4) (fun res => kt σ0 res) := by
  intro d
  induction d with
  | zero => intro σ a1 a2 a3 a4 h0; rw [f_X12_growsIn.eq_1]; exact pr_0
  | succ d ih =>
    intro σ a1 a2 a3 a4 h0
    rw [f_X12_growsIn.eq_2]
    refine pr_i (fun _ => ?_) (fun _ => ?_)
    ·
      refine pr_i (fun _ => ?_) (fun _ => ?_)
      ·
        refine pr_b (y_X12_asks h0 ) (fun σh9 h_1 => ?_)
        replace h_1 : kt σ0 σh9 := h_1
        exact pr_s h_1
      ·
        exact pr_s h0
    ·
      refine pr_b pr_any (fun rh2 _ => ?_)
      refine pr_i (fun _ => ?_) (fun _ => ?_)
      ·
        refine pr_b (ih h0) (fun σh4 h_2 => ?_)
        replace h_2 : kt σ0 σh4 := h_2
        refine pr_b (y_X12_asks h_2 ) (fun σh5 h_3 => ?_)
        replace h_3 : kt σ0 σh5 := h_3
        exact pr_s h_3
      ·
        refine pr_b (ih h0) (fun σh6 h_4 => ?_)
        replace h_4 : kt σ0 σh6 := h_4
        refine pr_b (y_X12_asks h_4 ) (fun σh7 h_5 => ?_)
        replace h_5 : kt σ0 σh7 := h_5
        exact pr_s h_5
theorem y_X12_growth {n : Nat} {σ : ms_T} {a1 : Int32} {a2 : Int32} {σ0 : ms_T} (h0 : kt σ0 σ)  : pr (f_X12_growth n σ a1 a2) (fun res => kt σ0 res) := by
  unfold f_X12_growth
  refine pr_ln (fun σh1 e1 => ?_)
  have h_1 : kt σ0 σh1 := by rw [e1]; exact kt_sI rfl h0
  refine pr_i (fun _ => ?_) (fun _ => ?_)
  ·
    exact pr_s h_1
  ·
    refine pr_i (fun _ => ?_) (fun _ => ?_)
    ·
      exact pr_s h_1
    ·
      refine pr_b (y_X12_growsIn  _ h_1) (fun σh4 h_2 => ?_)
      replace h_2 : kt σ0 σh4 := h_2
      exact pr_s h_2
theorem y_X12_peaksOf_J35 {n : Nat} {rec10 : ms_T → Int32 → Int32 → Int32 → Option ms_T} {σh5 : ms_T} {v1_h5 : Int32} {v2_h5 : Int32} {v3_h5 : Int32} {σ0 : ms_T} (h0 : kt σ0 σh5) (hrec10 : ∀ {y0 : ms_T} {y1 : Int32} {y2 : Int32} {y3 : Int32}, kt σ0 y0 → pr (rec10 y0 y1 y2 y3) (fun res => kt σ0 res)) : pr (f_X12_peaksOf_J35 n rec10 σh5 v1_h5 v2_h5 v3_h5) (fun res => kt σ0 res) := by
  unfold f_X12_peaksOf_J35
  refine pr_ln (fun x6 _ => ?_)
  exact hrec10 h0
theorem y_X12_peaksOf_L10 {n : Nat} {σ0 : ms_T}  : ∀ (k10 : Nat) {σh2 : ms_T} {v1_h2 : Int32} {v2_h2 : Int32} {v3_h2 : Int32}, kt σ0 σh2 → pr (f_X12_peaksOf_L10 n k10 σh2 v1_h2 v2_h2 v3_h2) (fun res => kt σ0 res) := by
  intro k10
  induction k10 with
  | zero => intro σh2 v1_h2 v2_h2 v3_h2 h0; rw [f_X12_peaksOf_L10.eq_1]; exact pr_0
  | succ k10 ih =>
    intro σh2 v1_h2 v2_h2 v3_h2 h0
    rw [f_X12_peaksOf_L10.eq_2]
    refine pr_i (fun _ => ?_) (fun _ => ?_)
    ·
      exact pr_s h0
    ·
      refine pr_n (fun _ => ?_)
      refine pr_i (fun _ => ?_) (fun _ => ?_)
      ·
        exact y_X12_peaksOf_J35 h0 (fun h => ih h)
      ·
        refine pr_b (y_X12_asks h0 ) (fun σh8 h_1 => ?_)
        replace h_1 : kt σ0 σh8 := h_1
        refine pr_ln (fun x9 _ => ?_)
        exact y_X12_peaksOf_J35 h_1 (fun h => ih h)
theorem y_X12_peaksOf {n : Nat} {σ : ms_T} {a1 : Int32} {σ0 : ms_T} (h0 : kt σ0 σ)  : pr (f_X12_peaksOf n σ a1) (fun res => kt σ0 res) := by
  unfold f_X12_peaksOf
  refine pr_ln (fun σh1 e1 => ?_)
  have h_1 : kt σ0 σh1 := by rw [e1]; exact kt_sI rfl h0
  exact y_X12_peaksOf_L10  _ h_1
theorem y_X12_fetches_L2 {n : Nat} {σ0 : ms_T}  : ∀ (k2 : Nat) {σh1 : ms_T} {v1_h1 : Int32} {v2_h1 : Int32}, kt σ0 σh1 → pr (f_X12_fetches_L2 n k2 σh1 v1_h1 v2_h1) (fun res => kt σ0 res) := by
  intro k2
  induction k2 with
  | zero => intro σh1 v1_h1 v2_h1 h0; rw [f_X12_fetches_L2.eq_1]; exact pr_0
  | succ k2 ih =>
    intro σh1 v1_h1 v2_h1 h0
    rw [f_X12_fetches_L2.eq_2]
    refine pr_i (fun _ => ?_) (fun _ => ?_)
    ·
      exact pr_s h0
    ·
      refine pr_g (fun _ _ => ?_)
      refine pr_g (fun _ _ => ?_)
      refine pr_b pr_any (fun rh5 _ => ?_)
      refine pr_g (fun _ _ => ?_)
      refine pr_ln (fun σh7 e1 => ?_)
      have h_1 : kt σ0 σh7 := by rw [e1]; exact kt_sE rfl h0
      refine pr_ln (fun x8 _ => ?_)
      exact ih h_1
theorem y_X12_fetches {n : Nat} {σ : ms_T} {a1 : Int32} {σ0 : ms_T} (h0 : kt σ0 σ)  : pr (f_X12_fetches n σ a1) (fun res => kt σ0 res) := by
  unfold f_X12_fetches
  exact y_X12_fetches_L2  _ h0
theorem y_X12_foldsGrowth_J157 {n : Nat} {recM : ms_T → Int32 → Int32 → Int32 → Int32 → Option ms_T} {σh3 : ms_T} {σ0 : ms_T} (h0 : kt σ0 σh3) (hrecM : ∀ {y0 : ms_T} {y1 : Int32} {y2 : Int32} {y3 : Int32} {y4 : Int32}, kt σ0 y0 → pr (recM y0 y1 y2 y3 y4) (fun res => kt σ0 res)) : pr (f_X12_foldsGrowth_J157 n recM σh3) (fun res => kt σ0 res) := by
  unfold f_X12_foldsGrowth_J157
  refine pr_ln (fun σh4 e1 => ?_)
  have h_1 : kt σ0 σh4 := by rw [e1]; exact kt_sI rfl h0
  exact pr_s h_1
theorem y_X12_foldsGrowth_J50 {n : Nat} {recM : ms_T → Int32 → Int32 → Int32 → Int32 → Option ms_T} {σh20 : ms_T} {w0_h20 : Int32} {w1_h20 : Int32} {σ0 : ms_T} (h0 : kt σ0 σh20) (hrecM : ∀ {y0 : ms_T} {y1 : Int32} {y2 : Int32} {y3 : Int32} {y4 : Int32}, kt σ0 y0 → pr (recM y0 y1 y2 y3 y4) (fun res => kt σ0 res)) : pr (f_X12_foldsGrowth_J50 n recM σh20 w0_h20 w1_h20) (fun res => kt σ0 res) := by
  unfold f_X12_foldsGrowth_J50
  refine pr_ln (fun σh21 e1 => ?_)
  have h_1 : kt σ0 σh21 := by rw [e1]; exact kt_sI rfl h0
  exact pr_s h_1
theorem y_X12_foldsGrowth_J24 {n : Nat} {recM : ms_T → Int32 → Int32 → Int32 → Int32 → Option ms_T} {σh17 : ms_T} {v4_h17 : Int32} {w0_h17 : Int32} {σ0 : ms_T} (h0 : kt σ0 σh17) (hrecM : ∀ {y0 : ms_T} {y1 : Int32} {y2 : Int32} {y3 : Int32} {y4 : Int32}, kt σ0 y0 → pr (recM y0 y1 y2 y3 y4) (fun res => kt σ0 res)) : pr (f_X12_foldsGrowth_J24 n recM σh17 v4_h17 w0_h17) (fun res => kt σ0 res) := by
  unfold f_X12_foldsGrowth_J24
  refine pr_ln (fun σh18 e1 => ?_)
  have h_1 : kt σ0 σh18 := by rw [e1]; exact kt_sI rfl h0
  refine pr_ln (fun σh19 e2 => ?_)
  have h_2 : kt σ0 σh19 := by rw [e2]; exact kt_sI rfl h_1
  refine pr_i (fun _ => ?_) (fun _ => ?_)
  ·
    exact y_X12_foldsGrowth_J50 h_2 (fun h => hrecM h)
  ·
    exact y_X12_foldsGrowth_J50 h_2 (fun h => hrecM h)
theorem y_X12_foldsGrowth {n : Nat} {σ0 : ms_T}  : ∀ (d : Nat) {σ : ms_T} {a1 : Int32} {a2 : Int32} {a3 : Int32} {a4 : Int32}, kt σ0 σ → pr (f_X12_foldsGrowth n d σ a1 a2 a3 a4) (fun res => kt σ0 res) := by
  intro d
  induction d with
  | zero => intro σ a1 a2 a3 a4 h0; rw [f_X12_foldsGrowth.eq_1]; exact pr_0
  | succ d ih =>
    intro σ a1 a2 a3 a4 h0
    rw [f_X12_foldsGrowth.eq_2]
    refine pr_i (fun _ => ?_) (fun _ => ?_)
    ·
      refine pr_i (fun _ => ?_) (fun _ => ?_)
      ·
        refine pr_g (fun _ _ => ?_)
        exact y_X12_foldsGrowth_J24 h0 (fun h => ih h)
      ·
        exact y_X12_foldsGrowth_J24 h0 (fun h => ih h)
    ·
      refine pr_b pr_any (fun rh2 _ => ?_)
      refine pr_i (fun _ => ?_) (fun _ => ?_)
      ·
        refine pr_b (ih h0) (fun σh6 h_1 => ?_)
        replace h_1 : kt σ0 σh6 := h_1
        refine pr_g (fun _ _ => ?_)
        refine pr_b pr_any (fun rh8 _ => ?_)
        refine pr_ln (fun σh9 e2 => ?_)
        have h_2 : kt σ0 σh9 := by rw [e2]; exact kt_sI rfl h_1
        refine pr_g (fun _ _ => ?_)
        refine pr_b pr_any (fun rh11 _ => ?_)
        refine pr_ln (fun σh12 e3 => ?_)
        have h_3 : kt σ0 σh12 := by rw [e3]; exact kt_sI rfl h_2
        exact y_X12_foldsGrowth_J157 h_3 (fun h => ih h)
      ·
        refine pr_b (ih h0) (fun σh13 h_4 => ?_)
        replace h_4 : kt σ0 σh13 := h_4
        refine pr_g (fun _ _ => ?_)
        refine pr_b pr_any (fun rh15 _ => ?_)
        refine pr_ln (fun σh16 e5 => ?_)
        have h_5 : kt σ0 σh16 := by rw [e5]; exact kt_sI rfl h_4
        exact y_X12_foldsGrowth_J157 h_5 (fun h => ih h)
theorem y_X12_whyGrown_J39 {n : Nat} {σh3 : ms_T} {v2_h3 : Int32} {v3_h3 : Int32} {v4_h3 : Int32} {v5_h3 : Int32} {σ0 : ms_T} (h0 : kt σ0 σh3)  : pr (f_X12_whyGrown_J39 n σh3 v2_h3 v3_h3 v4_h3 v5_h3) (fun res => kt σ0 res.2) := by
  unfold f_X12_whyGrown_J39
  refine pr_i (fun _ => ?_) (fun _ => ?_)
  ·
    refine pr_i (fun _ => ?_) (fun _ => ?_)
    ·
      exact pr_s h0
    ·
      exact pr_s h0
  ·
    refine pr_i (fun _ => ?_) (fun _ => ?_)
    ·
      exact pr_s h0
    ·
      refine pr_ln (fun σh6 e1 => ?_)
      have h_1 : kt σ0 σh6 := by rw [e1]; exact kt_sI rfl h0
      refine pr_b (y_X12_foldsGrowth  _ h_1) (fun σh7 h_2 => ?_)
      replace h_2 : kt σ0 σh7 := h_2
      refine pr_i (fun _ => ?_) (fun _ => ?_)
      ·
        refine pr_i (fun _ => ?_) (fun _ => ?_)
        ·
          exact pr_s h_2
        ·
          exact pr_s h_2
      ·
        exact pr_s h_2
theorem y_X12_whyGrown {n : Nat} {σ : ms_T} {a1 : Int32} {a2 : Int32} {a3 : Int32} {a4 : Int32} {a5 : Int32} {σ0 : ms_T} (h0 : kt σ0 σ)  : pr (f_X12_whyGrown n σ a1 a2 a3 a4 a5) (fun res => kt σ0 res.2) := by
  unfold f_X12_whyGrown
  refine pr_b (y_X12_growth h0 ) (fun σh1 h_1 => ?_)
  replace h_1 : kt σ0 σh1 := h_1
  refine pr_i (fun _ => ?_) (fun _ => ?_)
  ·
    refine pr_i (fun _ => ?_) (fun _ => ?_)
    ·
      refine pr_i (fun _ => ?_) (fun _ => ?_)
      ·
        exact y_X12_whyGrown_J39 h_1 
      ·
        exact pr_s h_1
    ·
      exact y_X12_whyGrown_J39 h_1 
  ·
    refine pr_i (fun _ => ?_) (fun _ => ?_)
    ·
      exact pr_s h_1
    ·
      exact pr_s h_1
theorem y_X12_whyByRecord {n : Nat} {σ : ms_T} {a1 : Int32} {a2 : Int32} {a3 : Int32} {a4 : Int32} {a5 : Int32} {σ0 : ms_T} (h0 : kt σ0 σ)  : pr (f_X12_whyByRecord n σ a1 a2 a3 a4 a5) (fun res => kt σ0 res.2) := by
  unfold f_X12_whyByRecord
  refine pr_b (y_X12_growth h0 ) (fun σh1 h_1 => ?_)
  replace h_1 : kt σ0 σh1 := h_1
  refine pr_b (y_X12_fetches h_1 ) (fun σh2 h_2 => ?_)
  replace h_2 : kt σ0 σh2 := h_2
  refine pr_c (y_X12_whyGrown h_2 ) (fun rh3 σh3 h_3 => ?_)
  replace h_3 : kt σ0 σh3 := h_3
  exact pr_s h_3
theorem y_X12_hand_L2 {n : Nat} {σ0 : ms_T}  : ∀ (k2 : Nat) {σh1 : ms_T} {v1_h1 : Int32}, kt σ0 σh1 → pr (f_X12_hand_L2 n k2 σh1 v1_h1) (fun res => kt σ0 res) := by
  intro k2
  induction k2 with
  | zero => intro σh1 v1_h1 h0; rw [f_X12_hand_L2.eq_1]; exact pr_0
  | succ k2 ih =>
    intro σh1 v1_h1 h0
    rw [f_X12_hand_L2.eq_2]
    refine pr_i (fun _ => ?_) (fun _ => ?_)
    ·
      refine pr_ln (fun σh3 e1 => ?_)
      have h_1 : kt σ0 σh3 := by rw [e1]; exact kt_sI rfl h0
      exact pr_s h_1
    ·
      refine pr_g (fun _ _ => ?_)
      refine pr_g (fun _ _ => ?_)
      refine pr_ln (fun σh6 e2 => ?_)
      have h_2 : kt σ0 σh6 := by rw [e2]; exact kt_sE rfl h0
      refine pr_ln (fun x7 _ => ?_)
      exact ih h_2
theorem y_X12_hand {n : Nat} {σ : ms_T} {σ0 : ms_T} (h0 : kt σ0 σ)  : pr (f_X12_hand n σ) (fun res => kt σ0 res) := by
  unfold f_X12_hand
  exact y_X12_hand_L2  _ h0
theorem y_X12_adds_L43 {n : Nat} {σ0 : ms_T}  : ∀ (k43 : Nat) {σh7 : ms_T} {v1_h7 : Int32} {v2_h7 : Int32} {v3_h7 : Int32}, kt σ0 σh7 → pr (f_X12_adds_L43 n k43 σh7 v1_h7 v2_h7 v3_h7) (fun res => kt σ0 res.2) := by
  intro k43
  induction k43 with
  | zero => intro σh7 v1_h7 v2_h7 v3_h7 h0; rw [f_X12_adds_L43.eq_1]; exact pr_0
  | succ k43 ih =>
    intro σh7 v1_h7 v2_h7 v3_h7 h0
    rw [f_X12_adds_L43.eq_2]
    refine pr_i (fun _ => ?_) (fun _ => ?_)
    ·
      refine pr_ln (fun x9 _ => ?_)
      refine pr_g (fun _ _ => ?_)
      refine pr_g (fun _ _ => ?_)
      refine pr_ln (fun σh12 e1 => ?_)
      have h_1 : kt σ0 σh12 := by rw [e1]; exact kt_sE rfl h0
      refine pr_g (fun _ _ => ?_)
      refine pr_g (fun _ _ => ?_)
      refine pr_ln (fun σh15 e2 => ?_)
      have h_2 : kt σ0 σh15 := by rw [e2]; exact kt_sE rfl h_1
      refine pr_b pr_any (fun rh16 _ => ?_)
      exact pr_s h_2
    ·
      refine pr_g (fun _ _ => ?_)
      refine pr_g (fun _ _ => ?_)
      refine pr_ln (fun σh19 e3 => ?_)
      have h_3 : kt σ0 σh19 := by rw [e3]; exact kt_sE rfl h0
      refine pr_ln (fun x20 _ => ?_)
      exact ih h_3
theorem y_X12_adds {n : Nat} {σ : ms_T} {a1 : Int32} {σ0 : ms_T} (h0 : kt σ0 σ)  : pr (f_X12_adds n σ a1) (fun res => kt σ0 res.2) := by
  unfold f_X12_adds
  refine pr_b pr_any (fun rh1 _ => ?_)
  refine pr_i (fun _ => ?_) (fun _ => ?_)
  ·
    refine pr_c (y_X12_refuse h0 ) (fun rh21 σh21 h_1 => ?_)
    replace h_1 : kt σ0 σh21 := h_1
    exact pr_s h_1
  ·
    refine pr_b pr_any (fun rh3 _ => ?_)
    refine pr_ln (fun x4 _ => ?_)
    refine pr_g (fun _ _ => ?_)
    refine pr_ln (fun σh6 e2 => ?_)
    have h_2 : kt σ0 σh6 := by rw [e2]; exact kt_sE rfl h0
    exact y_X12_adds_L43  _ h_2
theorem y_X12_forks_L82 {n : Nat} {rec41 : ms_T → Int32 → Int32 → Int32 → Int32 → Option (Int32 × ms_T)} {σ0 : ms_T} (hrec41 : ∀ {y0 : ms_T} {y1 : Int32} {y2 : Int32} {y3 : Int32} {y4 : Int32}, kt σ0 y0 → pr (rec41 y0 y1 y2 y3 y4) (fun res => kt σ0 res.2)) : ∀ (k82 : Nat) {σh20 : ms_T} {v1_h20 : Int32} {v2_h20 : Int32} {v3_h20 : Int32} {v4_h20 : Int32} {v5_h20 : Int32}, kt σ0 σh20 → pr (f_X12_forks_L82 n rec41 k82 σh20 v1_h20 v2_h20 v3_h20 v4_h20 v5_h20) (fun res => kt σ0 res.2) := by
  intro k82
  induction k82 with
  | zero => intro σh20 v1_h20 v2_h20 v3_h20 v4_h20 v5_h20 h0; rw [f_X12_forks_L82.eq_1]; exact pr_0
  | succ k82 ih =>
    intro σh20 v1_h20 v2_h20 v3_h20 v4_h20 v5_h20 h0
    rw [f_X12_forks_L82.eq_2]
    refine pr_i (fun _ => ?_) (fun _ => ?_)
    ·
      refine pr_ln (fun x22 _ => ?_)
      exact hrec41 h0
    ·
      refine pr_g (fun _ _ => ?_)
      refine pr_g (fun _ _ => ?_)
      refine pr_ln (fun σh25 e1 => ?_)
      have h_1 : kt σ0 σh25 := by rw [e1]; exact kt_sE rfl h0
      refine pr_ln (fun x26 _ => ?_)
      exact ih h_1
theorem y_X12_forks_L41 {n : Nat} {σ0 : ms_T}  : ∀ (k41 : Nat) {σh7 : ms_T} {v1_h7 : Int32} {v2_h7 : Int32} {v3_h7 : Int32} {v4_h7 : Int32}, kt σ0 σh7 → pr (f_X12_forks_L41 n k41 σh7 v1_h7 v2_h7 v3_h7 v4_h7) (fun res => kt σ0 res.2) := by
  intro k41
  induction k41 with
  | zero => intro σh7 v1_h7 v2_h7 v3_h7 v4_h7 h0; rw [f_X12_forks_L41.eq_1]; exact pr_0
  | succ k41 ih =>
    intro σh7 v1_h7 v2_h7 v3_h7 v4_h7 h0
    rw [f_X12_forks_L41.eq_2]
    refine pr_i (fun _ => ?_) (fun _ => ?_)
    ·
      refine pr_g (fun _ _ => ?_)
      refine pr_ln (fun σh10 e1 => ?_)
      have h_1 : kt σ0 σh10 := by rw [e1]; exact kt_sE rfl h0
      refine pr_g (fun _ _ => ?_)
      refine pr_g (fun _ _ => ?_)
      refine pr_ln (fun σh13 e2 => ?_)
      have h_2 : kt σ0 σh13 := by rw [e2]; exact kt_sE rfl h_1
      refine pr_g (fun _ _ => ?_)
      refine pr_g (fun _ _ => ?_)
      refine pr_ln (fun σh16 e3 => ?_)
      have h_3 : kt σ0 σh16 := by rw [e3]; exact kt_sE rfl h_2
      exact pr_s h_3
    ·
      refine pr_g (fun _ _ => ?_)
      refine pr_g (fun _ _ => ?_)
      refine pr_ln (fun σh19 e4 => ?_)
      have h_4 : kt σ0 σh19 := by rw [e4]; exact kt_sE rfl h0
      exact y_X12_forks_L82 (fun h => ih h) _ h_4
theorem y_X12_forks {n : Nat} {σ : ms_T} {a1 : Int32} {a2 : Int32} {σ0 : ms_T} (h0 : kt σ0 σ)  : pr (f_X12_forks n σ a1 a2) (fun res => kt σ0 res.2) := by
  unfold f_X12_forks
  refine pr_b pr_any (fun rh1 _ => ?_)
  refine pr_i (fun _ => ?_) (fun _ => ?_)
  ·
    refine pr_g (fun _ _ => ?_)
    refine pr_i (fun _ => ?_) (fun _ => ?_)
    ·
      refine pr_c (y_X12_refuse h0 ) (fun rh27 σh27 h_1 => ?_)
      replace h_1 : kt σ0 σh27 := h_1
      exact pr_s h_1
    ·
      refine pr_g (fun _ _ => ?_)
      refine pr_ln (fun x6 _ => ?_)
      exact y_X12_forks_L41  _ h0
  ·
    refine pr_c (y_X12_refuse h0 ) (fun rh28 σh28 h_2 => ?_)
    replace h_2 : kt σ0 σh28 := h_2
    exact pr_s h_2
theorem y_X12_freezes_L98 {n : Nat} {σ0 : ms_T}  : ∀ (k98 : Nat) {σh20 : ms_T} {v2_h20 : Int32} {v3_h20 : Int32}, kt σ0 σh20 → pr (f_X12_freezes_L98 n k98 σh20 v2_h20 v3_h20) (fun res => kt σ0 res.2) := by
  intro k98
  induction k98 with
  | zero => intro σh20 v2_h20 v3_h20 h0; rw [f_X12_freezes_L98.eq_1]; exact pr_0
  | succ k98 ih =>
    intro σh20 v2_h20 v3_h20 h0
    rw [f_X12_freezes_L98.eq_2]
    refine pr_i (fun _ => ?_) (fun _ => ?_)
    ·
      refine pr_g (fun _ _ => ?_)
      refine pr_g (fun _ _ => ?_)
      refine pr_ln (fun σh24 e1 => ?_)
      have h_1 : kt σ0 σh24 := by rw [e1]; exact kt_sE rfl h0
      refine pr_g (fun _ _ => ?_)
      refine pr_g (fun _ _ => ?_)
      refine pr_ln (fun σh27 e2 => ?_)
      have h_2 : kt σ0 σh27 := by rw [e2]; exact kt_sE rfl h_1
      refine pr_g (fun _ _ => ?_)
      exact pr_s h_2
    ·
      refine pr_g (fun _ _ => ?_)
      refine pr_g (fun _ _ => ?_)
      refine pr_ln (fun σh31 e3 => ?_)
      have h_3 : kt σ0 σh31 := by rw [e3]; exact kt_sE rfl h0
      refine pr_ln (fun x32 _ => ?_)
      exact ih h_3
theorem y_X12_freezes {n : Nat} {σ : ms_T} {a1 : Int32} {σ0 : ms_T} (h0 : kt σ0 σ)  : pr (f_X12_freezes n σ a1) (fun res => kt σ0 res.2) := by
  unfold f_X12_freezes
  refine pr_g (fun _ _ => ?_)
  refine pr_i (fun _ => ?_) (fun _ => ?_)
  ·
    refine pr_c (y_X12_refuse h0 ) (fun rh33 σh33 h_1 => ?_)
    replace h_1 : kt σ0 σh33 := h_1
    exact pr_s h_1
  ·
    refine pr_g (fun _ _ => ?_)
    refine pr_ln (fun x4 _ => ?_)
    refine pr_g (fun _ _ => ?_)
    refine pr_ln (fun σh6 e2 => ?_)
    have h_2 : kt σ0 σh6 := by rw [e2]; exact kt_sE rfl h0
    refine pr_b pr_any (fun rh7 _ => ?_)
    refine pr_g (fun _ _ => ?_)
    refine pr_ln (fun σh9 e3 => ?_)
    have h_3 : kt σ0 σh9 := by rw [e3]; exact kt_sE rfl h_2
    refine pr_b pr_any (fun rh10 _ => ?_)
    refine pr_b pr_any (fun rh11 _ => ?_)
    refine pr_g (fun _ _ => ?_)
    refine pr_ln (fun σh13 e4 => ?_)
    have h_4 : kt σ0 σh13 := by rw [e4]; exact kt_sE rfl h_3
    refine pr_g (fun _ _ => ?_)
    refine pr_g (fun _ _ => ?_)
    refine pr_ln (fun σh16 e5 => ?_)
    have h_5 : kt σ0 σh16 := by rw [e5]; exact kt_sE rfl h_4
    refine pr_b pr_any (fun rh17 _ => ?_)
    refine pr_b (y_X12_peaksOf h_5 ) (fun σh18 h_6 => ?_)
    replace h_6 : kt σ0 σh18 := h_6
    refine pr_b (y_X12_fetches h_6 ) (fun σh19 h_7 => ?_)
    replace h_7 : kt σ0 σh19 := h_7
    exact y_X12_freezes_L98  _ h_7
theorem y_X12_trusts {n : Nat} {σ : ms_T} {a1 : Int32} {a2 : Int32} {a3 : Int32} {σ0 : ms_T} (h0 : kt σ0 σ)  : pr (f_X12_trusts n σ a1 a2 a3) (fun res => kt σ0 res) := by
  unfold f_X12_trusts
  refine pr_g (fun _ _ => ?_)
  refine pr_ln (fun σh2 e1 => ?_)
  have h_1 : kt σ0 σh2 := by rw [e1]; exact kt_sE rfl h0
  refine pr_g (fun _ _ => ?_)
  refine pr_ln (fun σh4 e2 => ?_)
  have h_2 : kt σ0 σh4 := by rw [e2]; exact kt_sE rfl h_1
  exact pr_s h_2
theorem y_X12_shows_J117 {n : Nat} {σh5 : ms_T} {v1_h5 : Int32} {v6_h5 : Int32} {σ0 : ms_T} (h0 : kt σ0 σh5)  : pr (f_X12_shows_J117 n σh5 v1_h5 v6_h5) (fun res => kt σ0 res.2) := by
  unfold f_X12_shows_J117
  refine pr_ln (fun x6 _ => ?_)
  refine pr_g (fun _ _ => ?_)
  refine pr_g (fun _ _ => ?_)
  refine pr_ln (fun σh9 e1 => ?_)
  have h_1 : kt σ0 σh9 := by rw [e1]; exact kt_sE rfl h0
  refine pr_g (fun _ _ => ?_)
  refine pr_g (fun _ _ => ?_)
  refine pr_ln (fun σh12 e2 => ?_)
  have h_2 : kt σ0 σh12 := by rw [e2]; exact kt_sE rfl h_1
  exact pr_s h_2
theorem y_X12_shows_J92 {n : Nat} {σh4 : ms_T} {v1_h4 : Int32} {v6_h4 : Int32} {σ0 : ms_T} (h0 : kt σ0 σh4)  : pr (f_X12_shows_J92 n σh4 v1_h4 v6_h4) (fun res => kt σ0 res.2) := by
  unfold f_X12_shows_J92
  refine pr_i (fun _ => ?_) (fun _ => ?_)
  ·
    exact y_X12_shows_J117 h0 
  ·
    refine pr_i (fun _ => ?_) (fun _ => ?_)
    ·
      exact y_X12_shows_J117 h0 
    ·
      refine pr_g (fun _ _ => ?_)
      refine pr_ln (fun σh16 e1 => ?_)
      have h_1 : kt σ0 σh16 := by rw [e1]; exact kt_sE rfl h0
      exact y_X12_shows_J117 h_1 
theorem y_X12_shows_J71 {n : Nat} {σh3 : ms_T} {v1_h3 : Int32} {v3_h3 : Int32} {v4_h3 : Int32} {v5_h3 : Int32} {w0_h3 : Int32} {σ0 : ms_T} (h0 : kt σ0 σh3)  : pr (f_X12_shows_J71 n σh3 v1_h3 v3_h3 v4_h3 v5_h3 w0_h3) (fun res => kt σ0 res.2) := by
  unfold f_X12_shows_J71
  refine pr_i (fun _ => ?_) (fun _ => ?_)
  ·
    refine pr_i (fun _ => ?_) (fun _ => ?_)
    ·
      exact y_X12_shows_J92 h0 
    ·
      refine pr_b (y_X12_trusts h0 ) (fun σh19 h_1 => ?_)
      replace h_1 : kt σ0 σh19 := h_1
      exact y_X12_shows_J92 h_1 
  ·
    exact y_X12_shows_J92 h0 
theorem y_X12_shows {n : Nat} {σ : ms_T} {a1 : Int32} {a2 : Int32} {a3 : Int32} {σ0 : ms_T} (h0 : kt σ0 σ)  : pr (f_X12_shows n σ a1 a2 a3) (fun res => kt σ0 res.2) := by
  unfold f_X12_shows
  refine pr_b pr_any (fun rh1 _ => ?_)
  refine pr_b pr_any (fun rh2 _ => ?_)
  refine pr_i (fun _ => ?_) (fun _ => ?_)
  ·
    refine pr_b pr_any (fun rh21 _ => ?_)
    refine pr_c (y_X12_whyByRecord h0 ) (fun rh22 σh22 h_1 => ?_)
    replace h_1 : kt σ0 σh22 := h_1
    exact y_X12_shows_J71 h_1 
  ·
    refine pr_b pr_any (fun rh23 _ => ?_)
    refine pr_i (fun _ => ?_) (fun _ => ?_)
    ·
      refine pr_b pr_any (fun rh25 _ => ?_)
      refine pr_c (y_X12_whyByRecord h0 ) (fun rh26 σh26 h_2 => ?_)
      replace h_2 : kt σ0 σh26 := h_2
      exact y_X12_shows_J71 h_2 
    ·
      exact y_X12_shows_J71 h0 
theorem y_X12_add_J14 {n : Nat} {σh2 : ms_T} {v1_h2 : Int32} {w0_h2 : Int32} {σ0 : ms_T} (h0 : kt σ0 σh2)  : pr (f_X12_add_J14 n σh2 v1_h2 w0_h2) (fun res => kt σ0 res.2) := by
  unfold f_X12_add_J14
  refine pr_c (y_X12_is h0 ) (fun rh3 σh3 h_1 => ?_)
  replace h_1 : kt σ0 σh3 := h_1
  refine pr_i (fun _ => ?_) (fun _ => ?_)
  ·
    exact pr_s h_1
  ·
    refine pr_b (y_X12_hand h_1 ) (fun σh5 h_2 => ?_)
    replace h_2 : kt σ0 σh5 := h_2
    refine pr_c (y_X12_adds h_2 ) (fun rh6 σh6 h_3 => ?_)
    replace h_3 : kt σ0 σh6 := h_3
    exact pr_s h_3
theorem y_X12_add {n : Nat} {σ : ms_T} {a1 : Int32} {σ0 : ms_T} (h0 : kt σ0 σ)  : pr (f_X12_add n σ a1) (fun res => kt σ0 res.2) := by
  unfold f_X12_add
  refine pr_b pr_any (fun rh1 _ => ?_)
  refine pr_i (fun _ => ?_) (fun _ => ?_)
  ·
    exact y_X12_add_J14 h0 
  ·
    exact y_X12_add_J14 h0 
theorem y_X12_fork_J22 {n : Nat} {σh1 : ms_T} {v1_h1 : Int32} {v2_h1 : Int32} {w0_h1 : Int32} {σ0 : ms_T} (h0 : kt σ0 σh1)  : pr (f_X12_fork_J22 n σh1 v1_h1 v2_h1 w0_h1) (fun res => kt σ0 res.2) := by
  unfold f_X12_fork_J22
  refine pr_c (y_X12_is h0 ) (fun rh2 σh2 h_1 => ?_)
  replace h_1 : kt σ0 σh2 := h_1
  refine pr_i (fun _ => ?_) (fun _ => ?_)
  ·
    exact pr_s h_1
  ·
    refine pr_c (y_X12_forks h_1 ) (fun rh4 σh4 h_2 => ?_)
    replace h_2 : kt σ0 σh4 := h_2
    exact pr_s h_2
theorem y_X12_fork {n : Nat} {σ : ms_T} {a1 : Int32} {a2 : Int32} {σ0 : ms_T} (h0 : kt σ0 σ)  : pr (f_X12_fork n σ a1 a2) (fun res => kt σ0 res.2) := by
  unfold f_X12_fork
  refine pr_i (fun _ => ?_) (fun _ => ?_)
  ·
    refine pr_b pr_any (fun rh6 _ => ?_)
    refine pr_i (fun _ => ?_) (fun _ => ?_)
    ·
      exact y_X12_fork_J22 h0 
    ·
      exact y_X12_fork_J22 h0 
  ·
    exact y_X12_fork_J22 h0 
theorem y_X12_freeze_J14 {n : Nat} {σh2 : ms_T} {v1_h2 : Int32} {w0_h2 : Int32} {σ0 : ms_T} (h0 : kt σ0 σh2)  : pr (f_X12_freeze_J14 n σh2 v1_h2 w0_h2) (fun res => kt σ0 res.2) := by
  unfold f_X12_freeze_J14
  refine pr_c (y_X12_is h0 ) (fun rh3 σh3 h_1 => ?_)
  replace h_1 : kt σ0 σh3 := h_1
  refine pr_i (fun _ => ?_) (fun _ => ?_)
  ·
    exact pr_s h_1
  ·
    refine pr_c (y_X12_freezes h_1 ) (fun rh5 σh5 h_2 => ?_)
    replace h_2 : kt σ0 σh5 := h_2
    exact pr_s h_2
theorem y_X12_freeze {n : Nat} {σ : ms_T} {a1 : Int32} {σ0 : ms_T} (h0 : kt σ0 σ)  : pr (f_X12_freeze n σ a1) (fun res => kt σ0 res.2) := by
  unfold f_X12_freeze
  refine pr_b pr_any (fun rh1 _ => ?_)
  refine pr_i (fun _ => ?_) (fun _ => ?_)
  ·
    exact y_X12_freeze_J14 h0 
  ·
    exact y_X12_freeze_J14 h0 
theorem y_X12_show_J42 {n : Nat} {σh1 : ms_T} {v1_h1 : Int32} {v2_h1 : Int32} {v3_h1 : Int32} {w0_h1 : Int32} {σ0 : ms_T} (h0 : kt σ0 σh1)  : pr (f_X12_show_J42 n σh1 v1_h1 v2_h1 v3_h1 w0_h1) (fun res => kt σ0 res.2) := by
  unfold f_X12_show_J42
  refine pr_c (y_X12_is h0 ) (fun rh2 σh2 h_1 => ?_)
  replace h_1 : kt σ0 σh2 := h_1
  refine pr_i (fun _ => ?_) (fun _ => ?_)
  ·
    exact pr_s h_1
  ·
    refine pr_c (y_X12_shows h_1 ) (fun rh4 σh4 h_2 => ?_)
    replace h_2 : kt σ0 σh4 := h_2
    exact pr_s h_2
theorem y_X12_show_J24 {n : Nat} {σh7 : ms_T} {v1_h7 : Int32} {v2_h7 : Int32} {v3_h7 : Int32} {σ0 : ms_T} (h0 : kt σ0 σh7)  : pr (f_X12_show_J24 n σh7 v1_h7 v2_h7 v3_h7) (fun res => kt σ0 res.2) := by
  unfold f_X12_show_J24
  exact y_X12_show_J42 h0 
theorem y_X12_show {n : Nat} {σ : ms_T} {a1 : Int32} {a2 : Int32} {a3 : Int32} {σ0 : ms_T} (h0 : kt σ0 σ)  : pr (f_X12_show n σ a1 a2 a3) (fun res => kt σ0 res.2) := by
  unfold f_X12_show
  refine pr_i (fun _ => ?_) (fun _ => ?_)
  ·
    refine pr_b pr_any (fun rh6 _ => ?_)
    refine pr_i (fun _ => ?_) (fun _ => ?_)
    ·
      exact y_X12_show_J24 h0 
    ·
      refine pr_b pr_any (fun rh9 _ => ?_)
      refine pr_i (fun _ => ?_) (fun _ => ?_)
      ·
        exact y_X12_show_J24 h0 
      ·
        refine pr_b pr_any (fun rh11 _ => ?_)
        refine pr_i (fun _ => ?_) (fun _ => ?_)
        ·
          exact y_X12_show_J42 h0 
        ·
          exact y_X12_show_J42 h0 
  ·
    exact y_X12_show_J42 h0 
theorem y_X12_meet_J196 {n : Nat} {σh14 : ms_T} {v8_h14 : Int32} {σ0 : ms_T} (h0 : kt σ0 σh14)  : pr (f_X12_meet_J196 n σh14 v8_h14) (fun res => kt σ0 res.2) := by
  unfold f_X12_meet_J196
  refine pr_g (fun _ _ => ?_)
  refine pr_g (fun _ _ => ?_)
  refine pr_ln (fun σh17 e1 => ?_)
  have h_1 : kt σ0 σh17 := by rw [e1]; exact kt_sE rfl h0
  exact pr_s h_1
theorem y_X12_meet_J155 {n : Nat} {σh13 : ms_T} {v5_h13 : Int32} {v6_h13 : Int32} {v8_h13 : Int32} {σ0 : ms_T} (h0 : kt σ0 σh13)  : pr (f_X12_meet_J155 n σh13 v5_h13 v6_h13 v8_h13) (fun res => kt σ0 res.2) := by
  unfold f_X12_meet_J155
  refine pr_i (fun _ => ?_) (fun _ => ?_)
  ·
    exact y_X12_meet_J196 h0 
  ·
    refine pr_i (fun _ => ?_) (fun _ => ?_)
    ·
      exact y_X12_meet_J196 h0 
    ·
      refine pr_g (fun _ _ => ?_)
      refine pr_ln (fun σh21 e1 => ?_)
      have h_1 : kt σ0 σh21 := by rw [e1]; exact kt_sE rfl h0
      refine pr_g (fun _ _ => ?_)
      refine pr_ln (fun σh23 e2 => ?_)
      have h_2 : kt σ0 σh23 := by rw [e2]; exact kt_sE rfl h_1
      exact y_X12_meet_J196 h_2 
theorem y_X12_meet_J133 {n : Nat} {σh12 : ms_T} {v5_h12 : Int32} {v6_h12 : Int32} {v7_h12 : Int32} {w0_h12 : Int32} {σ0 : ms_T} (h0 : kt σ0 σh12)  : pr (f_X12_meet_J133 n σh12 v5_h12 v6_h12 v7_h12 w0_h12) (fun res => kt σ0 res.2) := by
  unfold f_X12_meet_J133
  refine pr_i (fun _ => ?_) (fun _ => ?_)
  ·
    refine pr_b pr_any (fun rh25 _ => ?_)
    refine pr_b (y_X12_trusts h0 ) (fun σh26 h_1 => ?_)
    replace h_1 : kt σ0 σh26 := h_1
    exact y_X12_meet_J155 h_1 
  ·
    exact y_X12_meet_J155 h0 
theorem y_X12_meet_J80 {n : Nat} {σh9 : ms_T} {v3_h9 : Int32} {v5_h9 : Int32} {w0_h9 : Int32} {σ0 : ms_T} (h0 : kt σ0 σh9)  : pr (f_X12_meet_J80 n σh9 v3_h9 v5_h9 w0_h9) (fun res => kt σ0 res.2) := by
  unfold f_X12_meet_J80
  refine pr_b pr_any (fun rh10 _ => ?_)
  refine pr_b pr_any (fun rh11 _ => ?_)
  refine pr_i (fun _ => ?_) (fun _ => ?_)
  ·
    refine pr_b pr_any (fun rh28 _ => ?_)
    refine pr_b pr_any (fun rh29 _ => ?_)
    refine pr_b pr_any (fun rh30 _ => ?_)
    refine pr_c (y_X12_whyByRecord h0 ) (fun rh31 σh31 h_1 => ?_)
    replace h_1 : kt σ0 σh31 := h_1
    exact y_X12_meet_J133 h_1 
  ·
    exact y_X12_meet_J133 h0 
theorem y_X12_meet_J68 {n : Nat} {σh8 : ms_T} {v1_h8 : Int32} {v2_h8 : Int32} {v3_h8 : Int32} {v4_h8 : Int32} {w0_h8 : Int32} {σ0 : ms_T} (h0 : kt σ0 σh8)  : pr (f_X12_meet_J68 n σh8 v1_h8 v2_h8 v3_h8 v4_h8 w0_h8) (fun res => kt σ0 res.2) := by
  unfold f_X12_meet_J68
  refine pr_i (fun _ => ?_) (fun _ => ?_)
  ·
    exact y_X12_meet_J80 h0 
  ·
    exact y_X12_meet_J80 h0 
theorem y_X12_meet_J56 {n : Nat} {σh7 : ms_T} {v1_h7 : Int32} {v2_h7 : Int32} {v3_h7 : Int32} {w0_h7 : Int32} {σ0 : ms_T} (h0 : kt σ0 σh7)  : pr (f_X12_meet_J56 n σh7 v1_h7 v2_h7 v3_h7 w0_h7) (fun res => kt σ0 res.2) := by
  unfold f_X12_meet_J56
  refine pr_i (fun _ => ?_) (fun _ => ?_)
  ·
    exact y_X12_meet_J68 h0 
  ·
    exact y_X12_meet_J68 h0 
theorem y_X12_meet_J28 {n : Nat} {σh2 : ms_T} {v1_h2 : Int32} {v2_h2 : Int32} {v3_h2 : Int32} {w0_h2 : Int32} {σ0 : ms_T} (h0 : kt σ0 σh2)  : pr (f_X12_meet_J28 n σh2 v1_h2 v2_h2 v3_h2 w0_h2) (fun res => kt σ0 res.2) := by
  unfold f_X12_meet_J28
  refine pr_c (y_X12_is h0 ) (fun rh3 σh3 h_1 => ?_)
  replace h_1 : kt σ0 σh3 := h_1
  refine pr_i (fun _ => ?_) (fun _ => ?_)
  ·
    exact pr_s h_1
  ·
    refine pr_b pr_any (fun rh5 _ => ?_)
    refine pr_b pr_any (fun rh6 _ => ?_)
    refine pr_i (fun _ => ?_) (fun _ => ?_)
    ·
      exact y_X12_meet_J56 h_1 
    ·
      exact y_X12_meet_J56 h_1 
theorem y_X12_meet_J27 {n : Nat} {σh35 : ms_T} {v1_h35 : Int32} {v2_h35 : Int32} {v3_h35 : Int32} {σ0 : ms_T} (h0 : kt σ0 σh35)  : pr (f_X12_meet_J27 n σh35 v1_h35 v2_h35 v3_h35) (fun res => kt σ0 res.2) := by
  unfold f_X12_meet_J27
  exact y_X12_meet_J28 h0 
theorem y_X12_meet {n : Nat} {σ : ms_T} {a1 : Int32} {a2 : Int32} {a3 : Int32} {σ0 : ms_T} (h0 : kt σ0 σ)  : pr (f_X12_meet n σ a1 a2 a3) (fun res => kt σ0 res.2) := by
  unfold f_X12_meet
  refine pr_b pr_any (fun rh1 _ => ?_)
  refine pr_i (fun _ => ?_) (fun _ => ?_)
  ·
    exact y_X12_meet_J27 h0 
  ·
    refine pr_b pr_any (fun rh37 _ => ?_)
    refine pr_i (fun _ => ?_) (fun _ => ?_)
    ·
      exact y_X12_meet_J27 h0 
    ·
      refine pr_b pr_any (fun rh39 _ => ?_)
      refine pr_i (fun _ => ?_) (fun _ => ?_)
      ·
        exact y_X12_meet_J27 h0 
      ·
        exact y_X12_meet_J28 h0 
theorem y_X12_spoil_J69 {n : Nat} {σh1 : ms_T} {v1_h1 : Int32} {v2_h1 : Int32} {v3_h1 : Int32} {v4_h1 : Int32} {w0_h1 : Int32} {σ0 : ms_T} (h0 : kt σ0 σh1)  : pr (f_X12_spoil_J69 n σh1 v1_h1 v2_h1 v3_h1 v4_h1 w0_h1) (fun res => kt σ0 res.2) := by
  unfold f_X12_spoil_J69
  refine pr_c (y_X12_is h0 ) (fun rh2 σh2 h_1 => ?_)
  replace h_1 : kt σ0 σh2 := h_1
  refine pr_i (fun _ => ?_) (fun _ => ?_)
  ·
    exact pr_s h_1
  ·
    refine pr_ln (fun x4 _ => ?_)
    refine pr_g (fun _ _ => ?_)
    refine pr_ln (fun x6 _ => ?_)
    refine pr_i (fun _ => ?_) (fun _ => ?_)
    ·
      refine pr_c (y_X12_refuse h_1 ) (fun rh13 σh13 h_2 => ?_)
      replace h_2 : kt σ0 σh13 := h_2
      exact pr_s h_2
    ·
      refine pr_g (fun _ _ => ?_)
      refine pr_ln (fun σh9 e3 => ?_)
      have h_3 : kt σ0 σh9 := by rw [e3]; exact kt_sE rfl h_1
      refine pr_g (fun _ _ => ?_)
      refine pr_g (fun _ _ => ?_)
      refine pr_ln (fun σh12 e4 => ?_)
      have h_4 : kt σ0 σh12 := by rw [e4]; exact kt_sE rfl h_3
      exact pr_s h_4
theorem y_X12_spoil_J20 {n : Nat} {σh14 : ms_T} {v1_h14 : Int32} {v2_h14 : Int32} {v3_h14 : Int32} {v4_h14 : Int32} {σ0 : ms_T} (h0 : kt σ0 σh14)  : pr (f_X12_spoil_J20 n σh14 v1_h14 v2_h14 v3_h14 v4_h14) (fun res => kt σ0 res.2) := by
  unfold f_X12_spoil_J20
  exact y_X12_spoil_J69 h0 
theorem y_X12_spoil_J64 {n : Nat} {σh22 : ms_T} {v1_h22 : Int32} {v2_h22 : Int32} {v3_h22 : Int32} {v4_h22 : Int32} {σ0 : ms_T} (h0 : kt σ0 σh22)  : pr (f_X12_spoil_J64 n σh22 v1_h22 v2_h22 v3_h22 v4_h22) (fun res => kt σ0 res.2) := by
  unfold f_X12_spoil_J64
  exact y_X12_spoil_J69 h0 
theorem y_X12_spoil {n : Nat} {σ : ms_T} {a1 : Int32} {a2 : Int32} {a3 : Int32} {a4 : Int32} {σ0 : ms_T} (h0 : kt σ0 σ)  : pr (f_X12_spoil n σ a1 a2 a3 a4) (fun res => kt σ0 res.2) := by
  unfold f_X12_spoil
  refine pr_i (fun _ => ?_) (fun _ => ?_)
  ·
    exact y_X12_spoil_J20 h0 
  ·
    refine pr_i (fun _ => ?_) (fun _ => ?_)
    ·
      exact y_X12_spoil_J20 h0 
    ·
      refine pr_b pr_any (fun rh17 _ => ?_)
      refine pr_i (fun _ => ?_) (fun _ => ?_)
      ·
        exact y_X12_spoil_J20 h0 
      ·
        refine pr_b pr_any (fun rh19 _ => ?_)
        refine pr_i (fun _ => ?_) (fun _ => ?_)
        ·
          exact y_X12_spoil_J69 h0 
        ·
          refine pr_b pr_any (fun rh21 _ => ?_)
          refine pr_i (fun _ => ?_) (fun _ => ?_)
          ·
            exact y_X12_spoil_J64 h0 
          ·
            refine pr_g (fun _ _ => ?_)
            refine pr_i (fun _ => ?_) (fun _ => ?_)
            ·
              exact y_X12_spoil_J69 h0 
            ·
              exact y_X12_spoil_J64 h0 
/-! ===== acts keep LX ===== -/
theorem LX_act {α β : hp_T} {x : Nat} {σ τ : ms_T} (h : LX α x σ) (hRW : RWX β x (ms_E τ 40)) (hC : rC (ms_E τ 40)) (hA : AL01 (ms_E τ 40)) (eR : keR x α β) (eK : hp_K β (x + 921) = hp_K α (x + 921)) (e6 : hp_I β 605 x = hp_I α 605 x) (e24 : ∀ j, hp_E β 24 (x + 921) j = hp_E α 24 (x + 921) j) (e5 : ∀ b, x + 922 ≤ b → b < x + 926 → hp_I β 501 b = hp_I α 501 b) (e27 : ∀ b j, x + 922 ≤ b → b < x + 926 → hp_E β 27 b j = hp_E α 27 b j) (k : kt σ τ) (e7 : ms_I τ 667 = ms_I σ 667) : LX β x τ := by
  obtain ⟨h0, h1, h2, h3, ⟨t1, t2⟩, l, h5, h6⟩ := h
  refine ⟨hC, XSH_f h1 eR eK, RWZ_X hRW, hA, ⟨by rw [e6, e7]; exact t1, fun j hj => ?_⟩, l, TYS_e h5 (k.1 664 rfl) (fun j => k.2 45 rfl j), TYC_f h6 eR e5 e27⟩
  rw [e7] at hj
  rw [e24, k.2 47 rfl]; exact t2 j hj
theorem LX_wfs {α β : hp_T} {x : Nat} {σ τ : ms_T} (h : LX α x σ) (hRW : RWX β x (ms_E τ 40)) (hC : rC (ms_E τ 40)) (hA : AL01 (ms_E τ 40)) (w : wfs x α β) (k : kt σ τ) (e7 : ms_I τ 667 = ms_I σ 667) : LX β x τ := by
  obtain ⟨w1, w2, w3, w4, w5, w6⟩ := w
  exact LX_act h hRW hC hA (fun φ b _ _ => by rw [w1]) (by rw [w2]) (w5 605 x (by omega) (fun q => absurd q.1 (by decide))) (fun j => w6 24 _ j (by omega)) (fun b p q => w5 501 b (by omega) (fun q => absurd q.1 (by decide))) (fun b j p q => w6 27 b j (by omega)) k e7
/-! alarms -/
theorem AL_ad {f g : Nat → Int32} {l : List Int32} {a : Int32} (hC : rC f) (h : AL01 f) (hg : adG f l a g) : AL01 g := by
  have h4 := hC.1
  unfold adG at hg
  by_cases ok : adOK f a
  · rw [if_pos ok] at hg
    have hr := ok.1
    exact AL_adF hC h (by omega) ok.2 (by have := ok.2; omega) hg
  · rw [if_neg ok] at hg
    rw [hg]; exact h
theorem AL_fo {f g : Nat → Int32} {a b : Int32} (hC : rC f) (h : AL01 f) (hg : foG f a b g) : AL01 g := by
  have h4 := hC.1
  unfold foG at hg
  by_cases ok : foOK f a b
  · rw [if_pos ok] at hg
    have h3 := ok.2.2.2
    exact AL_foF hC h (by omega) (by omega) hg
  · rw [if_neg ok] at hg
    rw [hg]; exact h
theorem AL_fz {f g : Nat → Int32} {a : Int32} (hC : rC f) (h : AL01 f) (hg : fzG f a g) : AL01 g := by
  unfold fzG at hg
  by_cases ok : (0 ≤ a.toInt ∧ a.toInt < (f 0).toInt) ∧ (f 3).toInt < 16
  · rw [if_pos ok] at hg
    exact AL_fzF hC h (by have := ok.1; omega) ok.2 hg
  · rw [if_neg ok] at hg
    rw [hg]; exact h
theorem AL_sp {f g : Nat → Int32} {a b c d : Int32} (hC : rC f) (h : AL01 f) (hg : spG f a b c d g) : AL01 g := by
  unfold spG at hg
  by_cases ok : spOK f a b c d
  · rw [if_pos ok] at hg
    exact AL_eq hC h (hg.2.2 0 (by omega) (by omega)) (hg.2.2 3 (by omega) (by omega)) (fun j _ _ => hg.2.2 j (by omega) (by omega))
  · rw [if_neg ok] at hg
    rw [hg]; exact h
theorem AL_meF {f g : Nat → Int32} {a b r : Nat} (hC : rC f) (h : AL01 f) (ha : a < 4) (hb : b < 4) (hg : meF f a b r g) : AL01 g := by
  obtain ⟨-, -, h3, h4, -, h6⟩ := hg
  have hc4 := hC.1
  have h60 : ∀ j, j < 76 ∨ 92 ≤ j → j ≠ 4 → g j = f j := fun j p q => h6 j (by omega) (by omega) (by omega) (by omega) q
  refine ⟨?_, FRI_e hC h.2 (by rw [h60 0 (by omega) (by omega)]; omega) (h60 3 (by omega) (by omega)) (fun q hq => by rw [h60 (72 + q) (by omega) (by omega)]; omega) (fun i hi => ⟨h60 _ (by omega) (by omega), h60 _ (by omega) (by omega)⟩)⟩
  intro v hv
  by_cases e : v = a
  · subst e
    rw [h3]
    by_cases c : meW f v b r = 0 ∨ meW f v b r = 5
    · rw [if_pos c]; exact h.1 v hv
    · rw [if_neg c]; exact Or.inr rfl
  · by_cases e2 : v = b
    · subst e2
      rw [h4]
      by_cases c : meW f a v r = 0 ∨ meW f a v r = 5
      · rw [if_pos c]; exact h.1 v hv
      · rw [if_neg c]; exact Or.inr rfl
    · rw [h6 _ (by omega) (by omega) (by omega) (by omega) (by omega)]; exact h.1 v hv
theorem AL_me {f g : Nat → Int32} {a b c : Int32} (hC : rC f) (h : AL01 f) (hg : meG f a b c g) : AL01 g := by
  unfold meG at hg
  by_cases ok : meOK f a b c
  · rw [if_pos ok] at hg
    have h1 := ok.1
    have h2 := ok.2.1
    by_cases q : (f (76 + 4 * b.toInt.toNat)).toInt < (f (76 + 4 * a.toInt.toNat)).toInt
    · rw [if_pos q] at hg
      exact AL_meF hC h (by omega) (by omega) hg
    · rw [if_neg q] at hg
      exact AL_meF hC h (by omega) (by omega) hg
  · rw [if_neg ok] at hg
    rw [hg]; exact h
/-! ===== the tape ===== -/
theorem byte_sh (a : Int32) (v : Int32) (hv : v = 24 ∨ v = 16 ∨ v = 8 ∨ v = 0) : ((a.toUInt32 >>> (v.toUInt32 &&& Int32.toUInt32 31)).toInt32).toInt8 = (a >>> (v &&& 31)).toInt8 := by
  have key : ∀ k : Nat, k ≤ 24 → BitVec.signExtend 8 (a.toBitVec >>> k) = BitVec.signExtend 8 (a.toBitVec.sshiftRight k) := by
    intro k hk
    rw [BitVec.signExtend_eq_setWidth_of_le _ (by decide), BitVec.signExtend_eq_setWidth_of_le _ (by decide)]
    apply BitVec.eq_of_getLsbD_eq
    intro i hi
    rw [BitVec.getLsbD_setWidth, BitVec.getLsbD_setWidth, BitVec.getLsbD_ushiftRight, BitVec.getLsbD_sshiftRight]
    have h1 : ¬ 32 ≤ i := by omega
    have h2 : k + i < 32 := by omega
    simp [h1, h2]
  rw [← Int8.toBitVec_inj]
  rcases hv with e | e | e | e <;> subst e
  · have h1 : (UInt32.mod (Int32.toUInt32 24 &&& Int32.toUInt32 31) 32).toBitVec.toNat = 24 := by decide
    have h2 : (((24 : Int32) &&& 31).toBitVec.smod 32).toNat = 24 := by decide
    show BitVec.signExtend 8 (a.toBitVec >>> (UInt32.mod (Int32.toUInt32 24 &&& Int32.toUInt32 31) 32).toBitVec.toNat) = BitVec.signExtend 8 (a.toBitVec.sshiftRight (((24 : Int32) &&& 31).toBitVec.smod 32).toNat)
    rw [h1, h2]
    exact key 24 (by omega)
  · have h1 : (UInt32.mod (Int32.toUInt32 16 &&& Int32.toUInt32 31) 32).toBitVec.toNat = 16 := by decide
    have h2 : (((16 : Int32) &&& 31).toBitVec.smod 32).toNat = 16 := by decide
    show BitVec.signExtend 8 (a.toBitVec >>> (UInt32.mod (Int32.toUInt32 16 &&& Int32.toUInt32 31) 32).toBitVec.toNat) = BitVec.signExtend 8 (a.toBitVec.sshiftRight (((16 : Int32) &&& 31).toBitVec.smod 32).toNat)
    rw [h1, h2]
    exact key 16 (by omega)
  · have h1 : (UInt32.mod (Int32.toUInt32 8 &&& Int32.toUInt32 31) 32).toBitVec.toNat = 8 := by decide
    have h2 : (((8 : Int32) &&& 31).toBitVec.smod 32).toNat = 8 := by decide
    show BitVec.signExtend 8 (a.toBitVec >>> (UInt32.mod (Int32.toUInt32 8 &&& Int32.toUInt32 31) 32).toBitVec.toNat) = BitVec.signExtend 8 (a.toBitVec.sshiftRight (((8 : Int32) &&& 31).toBitVec.smod 32).toNat)
    rw [h1, h2]
    exact key 8 (by omega)
  · have h1 : (UInt32.mod (Int32.toUInt32 0 &&& Int32.toUInt32 31) 32).toBitVec.toNat = 0 := by decide
    have h2 : (((0 : Int32) &&& 31).toBitVec.smod 32).toNat = 0 := by decide
    show BitVec.signExtend 8 (a.toBitVec >>> (UInt32.mod (Int32.toUInt32 0 &&& Int32.toUInt32 31) 32).toBitVec.toNat) = BitVec.signExtend 8 (a.toBitVec.sshiftRight (((0 : Int32) &&& 31).toBitVec.smod 32).toNat)
    rw [h1, h2]
    exact key 0 (by omega)
/-- bytes come behind those on the tape -/
def tfr (x : Nat) (α β : hp_T) : Prop := hp_R β = hp_R α ∧ hp_K β = hp_K α ∧ hp_Q β = hp_Q α ∧ hp_N β = hp_N α ∧ (∀ φ b, ¬ (φ = 605 ∧ b = x) → hp_I β φ b = hp_I α φ b) ∧ ∀ κ b j, ¬ (κ = 24 ∧ b = x + 921) → hp_E β κ b j = hp_E α κ b j
theorem tfr_rf {x : Nat} {α : hp_T} : tfr x α α := ⟨rfl, rfl, rfl, rfl, fun _ _ _ => rfl, fun _ _ _ _ => rfl⟩
theorem tfr_tr {x : Nat} {α β γ : hp_T} (h : tfr x α β) (g : tfr x β γ) : tfr x α γ := by
  obtain ⟨h1, h2, h3, h4, h5, h6⟩ := h
  obtain ⟨g1, g2, g3, g4, g5, g6⟩ := g
  exact ⟨g1.trans h1, g2.trans h2, g3.trans h3, g4.trans h4, fun φ b q => (g5 φ b q).trans (h5 φ b q), fun κ b j q => (g6 κ b j q).trans (h6 κ b j q)⟩
def k5 (σ τ : ms_T) : Prop := ms_I τ 664 = ms_I σ 664 ∧ ∀ κ, (κ == 40 || κ == 45) = true → ∀ j, ms_E τ κ j = ms_E σ κ j
theorem k5_tr {σ τ υ : ms_T} (h : k5 σ τ) (g : k5 τ υ) : k5 σ υ := ⟨g.1.trans h.1, fun κ hκ j => (g.2 κ hκ j).trans (h.2 κ hκ j)⟩
theorem r_puts (n : Nat) (x : Nat) (a : Int32) : ∀ (d : Nat) (vI : Int32) (α : hp_T) (σ τ : ms_T) (m : Nat), (∃ q : Nat, q ≤ 4 ∧ q + 1 ≤ m ∧ vI.toInt = 8 * (q : Int) - 8) → hp_R α 604 x = x + 921 → TPX α x σ → 0 ≤ (ms_I σ 667).toInt → (ms_I σ 667).toInt ≤ 900 → f_X12_puts_L3 n d σ a vI = some τ → ws (f_X11_putOnTape_L3 n x m α a vI) (fun β => TPX β x τ ∧ tfr x α β ∧ k5 σ τ ∧ 0 ≤ (ms_I τ 667).toInt ∧ (ms_I τ 667).toInt ≤ 900) := by
  intro d
  induction d with
  | zero => intro vI α σ τ m hq hR hT h0 h9 e; rw [f_X12_puts_L3.eq_1] at e; cases e
  | succ d ih =>
    intro vI α σ τ m hq hR hT h0 h9 e
    obtain ⟨q, hq4, hqm, hvq⟩ := hq
    obtain ⟨m, rfl⟩ : ∃ k, m = k + 1 := ⟨m - 1, by omega⟩
    rw [f_X12_puts_L3.eq_2] at e
    rw [f_X11_putOnTape_L3.eq_2]
    refine ws_i (fun hn => ?_) (fun hn => ?_)
    · rw [if_pos hn] at e
      cases e
      exact ws_s ⟨hT, tfr_rf, ⟨rfl, fun _ _ _ => rfl⟩, h0, h9⟩
    · rw [if_neg hn] at e
      have hn' := il_nlt hn
      rw [lt0] at hn'
      replace e := ms_gE e
      obtain ⟨⟨-, g1⟩, e⟩ := e
      replace e := ms_lE rfl (ms_lE rfl (ms_lE rfl e))
      have t900 := t_900
      have hv4 : vI = 24 ∨ vI = 16 ∨ vI = 8 ∨ vI = 0 := by
        have : q = 4 ∨ q = 3 ∨ q = 2 ∨ q = 1 := by omega
        rcases this with rfl | rfl | rfl | rfl
        · exact Or.inl (Int32.toInt_inj.mp (by rw [hvq]; decide))
        · exact Or.inr (Or.inl (Int32.toInt_inj.mp (by rw [hvq]; decide)))
        · exact Or.inr (Or.inr (Or.inl (Int32.toInt_inj.mp (by rw [hvq]; decide))))
        · exact Or.inr (Or.inr (Or.inr (Int32.toInt_inj.mp (by rw [hvq]; decide))))
      refine ws_l ?_
      rw [hT.1]
      refine ws_lt (fun c => by rw [lt0] at c; omega) (fun _ => ws_l (ws_l ?_))
      refine ws_le (fun c => by rw [t900] at c; omega) (fun _ => ws_l (ws_l ?_))
      refine ws_g h0 g1 (ws_l (ws_l (ws_l ?_)))
      unfold f_X11_putOnTape_J49
      refine ws_l ?_
      rw [hR, byte_sh a vI hv4]
      have ec : (ms_I σ 667).toNatClampNeg = (ms_I σ 667).toInt.toNat := cl_n (by omega)
      have e1 : (ms_I σ 667 + 1).toInt = (ms_I σ 667).toInt + 1 := by rw [iw_add, lt1]; omega
      have e8 : (vI + (-8)).toInt = 8 * ((q - 1 : Nat) : Int) - 8 := by
        have m8 : ((-8 : Int32)).toInt = -8 := by decide
        rw [iw_add, m8]; omega
      obtain ⟨by0, hby⟩ : ∃ u, u = (((a >>> (vI &&& 31))).toInt8.toInt32).toInt8.toInt32 := ⟨_, rfl⟩
      rw [← hby] at e ⊢
      rw [hI_sE, hT.1, ec]
      rw [ec, mI_sE] at e
      have hT2 : TPX (hp_sI (hp_sE α 24 (x + 921) (ms_I σ 667).toInt.toNat by0) 605 x (ms_I σ 667 + 1)) x (ms_sI (ms_sE σ 47 (ms_I σ 667).toInt.toNat by0) 667 (ms_I σ 667 + 1)) := by
        refine ⟨by rw [hI_sI, if_pos ⟨rfl, rfl⟩, mI_sI, if_pos rfl], fun j hj => ?_⟩
        rw [mI_sI, if_pos rfl, e1] at hj
        rw [hE_sI, hE_sE, mE_sI, mE_sE]
        by_cases ej : j = (ms_I σ 667).toInt.toNat
        · rw [if_pos ⟨rfl, rfl, ej⟩, if_pos ⟨rfl, ej⟩]
        · rw [if_neg (fun q => ej q.2.2), if_neg (fun q => ej q.2)]
          exact hT.2 j (by omega)
      refine ws_m (ih _ _ _ τ m ⟨q - 1, by omega, by omega, e8⟩ hR hT2 (by rw [mI_sI, if_pos rfl]; omega) (by rw [mI_sI, if_pos rfl, e1]; omega) e) (fun β hβ => ?_)
      · obtain ⟨b1, b2, b3, b4, b5⟩ := hβ
        refine ⟨b1, tfr_tr (β := hp_sI (hp_sE α 24 (x + 921) (ms_I σ 667).toInt.toNat by0) 605 x (ms_I σ 667 + 1)) ⟨rfl, rfl, rfl, rfl, fun φ b q => by rw [hI_sI, if_neg q, hI_sE], fun κ b j q => by rw [hE_sI, hE_sE, if_neg (fun z => q ⟨z.1, z.2.1⟩)]⟩ b2, k5_tr (τ := ms_sI (ms_sE σ 47 (ms_I σ 667).toInt.toNat by0) 667 (ms_I σ 667 + 1)) ⟨rfl, fun κ hκ j => ?_⟩ b3, b4, b5⟩
        rw [mE_sI, mE_sE, if_neg (fun z => by rw [z.1] at hκ; cases hκ)]
theorem r_put1 (n : Nat) (hn : 70000 ≤ n) {x : Nat} (a : Int32) {α : hp_T} {σ τ : ms_T} (hR : hp_R α 604 x = x + 921) (hT : TPX α x σ) (h0 : 0 ≤ (ms_I σ 667).toInt) (h9 : (ms_I σ 667).toInt ≤ 900) (e : f_X12_puts n σ a = some τ) : ws (f_X11_putOnTape n α x a) (fun β => TPX β x τ ∧ tfr x α β ∧ k5 σ τ ∧ 0 ≤ (ms_I τ 667).toInt ∧ (ms_I τ 667).toInt ≤ 900) := by
  unfold f_X12_puts at e
  unfold f_X11_putOnTape
  exact r_puts n x a n 24 α σ τ n ⟨4, by omega, by omega, by decide⟩ hR hT h0 h9 e
theorem r_feed (n : Nat) (hn : 70000 ≤ n) {x : Nat} {α : hp_T} {σ : ms_T} (hR : hp_R α 604 x = x + 921) (hT : TPX α x σ) (h0 : 0 ≤ (ms_I σ 667).toInt) (h9 : (ms_I σ 667).toInt ≤ 900) (a b c d f : Int32) (res : Int32 × ms_T) (e : f_X12_feed n σ a b c d f = some res) : ws (f_X11_feed n α x a b c d f) (fun r => r.1 = res.1 ∧ TPX r.2 x res.2 ∧ tfr x α r.2 ∧ k5 σ res.2) := by
  unfold f_X12_feed at e
  replace e := ms_lE rfl e
  unfold f_X11_feed
  refine ws_l ?_
  rw [hT.1]
  have hT0 : TPX α x (ms_sI σ 653 0) := hT
  have hk0 : k5 σ (ms_sI σ 653 0) := ⟨rfl, fun _ _ _ => rfl⟩
  refine ws_i (fun hc => ?_) (fun hc => ?_)
  · have hc' : (ms_I (ms_sI σ 653 0) 667) + (20 : Int32) ≤ (900 : Int32) := hc
    rw [if_pos hc'] at e
    replace e := ms_bE e
    obtain ⟨σ1, e1, e⟩ := e
    replace e := ms_bE e
    obtain ⟨σ2, e2, e⟩ := e
    replace e := ms_bE e
    obtain ⟨σ3, e3, e⟩ := e
    replace e := ms_bE e
    obtain ⟨σ4, e4, e⟩ := e
    replace e := ms_bE e
    obtain ⟨σ5, e5, e⟩ := e
    cases e
    refine ws_b (r_put1 n hn a hR hT0 h0 h9 e1) (fun β1 p1 => ?_)
    refine ws_b (r_put1 n hn b (by rw [p1.2.1.1]; exact hR) p1.1 p1.2.2.2.1 p1.2.2.2.2 e2) (fun β2 p2 => ?_)
    refine ws_b (r_put1 n hn c (by rw [p2.2.1.1, p1.2.1.1]; exact hR) p2.1 p2.2.2.2.1 p2.2.2.2.2 e3) (fun β3 p3 => ?_)
    refine ws_b (r_put1 n hn d (by rw [p3.2.1.1, p2.2.1.1, p1.2.1.1]; exact hR) p3.1 p3.2.2.2.1 p3.2.2.2.2 e4) (fun β4 p4 => ?_)
    refine ws_b (r_put1 n hn f (by rw [p4.2.1.1, p3.2.1.1, p2.2.1.1, p1.2.1.1]; exact hR) p4.1 p4.2.2.2.1 p4.2.2.2.2 e5) (fun β5 p5 => ws_l (ws_s ?_))
    exact ⟨p5.1.1, p5.1, tfr_tr p1.2.1 (tfr_tr p2.2.1 (tfr_tr p3.2.1 (tfr_tr p4.2.1 p5.2.1))), k5_tr hk0 (k5_tr p1.2.2.1 (k5_tr p2.2.2.1 (k5_tr p3.2.2.1 (k5_tr p4.2.2.1 p5.2.2.1))))⟩
  · have hc' : ¬ (ms_I (ms_sI σ 653 0) 667) + (20 : Int32) ≤ (900 : Int32) := hc
    rw [if_neg hc'] at e
    cases e
    exact ws_s ⟨rfl, hT0, tfr_rf, hk0⟩
theorem LX_tape {α β : hp_T} {x : Nat} {σ τ : ms_T} (h : LX α x σ) (hT : TPX β x τ) (f : tfr x α β) (k : k5 σ τ) : LX β x τ := by
  obtain ⟨h0, h1, h2, h3, -, l, h5, h6⟩ := h
  obtain ⟨f1, f2, f3, f4, f5, f6⟩ := f
  have e40 : ms_E τ 40 = ms_E σ 40 := funext (fun j => k.2 40 rfl j)
  refine ⟨by rw [e40]; exact h0, XSH_f h1 (fun φ b _ _ => by rw [f1]) (by rw [f2]), ?_, by rw [e40]; exact h3, hT, l, TYS_e h5 k.1 (fun j => k.2 45 rfl j), TYC_f h6 (fun φ b _ _ => by rw [f1]) (fun b p q => f5 501 b (fun z => absurd z.1 (by decide))) (fun b j p q => f6 27 b j (fun z => absurd z.1 (by decide)))⟩
  rw [e40]
  refine RWZ_f h2 h0 (fun φ b _ _ => by rw [f1]) (fun κ b j _ => by rw [f3]) (fun φ b _ r => f5 φ b (fun z => ?_)) (fun κ b j _ r => f6 κ b j (fun z => by omega)) (fun _ _ _ _ => rfl)
  rw [z.1] at r; cases r
/-! ===== hear leaves all but the tape ===== -/
def whe (w : cw_W) : Bool := w.1.all (fun φ => !(okI φ)) && w.2.1.all (fun φ => !(okR φ)) && w.2.2.1.all (fun κ => !(κ == 27) && !(κ == 29) && !(κ == 24))
theorem LX_hear {w : cw_W} {α β : hp_T} {x : Nat} {σ τ : ms_T} {n : Int32} (h : LX α x σ) (c : cw w α β) (hw : whe w = true) (hc : ld_C (hp_I α 605 x) n (hp_I β 605 x)) (hm : ld_M σ n τ) (k : kq σ τ) (hC : rC (ms_E τ 40)) : LX β x τ := by
  obtain ⟨h0, h1, h2, h3, ⟨t1, t2⟩, l, h5, h6⟩ := h
  obtain ⟨c0, c1, c2, c3, c4, c5, c6, c7, c8⟩ := c
  simp only [whe, Bool.and_eq_true, List.all_eq_true] at hw
  have i1 : ∀ φ, okI φ = true → φ ∉ w.1 := fun φ e q => by have := hw.1.1 _ q; rw [e] at this; simp at this
  have r1 : ∀ φ, okR φ = true → φ ∉ w.2.1 := fun φ e q => by have := hw.1.2 _ q; rw [e] at this; simp at this
  have j0 : ∀ κ, κ = 27 ∨ κ = 29 ∨ κ = 24 → κ ∉ w.2.2.1 := fun κ e q => by have := hw.2 _ q; rcases e with e | e | e <;> rw [e] at this <;> simp at this
  refine ⟨hC, XSH_f h1 (fun φ b _ r => by rw [c6 φ (r1 φ r)]) (by rw [c1]), RWZ_f h2 h0 (fun φ b _ r => by rw [c6 φ (r1 φ r)]) (fun κ b j _ => by rw [c3]) (fun φ b _ r => by rw [c5 φ (i1 φ r)]) (fun κ b j _ r => by rw [c7 κ (j0 κ (by omega))]) (cel_kq k), AL_cel h0 h3 (cel_kq k), ?_, l, TYS_e h5 (k.1 664 rfl) (fun j => k.2 45 rfl j), TYC_f h6 (fun φ b _ r => by rw [c6 φ (r1 φ r)]) (fun b p q => by rw [c5 501 (i1 501 rfl)]) (fun b j p q => by rw [c7 27 (j0 27 (Or.inl rfl))])⟩
  have e24 : ∀ b j, hp_E β 24 b j = hp_E α 24 b j := fun b j => by rw [c7 24 (j0 24 (by omega))]
  rw [t1] at hc
  have e5 := ld_dd hc hm
  refine ⟨e5, fun j hj => ?_⟩
  rw [e24, k.2 47 rfl]
  rcases hm with ⟨-, q⟩ | ⟨-, q⟩
  · rw [q] at hj; exact t2 j hj
  · rw [q, lt0] at hj; omega
/-! ===== type and load keep LX ===== -/
theorem LX_type {α β : hp_T} {x : Nat} {σ τ : ms_T} {L : List Int32} {r1 r2 : Int32} (h : LX α x σ) (hc : CPo (hp_R α 607 x) x α L (r1, β)) (hm : TPo σ L (r2, τ)) (hr : r1 = r2) (e7 : ms_I τ 667 = ms_I σ 667) : LX β x τ := by
  obtain ⟨h0, h1, h2, h3, ⟨t1, t2⟩, l, h5, h6⟩ := h
  obtain ⟨y1, y2, y3, y4⟩ := id h6
  have huw : hp_R α 607 x = x + 922 ∨ hp_R α 607 x = x + 924 := by rcases y1 with q | q; exact Or.inr q.2; exact Or.inl q.2
  have hu5 : x + 922 ≤ hp_R α 500 (hp_R α 607 x) ∧ hp_R α 500 (hp_R α 607 x) < x + 926 ∧ (hp_R α 607 x = x + 922 → hp_R α 500 (hp_R α 607 x) = x + 923) ∧ (hp_R α 607 x = x + 924 → hp_R α 500 (hp_R α 607 x) = x + 925) := by
    rcases huw with q | q
    · rw [q, y2]; omega
    · rw [q, y3]; omega
  -- what a change of the untyped word leaves
  have hdf : ∀ γ, df (hp_R α 607 x) α γ → XSH γ x ∧ RWZ γ x (ms_E σ 40) ∧ TPX γ x σ ∧ TYC γ x l := by
    intro γ hd
    obtain ⟨f1, f2, f3, f4, f5, f6⟩ := hd
    refine ⟨XSH_f h1 (fun φ b _ _ => by rw [f1]) (by rw [f2]), ?_, ⟨by rw [f5 605 x (fun z => absurd z.2 (by decide))]; exact t1, fun j hj => by rw [f6 24 _ j (fun z => absurd z.1 (by decide))]; exact t2 j hj⟩, ?_⟩
    · obtain ⟨w, u, g1, g2, g3, g4, g5⟩ := h2
      refine ⟨w, u, by rw [f1]; exact g1, by rw [f1]; exact g2, g3, WZ_z g4 h0 (fun φ b _ _ _ => by rw [f1]) (fun κ b j _ _ => by rw [f3]) (fun φ b p q r => f5 φ b (fun z => by omega)) (fun κ b j p q r => f6 κ b j (fun z => by omega)), SHW_z g5 (fun φ b _ _ _ => by rw [f1]) (fun κ b j _ _ => by rw [f3])⟩
    · refine ⟨by rw [f1]; exact y1, by rw [f1]; exact y2, by rw [f1]; exact y3, ?_⟩
      rw [f1]
      have hne : hp_R α 606 x ≠ hp_R α 607 x := by omega
      have hn5 : hp_R α 500 (hp_R α 606 x) ≠ hp_R α 500 (hp_R α 607 x) := by
        rcases y1 with q | q
        · rw [q.1, q.2, y2, y3]; omega
        · rw [q.1, q.2, y2, y3]; omega
      exact WD_df y4 ⟨f1, f2, f3, f4, f5, f6⟩ hne hn5
  rcases hm with ⟨m1, k⟩ | ⟨m1, m2, k⟩
  · have hr1 : r1 = -1 := hr.trans m1
    rcases hc with ⟨-, d⟩ | ⟨q, -⟩
    · obtain ⟨a1, a2, a3, a4⟩ := hdf β d
      have e40 : ms_E τ 40 = ms_E σ 40 := funext (fun j => k.2 40 rfl j)
      exact ⟨by rw [e40]; exact h0, a1, by rw [e40]; exact a2, by rw [e40]; exact h3, TPX_e a3 e7 (fun j => k.2 47 rfl j), l, TYS_e h5 (k.1 664 rfl) (fun j => k.2 45 rfl j), a4⟩
    · exact absurd hr1 q
  · rcases hc with ⟨q, -⟩ | ⟨-, γ, d, hW, hβ⟩
    · exact absurd (hr.symm.trans q) m1
    · obtain ⟨a1, a2, a3, a4⟩ := hdf γ d
      have e40 : ms_E τ 40 = ms_E σ 40 := funext (fun j => k 40 rfl j)
      replace hβ : β = hp_sR (hp_sR γ 606 x (hp_R α 607 x)) 607 x (hp_R γ 606 x) := hβ
      have bR : ∀ φ b, ¬ (b = x ∧ (φ = 606 ∨ φ = 607)) → hp_R β φ b = hp_R γ φ b := fun φ b hb => by
        rw [hβ, hR_sR, if_neg (fun z => hb ⟨z.2, Or.inr z.1⟩), hR_sR, if_neg (fun z => hb ⟨z.2, Or.inl z.1⟩)]
      have b606 : hp_R β 606 x = hp_R α 607 x := by rw [hβ, hR_sR, if_neg (fun z => absurd z.1 (by decide)), hR_sR, if_pos ⟨rfl, rfl⟩]
      have b607 : hp_R β 607 x = hp_R γ 606 x := by rw [hβ, hR_sR, if_pos ⟨rfl, rfl⟩]
      have bI : hp_I β = hp_I γ := by rw [hβ]; rfl
      have bE : hp_E β = hp_E γ := by rw [hβ]; rfl
      have bK : hp_K β = hp_K γ := by rw [hβ]; rfl
      have bQ : hp_Q β = hp_Q γ := by rw [hβ]; rfl
      have g606 : hp_R γ 606 x = hp_R α 606 x := by rw [d.1]
      refine ⟨by rw [e40]; exact h0, ?_, ?_, by rw [e40]; exact h3, TPX_e ⟨by rw [bI]; exact a3.1, fun j hj => by rw [bE]; exact a3.2 j hj⟩ e7 (fun j => k 47 rfl j), L, m2, ?_, ?_, ?_, ?_⟩
      · obtain ⟨z1, z2, z3, z4, z5, z6, z7, z8⟩ := a1
        exact ⟨by rw [bR _ _ (by omega)]; exact z1, by rw [bR _ _ (by omega)]; exact z2, by rw [bR _ _ (by omega)]; exact z3, by rw [bK]; exact z4, by rw [bR _ _ (by omega)]; exact z5, by rw [bR _ _ (by omega)]; exact z6, by rw [bR _ _ (by omega)]; exact z7, by rw [bR _ _ (by omega)]; exact z8⟩
      · rw [e40]
        obtain ⟨w, u, g1, g2, g3, g4, g5⟩ := a2
        exact ⟨w, u, by rw [bR _ _ (by omega)]; exact g1, by rw [bR _ _ (by omega)]; exact g2, g3, WZ_z g4 h0 (fun φ b p q r => bR φ b (by omega)) (fun κ b j _ _ => by rw [bQ]) (fun φ b _ _ _ => by rw [bI]) (fun κ b j _ _ _ => by rw [bE]), SHW_z g5 (fun φ b p q r => bR φ b (by omega)) (fun κ b j _ _ => by rw [bQ])⟩
      · rw [b606, b607, g606]; omega
      · rw [bR _ _ (by omega)]; exact a4.2.1
      · rw [bR _ _ (by omega)]; exact a4.2.2.1
      · rw [b606]
        obtain ⟨v1, v2, v3, v4⟩ := hW
        exact ⟨v1, by rw [bI]; exact v2, fun i hi => by rw [bR _ _ (by omega), bE]; exact v3 i hi, v4⟩
end JN10_6
section JN10_7
set_option maxRecDepth 100000
/-! ===== what the constructors of records and worlds make ===== -/
theorem sQ_at {α : hp_T} {κ a j : Nat} {v : Option Nat} : hp_Q (hp_sQ α κ a j v) κ a j = v := by simp [hp_Q, hp_sQ, hp_uq]
theorem sQ_ne {α : hp_T} {κ a j i : Nat} {v : Option Nat} (h : i ≠ j) : hp_Q (hp_sQ α κ a j v) κ a i = hp_Q α κ a i := by simp [hp_Q, hp_sQ, hp_uq, h]
def LG (α : hp_T) (h a j : Nat) (β : hp_T) : Prop := (∀ b, b ≠ a → b < h ∨ h + (2 + 2 * j) ≤ b → sa α β b) ∧ hp_N β 150 a = some h ∧ hp_N β 151 a = some (h + 1) ∧ hp_I β 152 a = 0 ∧ ∀ i, i < j → hp_Q β 28 h i = some (h + (2 + 2 * i)) ∧ hp_R β 500 (h + (2 + 2 * i)) = h + (2 + 2 * i) + 1
theorem LG_0 (α : hp_T) (h a : Nat) (ha : a < h) : LG α h a 0 (FL_X2_init_28 α h a 0) := by
  show LG α h a 0 (F_X2_init_5 α h a)
  have n1 : sa α (F_X2_init_1 α h a) a := sa_nw (α := α) (h := h + 0) (κ := 28) (by omega)
  have n3 : sa (F_X2_init_2 α h a) (F_X2_init_3 α h a) a := sa_nw (h := h + 1) (κ := 29) (by omega)
  refine ⟨fun b hb hq => ?_, ?_, ?_, ?_, fun i hi => by omega⟩
  · exact sa_tr (sa_nw (α := α) (h := h + 0) (κ := 28) (by omega)) (sa_tr (sa_sN hb) (sa_tr (sa_nw (α := F_X2_init_2 α h a) (h := h + 1) (κ := 29) (by omega)) (sa_tr (sa_sN hb) (sa_sI hb))))
  · have e1 : hp_N (F_X2_init_5 α h a) 150 a = hp_N (F_X2_init_3 α h a) 150 a := hN_sI.trans (sN_ne (by decide))
    rw [e1, n3.2.2.2.2.1 150]
    exact sN_at
  · have e1 : hp_N (F_X2_init_5 α h a) 151 a = hp_N (F_X2_init_4 α h a) 151 a := hN_sI
    rw [e1]
    exact sN_at
  · exact hp_I_at
theorem LG_s (α : hp_T) (h a : Nat) (ha : a < h) (j : Nat) (g : LG α h a j (FL_X2_init_28 α h a j)) : LG α h a (j + 1) (FL_X2_init_28 α h a (j + 1)) := by
  obtain ⟨g1, g2, g3, g4, g5⟩ := g
  obtain ⟨β, hβ⟩ : ∃ β, β = FL_X2_init_28 α h a j := ⟨_, rfl⟩
  have hF : FL_X2_init_28 α h a (j + 1) = hp_sQ (F_X9_init (hp_nw β (h + (2 + 2 * j)) 110) (h + (2 + 2 * j + 1)) (h + (2 + 2 * j))) 28 h j (some (h + (2 + 2 * j))) := by
    rw [FL_X2_init_28, ← hβ]
    rw [← hβ] at g2
    rw [g2]; rfl
  rw [← hβ] at g1 g2 g3 g4 g5
  rw [hF]
  have s1 : ∀ b, b ≠ h + (2 + 2 * j) → b < h + (2 + 2 * j + 1) ∨ h + (2 + 2 * j + 1) + 1 ≤ b → sa β (F_X9_init (hp_nw β (h + (2 + 2 * j)) 110) (h + (2 + 2 * j + 1)) (h + (2 + 2 * j))) b := fun b h1 h2 => sa_tr (sa_nw h1) (fr_X9 _ _ _ (by omega) b h1 h2)
  have s2 : ∀ b, b ≠ h → b ≠ h + (2 + 2 * j) → b < h + (2 + 2 * j + 1) ∨ h + (2 + 2 * j + 1) + 1 ≤ b → sa β (hp_sQ (F_X9_init (hp_nw β (h + (2 + 2 * j)) 110) (h + (2 + 2 * j + 1)) (h + (2 + 2 * j))) 28 h j (some (h + (2 + 2 * j)))) b := fun b h0 h1 h2 => sa_tr (s1 b h1 h2) (sa_sQ h0)
  have sA := s2 a (by omega) (by omega) (by omega)
  refine ⟨fun b hb hq => sa_tr (g1 b hb (by omega)) (s2 b (by omega) (by omega) (by omega)), (sA.2.2.2.2.1 150).trans g2, (sA.2.2.2.2.1 151).trans g3, (sA.2.1 152).trans g4, fun i hi => ?_⟩
  by_cases e : i = j
  · subst e
    refine ⟨sQ_at, ?_⟩
    show hp_R (F_X9_init (hp_nw β (h + (2 + 2 * i)) 110) (h + (2 + 2 * i + 1)) (h + (2 + 2 * i))) 500 (h + (2 + 2 * i)) = _
    rw [fd_X9_500 _ _ _ (by omega)]; omega
  · obtain ⟨q1, q2⟩ := g5 i (by omega)
    refine ⟨?_, ?_⟩
    · rw [sQ_ne e, (s1 h (by omega) (by omega)).2.2.2.2.2.2.2 28 i]; exact q1
    · rw [(s2 (h + (2 + 2 * i)) (by omega) (by omega) (by omega)).2.2.2.1 500]; exact q2
theorem LG_a (α : hp_T) (h a : Nat) (ha : a < h) : ∀ j, LG α h a j (FL_X2_init_28 α h a j) := by
  intro j
  induction j with
  | zero => exact LG_0 α h a ha
  | succ j ih => exact LG_s α h a ha j ih
def LGF (α : hp_T) (h a : Nat) (β : hp_T) : Prop := (∀ b, b ≠ a → b < h ∨ h + 98 ≤ b → sa α β b) ∧ hp_R β 150 a = h ∧ hp_R β 151 a = h + 1 ∧ hp_I β 152 a = 0 ∧ ∀ i, i < 48 → hp_Q β 28 h i = some (h + (2 + 2 * i)) ∧ hp_R β 500 (h + (2 + 2 * i)) = h + (2 + 2 * i) + 1
theorem LG_f (α : hp_T) (h a : Nat) (ha : a < h) : LGF α h a (F_X2_init α h a) := by
  obtain ⟨g1, g2, g3, g4, g5⟩ := LG_a α h a ha 48
  have c : ∀ b, b ≠ a → sa (FL_X2_init_28 α h a 48) (F_X2_init α h a) b := fun b hb => sa_cv hb
  refine ⟨fun b hb hq => sa_tr (g1 b hb (by omega)) (c b hb), cv_R g2, cv_R g3, g4, fun i hi => ?_⟩
  obtain ⟨q1, q2⟩ := g5 i hi
  exact ⟨(c h (by omega)).2.2.2.2.2.2.2 28 i ▸ q1, ((c (h + (2 + 2 * i)) (by omega)).2.2.2.1 500).trans q2⟩
theorem so_X10_1 (α : hp_T) (h a b : Nat) (hb : b ≠ a)  : sa (F_X10_init_0 α h a) (F_X10_init_1 α h a) b := sa_sI hb
theorem ka_X10_2 (α : hp_T) (h a : Nat) (ha : a < h) (φ : Nat) : hp_N (F_X10_init_2 α h a) φ a = hp_N (F_X10_init_1 α h a) φ a ∧ hp_I (F_X10_init_2 α h a) φ a = hp_I (F_X10_init_1 α h a) φ a := by
  have q := sa_nw (α := (F_X10_init_1 α h a)) (h := h + (0)) (κ := 30) (b := a) (by omega)
  exact ⟨q.2.2.2.2.1 φ, q.2.1 φ⟩
theorem so_X10_2 (α : hp_T) (h a b : Nat) (hb : b ≠ a) (hb2 : b ≠ h + (0)) : sa (F_X10_init_1 α h a) (F_X10_init_2 α h a) b := sa_nw hb2
theorem ka_X10_3 (α : hp_T) (h a : Nat) (ha : a < h) (φ : Nat) (hφ : φ ≠ 551) : hp_N (F_X10_init_3 α h a) φ a = hp_N (F_X10_init_2 α h a) φ a ∧ hp_I (F_X10_init_3 α h a) φ a = hp_I (F_X10_init_2 α h a) φ a := ⟨sN_ne hφ, hI_sN⟩
theorem so_X10_3 (α : hp_T) (h a b : Nat) (hb : b ≠ a)  : sa (F_X10_init_2 α h a) (F_X10_init_3 α h a) b := sa_sN hb
theorem ka_X10_4 (α : hp_T) (h a : Nat) (ha : a < h) (φ : Nat) (hφ : φ ≠ 552) : hp_N (F_X10_init_4 α h a) φ a = hp_N (F_X10_init_3 α h a) φ a ∧ hp_I (F_X10_init_4 α h a) φ a = hp_I (F_X10_init_3 α h a) φ a := ⟨hN_sI, hp_I_ne hφ⟩
theorem so_X10_4 (α : hp_T) (h a b : Nat) (hb : b ≠ a)  : sa (F_X10_init_3 α h a) (F_X10_init_4 α h a) b := sa_sI hb
theorem ka_X10_5 (α : hp_T) (h a : Nat) (ha : a < h) (φ : Nat) : hp_N (F_X10_init_5 α h a) φ a = hp_N (F_X10_init_4 α h a) φ a ∧ hp_I (F_X10_init_5 α h a) φ a = hp_I (F_X10_init_4 α h a) φ a := by
  have q := sa_nw (α := (F_X10_init_4 α h a)) (h := h + (1)) (κ := 31) (b := a) (by omega)
  exact ⟨q.2.2.2.2.1 φ, q.2.1 φ⟩
theorem so_X10_5 (α : hp_T) (h a b : Nat) (hb : b ≠ a) (hb2 : b ≠ h + (1)) : sa (F_X10_init_4 α h a) (F_X10_init_5 α h a) b := sa_nw hb2
theorem ka_X10_6 (α : hp_T) (h a : Nat) (ha : a < h) (φ : Nat) (hφ : φ ≠ 553) : hp_N (F_X10_init_6 α h a) φ a = hp_N (F_X10_init_5 α h a) φ a ∧ hp_I (F_X10_init_6 α h a) φ a = hp_I (F_X10_init_5 α h a) φ a := ⟨sN_ne hφ, hI_sN⟩
theorem so_X10_6 (α : hp_T) (h a b : Nat) (hb : b ≠ a)  : sa (F_X10_init_5 α h a) (F_X10_init_6 α h a) b := sa_sN hb
theorem ka_X10_7 (α : hp_T) (h a : Nat) (ha : a < h) (φ : Nat) (hφ : φ ≠ 554) : hp_N (F_X10_init_7 α h a) φ a = hp_N (F_X10_init_6 α h a) φ a ∧ hp_I (F_X10_init_7 α h a) φ a = hp_I (F_X10_init_6 α h a) φ a := ⟨hN_sI, hp_I_ne hφ⟩
theorem so_X10_7 (α : hp_T) (h a b : Nat) (hb : b ≠ a)  : sa (F_X10_init_6 α h a) (F_X10_init_7 α h a) b := sa_sI hb
theorem ka_X10_8 (α : hp_T) (h a : Nat) (ha : a < h) (φ : Nat) : hp_N (F_X10_init_8 α h a) φ a = hp_N (F_X10_init_7 α h a) φ a ∧ hp_I (F_X10_init_8 α h a) φ a = hp_I (F_X10_init_7 α h a) φ a := by
  have q := sa_nw (α := (F_X10_init_7 α h a)) (h := h + (2)) (κ := 32) (b := a) (by omega)
  exact ⟨q.2.2.2.2.1 φ, q.2.1 φ⟩
theorem so_X10_8 (α : hp_T) (h a b : Nat) (hb : b ≠ a) (hb2 : b ≠ h + (2)) : sa (F_X10_init_7 α h a) (F_X10_init_8 α h a) b := sa_nw hb2
theorem ka_X10_9 (α : hp_T) (h a : Nat) (ha : a < h) (φ : Nat) (hφ : φ ≠ 555) : hp_N (F_X10_init_9 α h a) φ a = hp_N (F_X10_init_8 α h a) φ a ∧ hp_I (F_X10_init_9 α h a) φ a = hp_I (F_X10_init_8 α h a) φ a := ⟨sN_ne hφ, hI_sN⟩
theorem so_X10_9 (α : hp_T) (h a b : Nat) (hb : b ≠ a)  : sa (F_X10_init_8 α h a) (F_X10_init_9 α h a) b := sa_sN hb
theorem ka_X10_10 (α : hp_T) (h a : Nat) (ha : a < h) (φ : Nat) (hφ : φ ≠ 556) : hp_N (F_X10_init_10 α h a) φ a = hp_N (F_X10_init_9 α h a) φ a ∧ hp_I (F_X10_init_10 α h a) φ a = hp_I (F_X10_init_9 α h a) φ a := ⟨hN_sI, hp_I_ne hφ⟩
theorem so_X10_10 (α : hp_T) (h a b : Nat) (hb : b ≠ a)  : sa (F_X10_init_9 α h a) (F_X10_init_10 α h a) b := sa_sI hb
theorem ka_X10_11 (α : hp_T) (h a : Nat) (ha : a < h) (φ : Nat) : hp_N (F_X10_init_11 α h a) φ a = hp_N (F_X10_init_10 α h a) φ a ∧ hp_I (F_X10_init_11 α h a) φ a = hp_I (F_X10_init_10 α h a) φ a := by
  have q := sa_nw (α := (F_X10_init_10 α h a)) (h := h + (3)) (κ := 33) (b := a) (by omega)
  exact ⟨q.2.2.2.2.1 φ, q.2.1 φ⟩
theorem so_X10_11 (α : hp_T) (h a b : Nat) (hb : b ≠ a) (hb2 : b ≠ h + (3)) : sa (F_X10_init_10 α h a) (F_X10_init_11 α h a) b := sa_nw hb2
theorem ka_X10_12 (α : hp_T) (h a : Nat) (ha : a < h) (φ : Nat) (hφ : φ ≠ 557) : hp_N (F_X10_init_12 α h a) φ a = hp_N (F_X10_init_11 α h a) φ a ∧ hp_I (F_X10_init_12 α h a) φ a = hp_I (F_X10_init_11 α h a) φ a := ⟨sN_ne hφ, hI_sN⟩
theorem so_X10_12 (α : hp_T) (h a b : Nat) (hb : b ≠ a)  : sa (F_X10_init_11 α h a) (F_X10_init_12 α h a) b := sa_sN hb
theorem ka_X10_13 (α : hp_T) (h a : Nat) (ha : a < h) (φ : Nat) : hp_N (F_X10_init_13 α h a) φ a = hp_N (F_X10_init_12 α h a) φ a ∧ hp_I (F_X10_init_13 α h a) φ a = hp_I (F_X10_init_12 α h a) φ a := by
  have q := sa_nw (α := (F_X10_init_12 α h a)) (h := h + (4)) (κ := 106) (b := a) (by omega)
  exact ⟨q.2.2.2.2.1 φ, q.2.1 φ⟩
theorem so_X10_13 (α : hp_T) (h a b : Nat) (hb : b ≠ a) (hb2 : b ≠ h + (4)) : sa (F_X10_init_12 α h a) (F_X10_init_13 α h a) b := sa_nw hb2
theorem ka_X10_14 (α : hp_T) (h a : Nat) (ha : a < h) (φ : Nat) : hp_N (F_X10_init_14 α h a) φ a = hp_N (F_X10_init_13 α h a) φ a ∧ hp_I (F_X10_init_14 α h a) φ a = hp_I (F_X10_init_13 α h a) φ a := by
  have q := fr_X5 (F_X10_init_13 α h a) (h + (5)) (h + (4)) (by omega) a (by omega) (by omega)
  exact ⟨q.2.2.2.2.1 φ, q.2.1 φ⟩
theorem so_X10_14 (α : hp_T) (h a b : Nat) (hb : b ≠ a) (hb2 : b ≠ h + (4)) (hb3 : b < h + (5) ∨ h + (5) + 1 ≤ b) : sa (F_X10_init_13 α h a) (F_X10_init_14 α h a) b := fr_X5 (F_X10_init_13 α h a) (h + (5)) (h + (4)) (by omega) b hb2 hb3
theorem ka_X10_15 (α : hp_T) (h a : Nat) (ha : a < h) (φ : Nat) (hφ : φ ≠ 558) : hp_N (F_X10_init_15 α h a) φ a = hp_N (F_X10_init_14 α h a) φ a ∧ hp_I (F_X10_init_15 α h a) φ a = hp_I (F_X10_init_14 α h a) φ a := ⟨sN_ne hφ, hI_sN⟩
theorem so_X10_15 (α : hp_T) (h a b : Nat) (hb : b ≠ a)  : sa (F_X10_init_14 α h a) (F_X10_init_15 α h a) b := sa_sN hb
theorem ka_X10_16 (α : hp_T) (h a : Nat) (ha : a < h) (φ : Nat) : hp_N (F_X10_init_16 α h a) φ a = hp_N (F_X10_init_15 α h a) φ a ∧ hp_I (F_X10_init_16 α h a) φ a = hp_I (F_X10_init_15 α h a) φ a := by
  have q := sa_nw (α := (F_X10_init_15 α h a)) (h := h + (6)) (κ := 109) (b := a) (by omega)
  exact ⟨q.2.2.2.2.1 φ, q.2.1 φ⟩
theorem so_X10_16 (α : hp_T) (h a b : Nat) (hb : b ≠ a) (hb2 : b ≠ h + (6)) : sa (F_X10_init_15 α h a) (F_X10_init_16 α h a) b := sa_nw hb2
theorem ka_X10_17 (α : hp_T) (h a : Nat) (ha : a < h) (φ : Nat) : hp_N (F_X10_init_17 α h a) φ a = hp_N (F_X10_init_16 α h a) φ a ∧ hp_I (F_X10_init_17 α h a) φ a = hp_I (F_X10_init_16 α h a) φ a := by
  have q := fr_X8 (F_X10_init_16 α h a) (h + (7)) (h + (6)) (by omega) a (by omega) (by omega)
  exact ⟨q.2.2.2.2.1 φ, q.2.1 φ⟩
theorem so_X10_17 (α : hp_T) (h a b : Nat) (hb : b ≠ a) (hb2 : b ≠ h + (6)) (hb3 : b < h + (7) ∨ h + (7) + 3 ≤ b) : sa (F_X10_init_16 α h a) (F_X10_init_17 α h a) b := fr_X8 (F_X10_init_16 α h a) (h + (7)) (h + (6)) (by omega) b hb2 hb3
theorem ka_X10_18 (α : hp_T) (h a : Nat) (ha : a < h) (φ : Nat) (hφ : φ ≠ 559) : hp_N (F_X10_init_18 α h a) φ a = hp_N (F_X10_init_17 α h a) φ a ∧ hp_I (F_X10_init_18 α h a) φ a = hp_I (F_X10_init_17 α h a) φ a := ⟨sN_ne hφ, hI_sN⟩
theorem so_X10_18 (α : hp_T) (h a b : Nat) (hb : b ≠ a)  : sa (F_X10_init_17 α h a) (F_X10_init_18 α h a) b := sa_sN hb
theorem f18_550 (α : hp_T) (h a : Nat) (ha : a < h) : hp_I (F_X10_init_18 α h a) 550 a = 65521 := ((ka_X10_18 α h a ha 550 (by decide)).2.trans ((ka_X10_17 α h a ha 550).2.trans ((ka_X10_16 α h a ha 550).2.trans ((ka_X10_15 α h a ha 550 (by decide)).2.trans ((ka_X10_14 α h a ha 550).2.trans ((ka_X10_13 α h a ha 550).2.trans ((ka_X10_12 α h a ha 550 (by decide)).2.trans ((ka_X10_11 α h a ha 550).2.trans ((ka_X10_10 α h a ha 550 (by decide)).2.trans ((ka_X10_9 α h a ha 550 (by decide)).2.trans ((ka_X10_8 α h a ha 550).2.trans ((ka_X10_7 α h a ha 550 (by decide)).2.trans ((ka_X10_6 α h a ha 550 (by decide)).2.trans ((ka_X10_5 α h a ha 550).2.trans ((ka_X10_4 α h a ha 550 (by decide)).2.trans ((ka_X10_3 α h a ha 550 (by decide)).2.trans ((ka_X10_2 α h a ha 550).2.trans (show hp_I (hp_sI (F_X10_init_0 α h a) 550 a 65521) 550 a = 65521 from hp_I_at))))))))))))))))))
theorem f18_551 (α : hp_T) (h a : Nat) (ha : a < h) : hp_N (F_X10_init_18 α h a) 551 a = some (h + (0)) := ((ka_X10_18 α h a ha 551 (by decide)).1.trans ((ka_X10_17 α h a ha 551).1.trans ((ka_X10_16 α h a ha 551).1.trans ((ka_X10_15 α h a ha 551 (by decide)).1.trans ((ka_X10_14 α h a ha 551).1.trans ((ka_X10_13 α h a ha 551).1.trans ((ka_X10_12 α h a ha 551 (by decide)).1.trans ((ka_X10_11 α h a ha 551).1.trans ((ka_X10_10 α h a ha 551 (by decide)).1.trans ((ka_X10_9 α h a ha 551 (by decide)).1.trans ((ka_X10_8 α h a ha 551).1.trans ((ka_X10_7 α h a ha 551 (by decide)).1.trans ((ka_X10_6 α h a ha 551 (by decide)).1.trans ((ka_X10_5 α h a ha 551).1.trans ((ka_X10_4 α h a ha 551 (by decide)).1.trans (show hp_N (hp_sN (F_X10_init_2 α h a) 551 a (some (h + (0)))) 551 a = some (h + (0)) from sN_at))))))))))))))))
theorem f18_552 (α : hp_T) (h a : Nat) (ha : a < h) : hp_I (F_X10_init_18 α h a) 552 a = 1 := ((ka_X10_18 α h a ha 552 (by decide)).2.trans ((ka_X10_17 α h a ha 552).2.trans ((ka_X10_16 α h a ha 552).2.trans ((ka_X10_15 α h a ha 552 (by decide)).2.trans ((ka_X10_14 α h a ha 552).2.trans ((ka_X10_13 α h a ha 552).2.trans ((ka_X10_12 α h a ha 552 (by decide)).2.trans ((ka_X10_11 α h a ha 552).2.trans ((ka_X10_10 α h a ha 552 (by decide)).2.trans ((ka_X10_9 α h a ha 552 (by decide)).2.trans ((ka_X10_8 α h a ha 552).2.trans ((ka_X10_7 α h a ha 552 (by decide)).2.trans ((ka_X10_6 α h a ha 552 (by decide)).2.trans ((ka_X10_5 α h a ha 552).2.trans (show hp_I (hp_sI (F_X10_init_3 α h a) 552 a 1) 552 a = 1 from hp_I_at)))))))))))))))
theorem f18_553 (α : hp_T) (h a : Nat) (ha : a < h) : hp_N (F_X10_init_18 α h a) 553 a = some (h + (1)) := ((ka_X10_18 α h a ha 553 (by decide)).1.trans ((ka_X10_17 α h a ha 553).1.trans ((ka_X10_16 α h a ha 553).1.trans ((ka_X10_15 α h a ha 553 (by decide)).1.trans ((ka_X10_14 α h a ha 553).1.trans ((ka_X10_13 α h a ha 553).1.trans ((ka_X10_12 α h a ha 553 (by decide)).1.trans ((ka_X10_11 α h a ha 553).1.trans ((ka_X10_10 α h a ha 553 (by decide)).1.trans ((ka_X10_9 α h a ha 553 (by decide)).1.trans ((ka_X10_8 α h a ha 553).1.trans ((ka_X10_7 α h a ha 553 (by decide)).1.trans (show hp_N (hp_sN (F_X10_init_5 α h a) 553 a (some (h + (1)))) 553 a = some (h + (1)) from sN_at)))))))))))))
theorem f18_554 (α : hp_T) (h a : Nat) (ha : a < h) : hp_I (F_X10_init_18 α h a) 554 a = 0 := ((ka_X10_18 α h a ha 554 (by decide)).2.trans ((ka_X10_17 α h a ha 554).2.trans ((ka_X10_16 α h a ha 554).2.trans ((ka_X10_15 α h a ha 554 (by decide)).2.trans ((ka_X10_14 α h a ha 554).2.trans ((ka_X10_13 α h a ha 554).2.trans ((ka_X10_12 α h a ha 554 (by decide)).2.trans ((ka_X10_11 α h a ha 554).2.trans ((ka_X10_10 α h a ha 554 (by decide)).2.trans ((ka_X10_9 α h a ha 554 (by decide)).2.trans ((ka_X10_8 α h a ha 554).2.trans (show hp_I (hp_sI (F_X10_init_6 α h a) 554 a 0) 554 a = 0 from hp_I_at))))))))))))
theorem f18_555 (α : hp_T) (h a : Nat) (ha : a < h) : hp_N (F_X10_init_18 α h a) 555 a = some (h + (2)) := ((ka_X10_18 α h a ha 555 (by decide)).1.trans ((ka_X10_17 α h a ha 555).1.trans ((ka_X10_16 α h a ha 555).1.trans ((ka_X10_15 α h a ha 555 (by decide)).1.trans ((ka_X10_14 α h a ha 555).1.trans ((ka_X10_13 α h a ha 555).1.trans ((ka_X10_12 α h a ha 555 (by decide)).1.trans ((ka_X10_11 α h a ha 555).1.trans ((ka_X10_10 α h a ha 555 (by decide)).1.trans (show hp_N (hp_sN (F_X10_init_8 α h a) 555 a (some (h + (2)))) 555 a = some (h + (2)) from sN_at))))))))))
theorem f18_556 (α : hp_T) (h a : Nat) (ha : a < h) : hp_I (F_X10_init_18 α h a) 556 a = 0 := ((ka_X10_18 α h a ha 556 (by decide)).2.trans ((ka_X10_17 α h a ha 556).2.trans ((ka_X10_16 α h a ha 556).2.trans ((ka_X10_15 α h a ha 556 (by decide)).2.trans ((ka_X10_14 α h a ha 556).2.trans ((ka_X10_13 α h a ha 556).2.trans ((ka_X10_12 α h a ha 556 (by decide)).2.trans ((ka_X10_11 α h a ha 556).2.trans (show hp_I (hp_sI (F_X10_init_9 α h a) 556 a 0) 556 a = 0 from hp_I_at)))))))))
theorem f18_557 (α : hp_T) (h a : Nat) (ha : a < h) : hp_N (F_X10_init_18 α h a) 557 a = some (h + (3)) := ((ka_X10_18 α h a ha 557 (by decide)).1.trans ((ka_X10_17 α h a ha 557).1.trans ((ka_X10_16 α h a ha 557).1.trans ((ka_X10_15 α h a ha 557 (by decide)).1.trans ((ka_X10_14 α h a ha 557).1.trans ((ka_X10_13 α h a ha 557).1.trans (show hp_N (hp_sN (F_X10_init_11 α h a) 557 a (some (h + (3)))) 557 a = some (h + (3)) from sN_at)))))))
theorem f18_558 (α : hp_T) (h a : Nat) (ha : a < h) : hp_N (F_X10_init_18 α h a) 558 a = some (h + (4)) := ((ka_X10_18 α h a ha 558 (by decide)).1.trans ((ka_X10_17 α h a ha 558).1.trans ((ka_X10_16 α h a ha 558).1.trans (show hp_N (hp_sN (F_X10_init_14 α h a) 558 a (some (h + (4)))) 558 a = some (h + (4)) from sN_at))))
theorem f18_559 (α : hp_T) (h a : Nat) (ha : a < h) : hp_N (F_X10_init_18 α h a) 559 a = some (h + (6)) := (show hp_N (hp_sN (F_X10_init_17 α h a) 559 a (some (h + (6)))) 559 a = some (h + (6)) from sN_at)
theorem fr18 (α : hp_T) (h a : Nat) (ha : a < h) (b : Nat) (hb : b ≠ a) (hq : b < h ∨ h + 10 ≤ b) : sa α (F_X10_init_18 α h a) b := sa_tr (so_X10_1 α h a b (by omega)) (sa_tr (so_X10_2 α h a b (by omega) (by omega)) (sa_tr (so_X10_3 α h a b (by omega)) (sa_tr (so_X10_4 α h a b (by omega)) (sa_tr (so_X10_5 α h a b (by omega) (by omega)) (sa_tr (so_X10_6 α h a b (by omega)) (sa_tr (so_X10_7 α h a b (by omega)) (sa_tr (so_X10_8 α h a b (by omega) (by omega)) (sa_tr (so_X10_9 α h a b (by omega)) (sa_tr (so_X10_10 α h a b (by omega)) (sa_tr (so_X10_11 α h a b (by omega) (by omega)) (sa_tr (so_X10_12 α h a b (by omega)) (sa_tr (so_X10_13 α h a b (by omega) (by omega)) (sa_tr (so_X10_14 α h a b (by omega) (by omega) (by omega)) (sa_tr (so_X10_15 α h a b (by omega)) (sa_tr (so_X10_16 α h a b (by omega) (by omega)) (sa_tr (so_X10_17 α h a b (by omega) (by omega) (by omega)) (so_X10_18 α h a b (by omega))))))))))))))))))
theorem f18_300 (α : hp_T) (h a : Nat) (ha : a < h) : hp_R (F_X10_init_18 α h a) 300 (h + 4) = h + 5 := by
  have q : sa (F_X10_init_14 α h a) (F_X10_init_18 α h a) (h + 4) := sa_tr (so_X10_15 α h a (h + 4) (by omega)) (sa_tr (so_X10_16 α h a (h + 4) (by omega) (by omega)) (sa_tr (so_X10_17 α h a (h + 4) (by omega) (by omega) (by omega)) (so_X10_18 α h a (h + 4) (by omega))))
  rw [q.2.2.2.1 300]
  exact fd_X5_300 (F_X10_init_13 α h a) (h + (5)) (h + (4)) (by omega)
theorem f18_450 (α : hp_T) (h a : Nat) (ha : a < h) : hp_R (F_X10_init_18 α h a) 450 (h + 6) = h + 7 := by
  have q : sa (F_X10_init_17 α h a) (F_X10_init_18 α h a) (h + 6) := so_X10_18 α h a (h + 6) (by omega)
  rw [q.2.2.2.1 450, show F_X10_init_17 α h a = F_X8_init (F_X10_init_16 α h a) (h + (7)) (h + (6)) from rfl, fd_X8_450 (F_X10_init_16 α h a) (h + (7)) (h + (6)) (by omega)]
theorem f18_451 (α : hp_T) (h a : Nat) (ha : a < h) : hp_R (F_X10_init_18 α h a) 451 (h + 6) = h + 8 := by
  have q : sa (F_X10_init_17 α h a) (F_X10_init_18 α h a) (h + 6) := so_X10_18 α h a (h + 6) (by omega)
  rw [q.2.2.2.1 451, show F_X10_init_17 α h a = F_X8_init (F_X10_init_16 α h a) (h + (7)) (h + (6)) from rfl, fd_X8_451 (F_X10_init_16 α h a) (h + (7)) (h + (6)) (by omega)]
theorem f18_452 (α : hp_T) (h a : Nat) (ha : a < h) : hp_R (F_X10_init_18 α h a) 452 (h + 6) = h + 9 := by
  have q : sa (F_X10_init_17 α h a) (F_X10_init_18 α h a) (h + 6) := so_X10_18 α h a (h + 6) (by omega)
  rw [q.2.2.2.1 452, show F_X10_init_17 α h a = F_X8_init (F_X10_init_16 α h a) (h + (7)) (h + (6)) from rfl, fd_X8_452 (F_X10_init_16 α h a) (h + (7)) (h + (6)) (by omega)]
theorem in_X1_300 (α : hp_T) (h a : Nat) (ha : a < h) : hp_R (F_X1_init α h a) 300 (h + 0) = h + 1 := by
  rw [(tl_X1_6 α h a (h + 0) (by omega) (by omega)).2.2.2.1 300]
  exact fd_X5_300 (F_X1_init_5 α h a) (h + (1)) (h + (0)) (by omega)
end JN10_7
section JN10_8
set_option maxRecDepth 100000
/-! ===== the loops of a world's constructor ===== -/
def LGQ (β : hp_T) (L : Nat) : Prop := hp_R β 150 L = L + 1 ∧ hp_R β 151 L = L + 2 ∧ hp_I β 152 L = 0 ∧ ∀ i, i < 48 → hp_Q β 28 (L + 1) i = some (L + 3 + 2 * i) ∧ hp_R β 500 (L + 3 + 2 * i) = L + 3 + 2 * i + 1
theorem LGQ_sa {β γ : hp_T} {L : Nat} (h : LGQ β L) (s : ∀ b, L ≤ b → b < L + 99 → sa β γ b) : LGQ γ L := by
  obtain ⟨h1, h2, h3, h4⟩ := h
  have sL := s L (by omega) (by omega)
  refine ⟨(sL.2.2.2.1 150).trans h1, (sL.2.2.2.1 151).trans h2, (sL.2.1 152).trans h3, fun i hi => ⟨?_, ?_⟩⟩
  · rw [(s (L + 1) (by omega) (by omega)).2.2.2.2.2.2.2 28 i]; exact (h4 i hi).1
  · rw [(s (L + 3 + 2 * i) (by omega) (by omega)).2.2.2.1 500]; exact (h4 i hi).2
def WI (α : hp_T) (h a T jl jf jw : Nat) (β : hp_T) : Prop := (∀ b, b ≠ a → b < h ∨ h + T ≤ b → sa α β b) ∧ (hp_N β 551 a = some h ∧ hp_N β 553 a = some (h + 1) ∧ hp_N β 555 a = some (h + 2) ∧ hp_N β 557 a = some (h + 3) ∧ hp_N β 558 a = some (h + 4) ∧ hp_N β 559 a = some (h + 6)) ∧ (hp_I β 550 a = 65521 ∧ hp_I β 552 a = 1 ∧ hp_I β 554 a = 0 ∧ hp_I β 556 a = 0) ∧ (hp_R β 300 (h + 4) = h + 5 ∧ hp_R β 450 (h + 6) = h + 7 ∧ hp_R β 451 (h + 6) = h + 8 ∧ hp_R β 452 (h + 6) = h + 9) ∧ (∀ r, r < jl → hp_Q β 30 h r = some (h + (10 + 99 * r)) ∧ LGQ β (h + (10 + 99 * r))) ∧ (∀ i, i < jf → hp_Q β 31 (h + 1) i = some (h + (406 + 3 * i)) ∧ hp_R β 104 (h + (406 + 3 * i)) = h + (406 + 3 * i) + 1 ∧ hp_R β 300 (h + (406 + 3 * i) + 1) = h + (406 + 3 * i) + 2) ∧ ∀ i, i < jw → hp_Q β 32 (h + 2) i = some (h + (454 + i)) ∧ hp_I β 400 (h + (454 + i)) = 0 ∧ hp_I β 401 (h + (454 + i)) = 0 ∧ hp_I β 402 (h + (454 + i)) = 0 ∧ hp_I β 403 (h + (454 + i)) = 0
theorem WI_step {α β γ : hp_T} {h a T T' jl jf jw row κ j : Nat} (ha : a < h) (g : WI α h a T jl jf jw β) (hT : T ≤ T') (h10 : 10 ≤ T) (hl : ∀ r, r < jl → 109 + 99 * r ≤ T) (hf : ∀ i, i < jf → 409 + 3 * i ≤ T) (hw : ∀ i, i < jw → 455 + i ≤ T) (hr1 : h ≤ row) (hr2 : row ≤ h + 2) (k30 : ∀ r, r < jl → row = h → ¬ (30 = κ ∧ r = j)) (k31 : ∀ r, r < jf → row = h + 1 → ¬ (31 = κ ∧ r = j)) (k32 : ∀ r, r < jw → row = h + 2 → ¬ (32 = κ ∧ r = j)) (s1 : ∀ b, b ≠ row → b < h + T ∨ h + T' ≤ b → sa β γ b) (s2 : ∀ κ' i, ¬ (κ' = κ ∧ i = j) → hp_Q γ κ' row i = hp_Q β κ' row i) : WI α h a T' jl jf jw γ := by
  have sA := s1 a (by omega) (Or.inl (by omega))
  have s4 := s1 (h + 4) (by omega) (Or.inl (by omega))
  have s6 := s1 (h + 6) (by omega) (Or.inl (by omega))
  have sO : ∀ b, b ≠ a → b < h ∨ h + T' ≤ b → (b < h ∨ h + T ≤ b) ∧ sa β γ b := fun b hb hq => by
    rcases hq with q | q
    · exact ⟨Or.inl q, s1 b (by omega) (Or.inl (by omega))⟩
    · exact ⟨Or.inr (by omega), s1 b (by omega) (Or.inr q)⟩
  have sL : ∀ b, h + 3 ≤ b → b < h + T → sa β γ b := fun b p q => s1 b (by omega) (Or.inl q)
  have q30 : ∀ r, r < jl → hp_Q γ 30 h r = hp_Q β 30 h r := fun r hr => by
    by_cases e : row = h
    · have := s2 30 r (k30 r hr e); rw [e] at this; exact this
    · exact (s1 h (fun z => e z.symm) (Or.inl (by omega))).2.2.2.2.2.2.2 30 r
  have q31 : ∀ r, r < jf → hp_Q γ 31 (h + 1) r = hp_Q β 31 (h + 1) r := fun r hr => by
    by_cases e : row = h + 1
    · have := s2 31 r (k31 r hr e); rw [e] at this; exact this
    · exact (s1 (h + 1) (fun z => e z.symm) (Or.inl (by omega))).2.2.2.2.2.2.2 31 r
  have q32 : ∀ r, r < jw → hp_Q γ 32 (h + 2) r = hp_Q β 32 (h + 2) r := fun r hr => by
    by_cases e : row = h + 2
    · have := s2 32 r (k32 r hr e); rw [e] at this; exact this
    · exact (s1 (h + 2) (fun z => e z.symm) (Or.inl (by omega))).2.2.2.2.2.2.2 32 r
  have lL : ∀ r, r < jl → ∀ b, h + (10 + 99 * r) ≤ b → b < h + (10 + 99 * r) + 99 → sa β γ b := fun r hr b p q => sL b (by omega) (by have := hl r hr; omega)
  have lF : ∀ r, r < jf → ∀ b, h + (406 + 3 * r) ≤ b → b < h + (406 + 3 * r) + 3 → sa β γ b := fun r hr b p q => sL b (by omega) (by have := hf r hr; omega)
  have lW : ∀ r, r < jw → sa β γ (h + (454 + r)) := fun r hr => sL _ (by omega) (by have := hw r hr; omega)
  clear s1 s2 k30 k31 k32 hl hf hw sL
  obtain ⟨g1, ⟨n1, n2, n3, n4, n5, n6⟩, ⟨i1, i2, i3, i4⟩, ⟨r1, r2, r3, r4⟩, gl, gf, gw⟩ := g
  have N := sA.2.2.2.2.1
  have I := sA.2.1
  refine ⟨fun b hb hq => sa_tr (g1 b hb (sO b hb hq).1) (sO b hb hq).2, ⟨(N 551).trans n1, (N 553).trans n2, (N 555).trans n3, (N 557).trans n4, (N 558).trans n5, (N 559).trans n6⟩, ⟨(I 550).trans i1, (I 552).trans i2, (I 554).trans i3, (I 556).trans i4⟩, ⟨(s4.2.2.2.1 300).trans r1, (s6.2.2.2.1 450).trans r2, (s6.2.2.2.1 451).trans r3, (s6.2.2.2.1 452).trans r4⟩, fun r hr => ⟨(q30 r hr).trans (gl r hr).1, LGQ_sa (gl r hr).2 (lL r hr)⟩, fun i hi => ⟨(q31 i hi).trans (gf i hi).1, ?_, ?_⟩, fun i hi => ?_⟩
  · exact ((lF i hi (h + (406 + 3 * i)) (Nat.le_refl _) (Nat.lt_add_of_pos_right (by decide))).2.2.2.1 104).trans (gf i hi).2.1
  · exact ((lF i hi (h + (406 + 3 * i) + 1) (Nat.le_succ _) (Nat.add_lt_add_left (by decide) _)).2.2.2.1 300).trans (gf i hi).2.2
  · obtain ⟨q1, q2, q3, q4, q5⟩ := gw i hi
    have sw := lW i hi
    exact ⟨(q32 i hi).trans q1, (sw.2.1 400).trans q2, (sw.2.1 401).trans q3, (sw.2.1 402).trans q4, (sw.2.1 403).trans q5⟩
theorem sQ_o {α : hp_T} {κ a j κ' b i : Nat} {v : Option Nat} (h : ¬ (κ' = κ ∧ i = j)) : hp_Q (hp_sQ α κ a j v) κ' b i = hp_Q α κ' b i := by
  simp only [hp_Q, hp_sQ, hp_uq]
  rw [if_neg (fun q => h ⟨q.1, q.2.2⟩)]
theorem WI_0 (α : hp_T) (h a : Nat) (ha : a < h) : WI α h a 10 0 0 0 (F_X10_init_18 α h a) :=
  ⟨fun b hb hq => fr18 α h a ha b hb hq, ⟨f18_551 α h a ha, f18_553 α h a ha, f18_555 α h a ha, f18_557 α h a ha, f18_558 α h a ha, f18_559 α h a ha⟩, ⟨f18_550 α h a ha, f18_552 α h a ha, f18_554 α h a ha, f18_556 α h a ha⟩, ⟨f18_300 α h a ha, f18_450 α h a ha, f18_451 α h a ha, f18_452 α h a ha⟩, fun r hr => by omega, fun i hi => by omega, fun i hi => by omega⟩
theorem WI_l (α : hp_T) (h a : Nat) (ha : a < h) : ∀ j, WI α h a (10 + 99 * j) j 0 0 (FL_X10_init_82 α h a j) := by
  intro j
  induction j with
  | zero =>
    rw [FL_X10_init_82]
    exact WI_0 α h a ha
  | succ j ih =>
    obtain ⟨β, hβ⟩ : ∃ β, β = FL_X10_init_82 α h a j := ⟨_, rfl⟩
    rw [← hβ] at ih
    have hF : FL_X10_init_82 α h a (j + 1) = hp_sQ (F_X2_init (hp_nw β (h + (10 + 99 * j)) 103) (h + (10 + 99 * j + 1)) (h + (10 + 99 * j))) 30 h j (some (h + (10 + 99 * j))) := by
      rw [FL_X10_init_82, ← hβ, ih.2.1.1]; rfl
    obtain ⟨l1, l2, l3, l4, l5⟩ := LG_f (hp_nw β (h + (10 + 99 * j)) 103) (h + (10 + 99 * j + 1)) (h + (10 + 99 * j)) (by omega)
    obtain ⟨γ, hγ⟩ : ∃ γ, γ = F_X2_init (hp_nw β (h + (10 + 99 * j)) 103) (h + (10 + 99 * j + 1)) (h + (10 + 99 * j)) := ⟨_, rfl⟩
    rw [← hγ] at l1 l2 l3 l4 l5 hF
    rw [hF]
    have s0 : ∀ b, b < h + (10 + 99 * j) ∨ h + (10 + 99 * (j + 1)) ≤ b → sa β γ b := fun b hb => sa_tr (sa_nw (by omega)) (l1 b (by omega) (by omega))
    have hs := WI_step (γ := hp_sQ γ 30 h j (some (h + (10 + 99 * j)))) (T' := 10 + 99 * (j + 1)) (row := h) (κ := 30) (j := j) ha ih (by omega) (by omega) (fun r hr => by omega) (fun r hr => absurd hr (Nat.not_lt_zero r)) (fun r hr => absurd hr (Nat.not_lt_zero r)) (Nat.le_refl _) (by omega) (fun r hr _ q => by omega) (fun r hr => absurd hr (Nat.not_lt_zero r)) (fun r hr => absurd hr (Nat.not_lt_zero r)) (fun b h1 h2 => sa_tr (s0 b (by omega)) (sa_sQ h1)) (fun κ' i hq => by rw [sQ_o hq, (s0 h (by omega)).2.2.2.2.2.2.2 κ' i])
    obtain ⟨a1, a2, a3, a4, a5, a6, a7⟩ := hs
    refine ⟨a1, a2, a3, a4, fun r hr => ?_, a6, a7⟩
    by_cases e : r = j
    · subst e
      refine ⟨sQ_at, ?_, ?_, ?_, fun i hi => ⟨?_, ?_⟩⟩
      · show hp_R γ 150 _ = _
        rw [l2]; omega
      · show hp_R γ 151 _ = _
        rw [l3]; omega
      · exact l4
      · rw [sQ_o (by omega)]
        have := (l5 i hi).1
        rw [show h + (10 + 99 * r + 1) = h + (10 + 99 * r) + 1 by omega, show h + (10 + 99 * r) + 1 + (2 + 2 * i) = h + (10 + 99 * r) + 3 + 2 * i by omega] at this
        exact this
      · show hp_R γ 500 _ = _
        have := (l5 i hi).2
        rw [show h + (10 + 99 * r + 1) + (2 + 2 * i) = h + (10 + 99 * r) + 3 + 2 * i by omega] at this
        exact this
    · exact a5 r (by omega)
theorem WI_f (α : hp_T) (h a : Nat) (ha : a < h) : ∀ j, WI α h a (406 + 3 * j) 4 j 0 (FL_X10_init_112 α h a j) := by
  intro j
  induction j with
  | zero =>
    rw [FL_X10_init_112]
    have q := WI_l α h a ha 4
    generalize FL_X10_init_82 α h a 4 = β at q ⊢
    exact q
  | succ j ih =>
    obtain ⟨β, hβ⟩ : ∃ β, β = FL_X10_init_112 α h a j := ⟨_, rfl⟩
    rw [← hβ] at ih
    have hF : FL_X10_init_112 α h a (j + 1) = hp_sQ (F_X1_init (hp_nw β (h + (406 + 3 * j)) 102) (h + (406 + 3 * j + 1)) (h + (406 + 3 * j))) 31 (h + 1) j (some (h + (406 + 3 * j))) := by
      rw [FL_X10_init_112, ← hβ, ih.2.1.2.1]; rfl
    have l1 := fr_X1 (hp_nw β (h + (406 + 3 * j)) 102) (h + (406 + 3 * j + 1)) (h + (406 + 3 * j)) (by omega)
    have l2 := fd_X1_104 (hp_nw β (h + (406 + 3 * j)) 102) (h + (406 + 3 * j + 1)) (h + (406 + 3 * j)) (by omega)
    have l3 := in_X1_300 (hp_nw β (h + (406 + 3 * j)) 102) (h + (406 + 3 * j + 1)) (h + (406 + 3 * j)) (by omega)
    obtain ⟨γ, hγ⟩ : ∃ γ, γ = F_X1_init (hp_nw β (h + (406 + 3 * j)) 102) (h + (406 + 3 * j + 1)) (h + (406 + 3 * j)) := ⟨_, rfl⟩
    rw [← hγ] at l1 l2 l3 hF
    rw [hF]
    have s0 : ∀ b, b < h + (406 + 3 * j) ∨ h + (406 + 3 * (j + 1)) ≤ b → sa β γ b := fun b hb => sa_tr (sa_nw (by omega)) (l1 b (by omega) (by omega))
    have hs := WI_step (γ := hp_sQ γ 31 (h + 1) j (some (h + (406 + 3 * j)))) (T' := 406 + 3 * (j + 1)) (row := h + 1) (κ := 31) (j := j) ha ih (by omega) (by omega) (fun r hr => by omega) (fun r hr => by omega) (fun r hr => absurd hr (Nat.not_lt_zero r)) (by omega) (by omega) (fun r hr _ q => absurd q.1 (by decide)) (fun r hr _ q => by omega) (fun r hr => absurd hr (Nat.not_lt_zero r)) (fun b h1 h2 => sa_tr (s0 b (by omega)) (sa_sQ h1)) (fun κ' i hq => by rw [sQ_o hq, (s0 (h + 1) (by omega)).2.2.2.2.2.2.2 κ' i])
    obtain ⟨a1, a2, a3, a4, a5, a6, a7⟩ := hs
    refine ⟨a1, a2, a3, a4, a5, fun i hi => ?_, a7⟩
    by_cases e : i = j
    · subst e
      refine ⟨sQ_at, ?_, ?_⟩
      · show hp_R γ 104 _ = _
        rw [l2]; omega
      · show hp_R γ 300 _ = _
        rw [show h + (406 + 3 * i) + 1 = h + (406 + 3 * i + 1) + 0 by omega, l3]; omega
    · exact a6 i (by omega)
theorem WI_w (α : hp_T) (h a : Nat) (ha : a < h) : ∀ j, WI α h a (454 + j) 4 16 j (FL_X10_init_142 α h a j) := by
  intro j
  induction j with
  | zero =>
    rw [FL_X10_init_142]
    have q := WI_f α h a ha 16
    generalize FL_X10_init_112 α h a 16 = β at q ⊢
    exact q
  | succ j ih =>
    obtain ⟨β, hβ⟩ : ∃ β, β = FL_X10_init_142 α h a j := ⟨_, rfl⟩
    rw [← hβ] at ih
    have hF : FL_X10_init_142 α h a (j + 1) = hp_sQ (F_X7_init (hp_nw β (h + (454 + 1 * j)) 108) (h + (454 + 1 * j + 1)) (h + (454 + 1 * j))) 32 (h + 2) j (some (h + (454 + 1 * j))) := by
      rw [FL_X10_init_142, ← hβ, ih.2.1.2.2.1]; rfl
    rw [Nat.one_mul] at hF
    have l1 := fr_X7 (hp_nw β (h + (454 + j)) 108) (h + (454 + j + 1)) (h + (454 + j)) (by omega)
    have i0 := fd_X7_400 (hp_nw β (h + (454 + j)) 108) (h + (454 + j + 1)) (h + (454 + j)) (by omega)
    have i1 := fd_X7_401 (hp_nw β (h + (454 + j)) 108) (h + (454 + j + 1)) (h + (454 + j)) (by omega)
    have i2 := fd_X7_402 (hp_nw β (h + (454 + j)) 108) (h + (454 + j + 1)) (h + (454 + j)) (by omega)
    have i3 := fd_X7_403 (hp_nw β (h + (454 + j)) 108) (h + (454 + j + 1)) (h + (454 + j)) (by omega)
    obtain ⟨γ, hγ⟩ : ∃ γ, γ = F_X7_init (hp_nw β (h + (454 + j)) 108) (h + (454 + j + 1)) (h + (454 + j)) := ⟨_, rfl⟩
    rw [← hγ] at l1 i0 i1 i2 i3 hF
    rw [hF]
    have s0 : ∀ b, b ≠ h + (454 + j) → sa β γ b := fun b hb => sa_tr (sa_nw hb) (l1 b hb (by omega))
    have hs := WI_step (γ := hp_sQ γ 32 (h + 2) j (some (h + (454 + j)))) (T' := 454 + (j + 1)) (row := h + 2) (κ := 32) (j := j) ha ih (by omega) (by omega) (fun r hr => by omega) (fun r hr => by omega) (fun r hr => by omega) (by omega) (by omega) (fun r hr _ q => absurd q.1 (by decide)) (fun r hr _ q => absurd q.1 (by decide)) (fun r hr _ q => by omega) (fun b h1 h2 => sa_tr (s0 b (by omega)) (sa_sQ h1)) (fun κ' i hq => by rw [sQ_o hq, (s0 (h + 2) (by omega)).2.2.2.2.2.2.2 κ' i])
    obtain ⟨a1, a2, a3, a4, a5, a6, a7⟩ := hs
    refine ⟨a1, a2, a3, a4, a5, a6, fun i hi => ?_⟩
    by_cases e : i = j
    · subst e
      exact ⟨sQ_at, i0, i1, i2, i3⟩
    · exact a7 i (by omega)
theorem fr_X10 (α : hp_T) (h a : Nat) (ha : a < h) (b : Nat) (hb : b ≠ a) (hq : b < h ∨ h + 458 ≤ b) : sa α (F_X10_init α h a) b :=
  sa_tr ((WI_w α h a ha 4).1 b hb (by omega)) (sa_cv hb)
theorem hI_cv {α : hp_T} {a κ φ b : Nat} : hp_I (hp_cv α a κ) φ b = hp_I α φ b := rfl
/-- a new world -/
def NW (β : hp_T) (w : Nat) : Prop := SHW β w ∧ (hp_I β 550 w = 65521 ∧ hp_I β 552 w = 1 ∧ hp_I β 554 w = 0 ∧ hp_I β 556 w = 0) ∧ hp_I β 152 (lpA w 0) = 0 ∧ ∀ i, i < 4 → hp_I β 400 (wtA w i) = 0 ∧ hp_I β 401 (wtA w i) = 0 ∧ hp_I β 402 (wtA w i) = 0 ∧ hp_I β 403 (wtA w i) = 0
theorem NW_0 (α : hp_T) (w : Nat) : NW (F_X10_init α (w + 1) w) w := by
  obtain ⟨g1, ⟨n1, n2, n3, n4, n5, n6⟩, ⟨i1, i2, i3, i4⟩, ⟨r1, r2, r3, r4⟩, gl, gf, gw⟩ := WI_w α (w + 1) w (by omega) 4
  have c : ∀ b, b ≠ w → sa (FL_X10_init_142 α (w + 1) w 4) (F_X10_init α (w + 1) w) b := fun b hb => sa_cv hb
  refine ⟨⟨cv_R n1, cv_R n2, cv_R n3, cv_R n4, cv_R n5, cv_R n6, fun r hr => ?_, fun i hi => ?_, fun i hi => ?_, ?_, ⟨?_, ?_, ?_⟩, fun r hr => ?_, fun i hi => ?_⟩, ⟨hI_cv.trans i1, hI_cv.trans i2, hI_cv.trans i3, hI_cv.trans i4⟩, ?_, fun i hi => ?_⟩
  · have := (gl r hr).1
    rw [show w + 1 + (10 + 99 * r) = lpA w r by unfold lpA; omega] at this
    rw [(c (w + 1) (by omega)).2.2.2.2.2.2.2 30 r]; exact this
  · have := (gf i hi).1
    rw [show w + 1 + (406 + 3 * i) = fzA w i by unfold fzA; omega] at this
    rw [(c (w + 2) (by omega)).2.2.2.2.2.2.2 31 i]; exact this
  · have := (gw i hi).1
    rw [show w + 1 + (454 + i) = wtA w i by unfold wtA; omega] at this
    rw [(c (w + 3) (by omega)).2.2.2.2.2.2.2 32 i]; exact this
  · rw [(c (w + 5) (by omega)).2.2.2.1 300]; exact r1
  · rw [(c (w + 7) (by omega)).2.2.2.1 450]; exact r2
  · rw [(c (w + 7) (by omega)).2.2.2.1 451]; exact r3
  · rw [(c (w + 7) (by omega)).2.2.2.1 452]; exact r4
  · have hL := (gl r hr).2
    rw [show w + 1 + (10 + 99 * r) = lpA w r by unfold lpA; omega] at hL
    obtain ⟨q1, q2, q3, q4⟩ := LGQ_sa hL (fun b p q => c b (by unfold lpA at p; omega))
    refine ⟨q1, q2, fun i hi => ?_⟩
    have q5 := q4 i hi
    rw [show lpA w r + 3 + 2 * i = wdA w r i by unfold lpA wdA; omega] at q5
    exact q5
  · have hz := gf i hi
    rw [show w + 1 + (406 + 3 * i) = fzA w i by unfold fzA; omega] at hz
    exact ⟨((c (fzA w i) (by unfold fzA; omega)).2.2.2.1 104).trans hz.2.1, ((c (fzA w i + 1) (by unfold fzA; omega)).2.2.2.1 300).trans hz.2.2⟩
  · have hL := (gl 0 (by omega)).2
    rw [show w + 1 + (10 + 99 * 0) = lpA w 0 by unfold lpA; omega] at hL
    exact hI_cv.trans hL.2.2.1
  · have hz := gw i hi
    rw [show w + 1 + (454 + i) = wtA w i by unfold wtA; omega] at hz
    exact ⟨hI_cv.trans hz.2.1, hI_cv.trans hz.2.2.1, hI_cv.trans hz.2.2.2.1, hI_cv.trans hz.2.2.2.2⟩
theorem NW_sa {β γ : hp_T} {w : Nat} (h : NW β w) (s : ∀ b, w ≤ b → b < w + 459 → sa β γ b) : NW γ w := by
  obtain ⟨h1, ⟨i1, i2, i3, i4⟩, h3, h4⟩ := h
  have sw := s w (by omega) (by omega)
  refine ⟨SHW_z h1 (fun φ b p q _ => (s b p q).2.2.2.1 φ) (fun κ b j p q => (s b p q).2.2.2.2.2.2.2 κ j), ⟨(sw.2.1 550).trans i1, (sw.2.1 552).trans i2, (sw.2.1 554).trans i3, (sw.2.1 556).trans i4⟩, ((s _ (by unfold lpA; omega) (by unfold lpA; omega)).2.1 152).trans h3, fun i hi => ?_⟩
  have st := s (wtA w i) (by unfold wtA; omega) (by unfold wtA; omega)
  obtain ⟨q1, q2, q3, q4⟩ := h4 i hi
  exact ⟨(st.2.1 400).trans q1, (st.2.1 401).trans q2, (st.2.1 402).trans q3, (st.2.1 403).trans q4⟩
end JN10_8
section JN10_9
set_option maxRecDepth 100000
theorem tl_X11_27 (α : hp_T) (h a : Nat) (b : Nat) (hb : b ≠ a) (hq : b < h + 930 ∨ h + 955 ≤ b) : sa (F_X11_init_27 α h a) (F_X11_init α h a) b := sa_tr (sa_sI hb) (tl_X11_28 α h a b hb (by omega))
theorem tl_X11_26 (α : hp_T) (h a : Nat) (b : Nat) (hb : b ≠ a) (hq : b < h + 930 ∨ h + 955 ≤ b) : sa (F_X11_init_26 α h a) (F_X11_init α h a) b := sa_tr (sa_sN hb) (tl_X11_27 α h a b hb (by omega))
theorem tl_X11_25 (α : hp_T) (h a : Nat) (b : Nat) (hb : b ≠ a) (hq : b < h + 929 ∨ h + 955 ≤ b) : sa (F_X11_init_25 α h a) (F_X11_init α h a) b := sa_tr (sa_nw (by omega)) (tl_X11_26 α h a b hb (by omega))
theorem tl_X11_24 (α : hp_T) (h a : Nat) (b : Nat) (hb : b ≠ a) (hq : b < h + 929 ∨ h + 955 ≤ b) : sa (F_X11_init_24 α h a) (F_X11_init α h a) b := sa_tr (sa_sN hb) (tl_X11_25 α h a b hb (by omega))
theorem tl_X11_23 (α : hp_T) (h a : Nat) (b : Nat) (hb : b ≠ a) (hq : b < h + 927 ∨ h + 955 ≤ b) : sa (F_X11_init_23 α h a) (F_X11_init α h a) b := sa_tr (fr_X5 (F_X11_init_23 α h a) (h + (928)) (h + (927)) (by omega) b (by omega) (by omega)) (tl_X11_24 α h a b hb (by omega))
theorem tl_X11_22 (α : hp_T) (h a : Nat) (b : Nat) (hb : b ≠ a) (hq : b < h + 927 ∨ h + 955 ≤ b) : sa (F_X11_init_22 α h a) (F_X11_init α h a) b := sa_tr (sa_nw (by omega)) (tl_X11_23 α h a b hb (by omega))
theorem tl_X11_21 (α : hp_T) (h a : Nat) (b : Nat) (hb : b ≠ a) (hq : b < h + 927 ∨ h + 955 ≤ b) : sa (F_X11_init_21 α h a) (F_X11_init α h a) b := sa_tr (sa_sN hb) (tl_X11_22 α h a b hb (by omega))
theorem tl_X11_20 (α : hp_T) (h a : Nat) (b : Nat) (hb : b ≠ a) (hq : b < h + 925 ∨ h + 955 ≤ b) : sa (F_X11_init_20 α h a) (F_X11_init α h a) b := sa_tr (fr_X5 (F_X11_init_20 α h a) (h + (926)) (h + (925)) (by omega) b (by omega) (by omega)) (tl_X11_21 α h a b hb (by omega))
theorem tl_X11_19 (α : hp_T) (h a : Nat) (b : Nat) (hb : b ≠ a) (hq : b < h + 925 ∨ h + 955 ≤ b) : sa (F_X11_init_19 α h a) (F_X11_init α h a) b := sa_tr (sa_nw (by omega)) (tl_X11_20 α h a b hb (by omega))
theorem tl_X11_18 (α : hp_T) (h a : Nat) (b : Nat) (hb : b ≠ a) (hq : b < h + 925 ∨ h + 955 ≤ b) : sa (F_X11_init_18 α h a) (F_X11_init α h a) b := sa_tr (sa_sN hb) (tl_X11_19 α h a b hb (by omega))
theorem tl_X11_17 (α : hp_T) (h a : Nat) (b : Nat) (hb : b ≠ a) (hq : b < h + 923 ∨ h + 955 ≤ b) : sa (F_X11_init_17 α h a) (F_X11_init α h a) b := sa_tr (fr_X9 (F_X11_init_17 α h a) (h + (924)) (h + (923)) (by omega) b (by omega) (by omega)) (tl_X11_18 α h a b hb (by omega))
theorem tl_X11_16 (α : hp_T) (h a : Nat) (b : Nat) (hb : b ≠ a) (hq : b < h + 923 ∨ h + 955 ≤ b) : sa (F_X11_init_16 α h a) (F_X11_init α h a) b := sa_tr (sa_nw (by omega)) (tl_X11_17 α h a b hb (by omega))
theorem tl_X11_15 (α : hp_T) (h a : Nat) (b : Nat) (hb : b ≠ a) (hq : b < h + 923 ∨ h + 955 ≤ b) : sa (F_X11_init_15 α h a) (F_X11_init α h a) b := sa_tr (sa_sN hb) (tl_X11_16 α h a b hb (by omega))
theorem tl_X11_14 (α : hp_T) (h a : Nat) (b : Nat) (hb : b ≠ a) (hq : b < h + 921 ∨ h + 955 ≤ b) : sa (F_X11_init_14 α h a) (F_X11_init α h a) b := sa_tr (fr_X9 (F_X11_init_14 α h a) (h + (922)) (h + (921)) (by omega) b (by omega) (by omega)) (tl_X11_15 α h a b hb (by omega))
theorem tl_X11_13 (α : hp_T) (h a : Nat) (b : Nat) (hb : b ≠ a) (hq : b < h + 921 ∨ h + 955 ≤ b) : sa (F_X11_init_13 α h a) (F_X11_init α h a) b := sa_tr (sa_nw (by omega)) (tl_X11_14 α h a b hb (by omega))
theorem tl_X11_12 (α : hp_T) (h a : Nat) (b : Nat) (hb : b ≠ a) (hq : b < h + 921 ∨ h + 955 ≤ b) : sa (F_X11_init_12 α h a) (F_X11_init α h a) b := sa_tr (sa_sI hb) (tl_X11_13 α h a b hb (by omega))
theorem tl_X11_11 (α : hp_T) (h a : Nat) (b : Nat) (hb : b ≠ a) (hq : b < h + 921 ∨ h + 955 ≤ b) : sa (F_X11_init_11 α h a) (F_X11_init α h a) b := sa_tr (sa_sN hb) (tl_X11_12 α h a b hb (by omega))
theorem tl_X11_10 (α : hp_T) (h a : Nat) (b : Nat) (hb : b ≠ a) (hq : b < h + 920 ∨ h + 955 ≤ b) : sa (F_X11_init_10 α h a) (F_X11_init α h a) b := sa_tr (sa_nw (by omega)) (tl_X11_11 α h a b hb (by omega))
theorem tl_X11_9 (α : hp_T) (h a : Nat) (b : Nat) (hb : b ≠ a) (hq : b < h + 920 ∨ h + 955 ≤ b) : sa (F_X11_init_9 α h a) (F_X11_init α h a) b := sa_tr (sa_sN hb) (tl_X11_10 α h a b hb (by omega))
theorem tl_X11_8 (α : hp_T) (h a : Nat) (b : Nat) (hb : b ≠ a) (hq : b < h + 918 ∨ h + 955 ≤ b) : sa (F_X11_init_8 α h a) (F_X11_init α h a) b := sa_tr (fr_X5 (F_X11_init_8 α h a) (h + (919)) (h + (918)) (by omega) b (by omega) (by omega)) (tl_X11_9 α h a b hb (by omega))
theorem tl_X11_7 (α : hp_T) (h a : Nat) (b : Nat) (hb : b ≠ a) (hq : b < h + 918 ∨ h + 955 ≤ b) : sa (F_X11_init_7 α h a) (F_X11_init α h a) b := sa_tr (sa_nw (by omega)) (tl_X11_8 α h a b hb (by omega))
theorem tl_X11_6 (α : hp_T) (h a : Nat) (b : Nat) (hb : b ≠ a) (hq : b < h + 918 ∨ h + 955 ≤ b) : sa (F_X11_init_6 α h a) (F_X11_init α h a) b := sa_tr (sa_sN hb) (tl_X11_7 α h a b hb (by omega))
theorem tl_X11_5 (α : hp_T) (h a : Nat) (b : Nat) (hb : b ≠ a) (hq : b < h + 459 ∨ h + 955 ≤ b) : sa (F_X11_init_5 α h a) (F_X11_init α h a) b := sa_tr (fr_X10 (F_X11_init_5 α h a) (h + (460)) (h + (459)) (by omega) b (by omega) (by omega)) (tl_X11_6 α h a b hb (by omega))
theorem tl_X11_4 (α : hp_T) (h a : Nat) (b : Nat) (hb : b ≠ a) (hq : b < h + 459 ∨ h + 955 ≤ b) : sa (F_X11_init_4 α h a) (F_X11_init α h a) b := sa_tr (sa_nw (by omega)) (tl_X11_5 α h a b hb (by omega))
theorem tl_X11_3 (α : hp_T) (h a : Nat) (b : Nat) (hb : b ≠ a) (hq : b < h + 459 ∨ h + 955 ≤ b) : sa (F_X11_init_3 α h a) (F_X11_init α h a) b := sa_tr (sa_sN hb) (tl_X11_4 α h a b hb (by omega))
theorem ka_X11_5 (α : hp_T) (h a : Nat) (ha : a < h) (φ : Nat) : hp_N (F_X11_init_5 α h a) φ a = hp_N (F_X11_init_4 α h a) φ a ∧ hp_I (F_X11_init_5 α h a) φ a = hp_I (F_X11_init_4 α h a) φ a := by
  have q := sa_nw (α := (F_X11_init_4 α h a)) (h := h + (459)) (κ := 111) (b := a) (by omega)
  exact ⟨q.2.2.2.2.1 φ, q.2.1 φ⟩
theorem ka_X11_6 (α : hp_T) (h a : Nat) (ha : a < h) (φ : Nat) : hp_N (F_X11_init_6 α h a) φ a = hp_N (F_X11_init_5 α h a) φ a ∧ hp_I (F_X11_init_6 α h a) φ a = hp_I (F_X11_init_5 α h a) φ a := by
  have q := fr_X10 (F_X11_init_5 α h a) (h + (460)) (h + (459)) (by omega) a (by omega) (by omega)
  exact ⟨q.2.2.2.2.1 φ, q.2.1 φ⟩
theorem ka_X11_7 (α : hp_T) (h a : Nat) (ha : a < h) (φ : Nat) (hφ : φ ≠ 602) : hp_N (F_X11_init_7 α h a) φ a = hp_N (F_X11_init_6 α h a) φ a ∧ hp_I (F_X11_init_7 α h a) φ a = hp_I (F_X11_init_6 α h a) φ a := ⟨sN_ne hφ, hI_sN⟩
theorem ka_X11_8 (α : hp_T) (h a : Nat) (ha : a < h) (φ : Nat) : hp_N (F_X11_init_8 α h a) φ a = hp_N (F_X11_init_7 α h a) φ a ∧ hp_I (F_X11_init_8 α h a) φ a = hp_I (F_X11_init_7 α h a) φ a := by
  have q := sa_nw (α := (F_X11_init_7 α h a)) (h := h + (918)) (κ := 106) (b := a) (by omega)
  exact ⟨q.2.2.2.2.1 φ, q.2.1 φ⟩
theorem ka_X11_9 (α : hp_T) (h a : Nat) (ha : a < h) (φ : Nat) : hp_N (F_X11_init_9 α h a) φ a = hp_N (F_X11_init_8 α h a) φ a ∧ hp_I (F_X11_init_9 α h a) φ a = hp_I (F_X11_init_8 α h a) φ a := by
  have q := fr_X5 (F_X11_init_8 α h a) (h + (919)) (h + (918)) (by omega) a (by omega) (by omega)
  exact ⟨q.2.2.2.2.1 φ, q.2.1 φ⟩
theorem ka_X11_10 (α : hp_T) (h a : Nat) (ha : a < h) (φ : Nat) (hφ : φ ≠ 603) : hp_N (F_X11_init_10 α h a) φ a = hp_N (F_X11_init_9 α h a) φ a ∧ hp_I (F_X11_init_10 α h a) φ a = hp_I (F_X11_init_9 α h a) φ a := ⟨sN_ne hφ, hI_sN⟩
theorem ka_X11_11 (α : hp_T) (h a : Nat) (ha : a < h) (φ : Nat) : hp_N (F_X11_init_11 α h a) φ a = hp_N (F_X11_init_10 α h a) φ a ∧ hp_I (F_X11_init_11 α h a) φ a = hp_I (F_X11_init_10 α h a) φ a := by
  have q := sa_nw (α := (F_X11_init_10 α h a)) (h := h + (920)) (κ := 24) (b := a) (by omega)
  exact ⟨q.2.2.2.2.1 φ, q.2.1 φ⟩
theorem ka_X11_12 (α : hp_T) (h a : Nat) (ha : a < h) (φ : Nat) (hφ : φ ≠ 604) : hp_N (F_X11_init_12 α h a) φ a = hp_N (F_X11_init_11 α h a) φ a ∧ hp_I (F_X11_init_12 α h a) φ a = hp_I (F_X11_init_11 α h a) φ a := ⟨sN_ne hφ, hI_sN⟩
theorem ka_X11_13 (α : hp_T) (h a : Nat) (ha : a < h) (φ : Nat) (hφ : φ ≠ 605) : hp_N (F_X11_init_13 α h a) φ a = hp_N (F_X11_init_12 α h a) φ a ∧ hp_I (F_X11_init_13 α h a) φ a = hp_I (F_X11_init_12 α h a) φ a := ⟨hN_sI, hp_I_ne hφ⟩
theorem ka_X11_14 (α : hp_T) (h a : Nat) (ha : a < h) (φ : Nat) : hp_N (F_X11_init_14 α h a) φ a = hp_N (F_X11_init_13 α h a) φ a ∧ hp_I (F_X11_init_14 α h a) φ a = hp_I (F_X11_init_13 α h a) φ a := by
  have q := sa_nw (α := (F_X11_init_13 α h a)) (h := h + (921)) (κ := 110) (b := a) (by omega)
  exact ⟨q.2.2.2.2.1 φ, q.2.1 φ⟩
theorem ka_X11_15 (α : hp_T) (h a : Nat) (ha : a < h) (φ : Nat) : hp_N (F_X11_init_15 α h a) φ a = hp_N (F_X11_init_14 α h a) φ a ∧ hp_I (F_X11_init_15 α h a) φ a = hp_I (F_X11_init_14 α h a) φ a := by
  have q := fr_X9 (F_X11_init_14 α h a) (h + (922)) (h + (921)) (by omega) a (by omega) (by omega)
  exact ⟨q.2.2.2.2.1 φ, q.2.1 φ⟩
theorem ka_X11_16 (α : hp_T) (h a : Nat) (ha : a < h) (φ : Nat) (hφ : φ ≠ 606) : hp_N (F_X11_init_16 α h a) φ a = hp_N (F_X11_init_15 α h a) φ a ∧ hp_I (F_X11_init_16 α h a) φ a = hp_I (F_X11_init_15 α h a) φ a := ⟨sN_ne hφ, hI_sN⟩
theorem ka_X11_17 (α : hp_T) (h a : Nat) (ha : a < h) (φ : Nat) : hp_N (F_X11_init_17 α h a) φ a = hp_N (F_X11_init_16 α h a) φ a ∧ hp_I (F_X11_init_17 α h a) φ a = hp_I (F_X11_init_16 α h a) φ a := by
  have q := sa_nw (α := (F_X11_init_16 α h a)) (h := h + (923)) (κ := 110) (b := a) (by omega)
  exact ⟨q.2.2.2.2.1 φ, q.2.1 φ⟩
theorem ka_X11_18 (α : hp_T) (h a : Nat) (ha : a < h) (φ : Nat) : hp_N (F_X11_init_18 α h a) φ a = hp_N (F_X11_init_17 α h a) φ a ∧ hp_I (F_X11_init_18 α h a) φ a = hp_I (F_X11_init_17 α h a) φ a := by
  have q := fr_X9 (F_X11_init_17 α h a) (h + (924)) (h + (923)) (by omega) a (by omega) (by omega)
  exact ⟨q.2.2.2.2.1 φ, q.2.1 φ⟩
theorem ka_X11_19 (α : hp_T) (h a : Nat) (ha : a < h) (φ : Nat) (hφ : φ ≠ 607) : hp_N (F_X11_init_19 α h a) φ a = hp_N (F_X11_init_18 α h a) φ a ∧ hp_I (F_X11_init_19 α h a) φ a = hp_I (F_X11_init_18 α h a) φ a := ⟨sN_ne hφ, hI_sN⟩
theorem ka_X11_20 (α : hp_T) (h a : Nat) (ha : a < h) (φ : Nat) : hp_N (F_X11_init_20 α h a) φ a = hp_N (F_X11_init_19 α h a) φ a ∧ hp_I (F_X11_init_20 α h a) φ a = hp_I (F_X11_init_19 α h a) φ a := by
  have q := sa_nw (α := (F_X11_init_19 α h a)) (h := h + (925)) (κ := 106) (b := a) (by omega)
  exact ⟨q.2.2.2.2.1 φ, q.2.1 φ⟩
theorem ka_X11_21 (α : hp_T) (h a : Nat) (ha : a < h) (φ : Nat) : hp_N (F_X11_init_21 α h a) φ a = hp_N (F_X11_init_20 α h a) φ a ∧ hp_I (F_X11_init_21 α h a) φ a = hp_I (F_X11_init_20 α h a) φ a := by
  have q := fr_X5 (F_X11_init_20 α h a) (h + (926)) (h + (925)) (by omega) a (by omega) (by omega)
  exact ⟨q.2.2.2.2.1 φ, q.2.1 φ⟩
theorem ka_X11_22 (α : hp_T) (h a : Nat) (ha : a < h) (φ : Nat) (hφ : φ ≠ 608) : hp_N (F_X11_init_22 α h a) φ a = hp_N (F_X11_init_21 α h a) φ a ∧ hp_I (F_X11_init_22 α h a) φ a = hp_I (F_X11_init_21 α h a) φ a := ⟨sN_ne hφ, hI_sN⟩
theorem ka_X11_23 (α : hp_T) (h a : Nat) (ha : a < h) (φ : Nat) : hp_N (F_X11_init_23 α h a) φ a = hp_N (F_X11_init_22 α h a) φ a ∧ hp_I (F_X11_init_23 α h a) φ a = hp_I (F_X11_init_22 α h a) φ a := by
  have q := sa_nw (α := (F_X11_init_22 α h a)) (h := h + (927)) (κ := 106) (b := a) (by omega)
  exact ⟨q.2.2.2.2.1 φ, q.2.1 φ⟩
theorem ka_X11_24 (α : hp_T) (h a : Nat) (ha : a < h) (φ : Nat) : hp_N (F_X11_init_24 α h a) φ a = hp_N (F_X11_init_23 α h a) φ a ∧ hp_I (F_X11_init_24 α h a) φ a = hp_I (F_X11_init_23 α h a) φ a := by
  have q := fr_X5 (F_X11_init_23 α h a) (h + (928)) (h + (927)) (by omega) a (by omega) (by omega)
  exact ⟨q.2.2.2.2.1 φ, q.2.1 φ⟩
theorem ka_X11_25 (α : hp_T) (h a : Nat) (ha : a < h) (φ : Nat) (hφ : φ ≠ 609) : hp_N (F_X11_init_25 α h a) φ a = hp_N (F_X11_init_24 α h a) φ a ∧ hp_I (F_X11_init_25 α h a) φ a = hp_I (F_X11_init_24 α h a) φ a := ⟨sN_ne hφ, hI_sN⟩
theorem ka_X11_26 (α : hp_T) (h a : Nat) (ha : a < h) (φ : Nat) : hp_N (F_X11_init_26 α h a) φ a = hp_N (F_X11_init_25 α h a) φ a ∧ hp_I (F_X11_init_26 α h a) φ a = hp_I (F_X11_init_25 α h a) φ a := by
  have q := sa_nw (α := (F_X11_init_25 α h a)) (h := h + (929)) (κ := 25) (b := a) (by omega)
  exact ⟨q.2.2.2.2.1 φ, q.2.1 φ⟩
theorem ka_X11_27 (α : hp_T) (h a : Nat) (ha : a < h) (φ : Nat) (hφ : φ ≠ 610) : hp_N (F_X11_init_27 α h a) φ a = hp_N (F_X11_init_26 α h a) φ a ∧ hp_I (F_X11_init_27 α h a) φ a = hp_I (F_X11_init_26 α h a) φ a := ⟨sN_ne hφ, hI_sN⟩
theorem ka_X11_28 (α : hp_T) (h a : Nat) (ha : a < h) (φ : Nat) (hφ : φ ≠ 611) : hp_N (F_X11_init_28 α h a) φ a = hp_N (F_X11_init_27 α h a) φ a ∧ hp_I (F_X11_init_28 α h a) φ a = hp_I (F_X11_init_27 α h a) φ a := ⟨hN_sI, hp_I_ne hφ⟩
theorem kt_X11_46 (α : hp_T) (h a : Nat) (ha : a < h) (φ : Nat) (hφ : φ < 10000) : hp_N (F_X11_init_46 α h a) φ a = hp_N (F_X11_init_46 α h a) φ a ∧ hp_I (F_X11_init_46 α h a) φ a = hp_I (F_X11_init_46 α h a) φ a := ⟨rfl, rfl⟩
theorem kt_X11_45 (α : hp_T) (h a : Nat) (ha : a < h) (φ : Nat) (hφ : φ < 618) : hp_N (F_X11_init_46 α h a) φ a = hp_N (F_X11_init_45 α h a) φ a ∧ hp_I (F_X11_init_46 α h a) φ a = hp_I (F_X11_init_45 α h a) φ a := by
  have p := kt_X11_46 α h a ha φ (by omega)
  have q := ka_X11_46 α h a ha φ (by omega)
  exact ⟨p.1.trans q.1, p.2.trans q.2⟩
theorem kt_X11_44 (α : hp_T) (h a : Nat) (ha : a < h) (φ : Nat) (hφ : φ < 617) : hp_N (F_X11_init_46 α h a) φ a = hp_N (F_X11_init_44 α h a) φ a ∧ hp_I (F_X11_init_46 α h a) φ a = hp_I (F_X11_init_44 α h a) φ a := by
  have p := kt_X11_45 α h a ha φ (by omega)
  have q := ka_X11_45 α h a ha φ (by omega)
  exact ⟨p.1.trans q.1, p.2.trans q.2⟩
theorem kt_X11_43 (α : hp_T) (h a : Nat) (ha : a < h) (φ : Nat) (hφ : φ < 617) : hp_N (F_X11_init_46 α h a) φ a = hp_N (F_X11_init_43 α h a) φ a ∧ hp_I (F_X11_init_46 α h a) φ a = hp_I (F_X11_init_43 α h a) φ a := by
  have p := kt_X11_44 α h a ha φ (by omega)
  have q := ka_X11_44 α h a ha φ
  exact ⟨p.1.trans q.1, p.2.trans q.2⟩
theorem kt_X11_42 (α : hp_T) (h a : Nat) (ha : a < h) (φ : Nat) (hφ : φ < 616) : hp_N (F_X11_init_46 α h a) φ a = hp_N (F_X11_init_42 α h a) φ a ∧ hp_I (F_X11_init_46 α h a) φ a = hp_I (F_X11_init_42 α h a) φ a := by
  have p := kt_X11_43 α h a ha φ (by omega)
  have q := ka_X11_43 α h a ha φ (by omega)
  exact ⟨p.1.trans q.1, p.2.trans q.2⟩
theorem kt_X11_41 (α : hp_T) (h a : Nat) (ha : a < h) (φ : Nat) (hφ : φ < 616) : hp_N (F_X11_init_46 α h a) φ a = hp_N (F_X11_init_41 α h a) φ a ∧ hp_I (F_X11_init_46 α h a) φ a = hp_I (F_X11_init_41 α h a) φ a := by
  have p := kt_X11_42 α h a ha φ (by omega)
  have q := ka_X11_42 α h a ha φ
  exact ⟨p.1.trans q.1, p.2.trans q.2⟩
theorem kt_X11_40 (α : hp_T) (h a : Nat) (ha : a < h) (φ : Nat) (hφ : φ < 616) : hp_N (F_X11_init_46 α h a) φ a = hp_N (F_X11_init_40 α h a) φ a ∧ hp_I (F_X11_init_46 α h a) φ a = hp_I (F_X11_init_40 α h a) φ a := by
  have p := kt_X11_41 α h a ha φ (by omega)
  have q := ka_X11_41 α h a ha φ
  exact ⟨p.1.trans q.1, p.2.trans q.2⟩
theorem kt_X11_39 (α : hp_T) (h a : Nat) (ha : a < h) (φ : Nat) (hφ : φ < 615) : hp_N (F_X11_init_46 α h a) φ a = hp_N (F_X11_init_39 α h a) φ a ∧ hp_I (F_X11_init_46 α h a) φ a = hp_I (F_X11_init_39 α h a) φ a := by
  have p := kt_X11_40 α h a ha φ (by omega)
  have q := ka_X11_40 α h a ha φ (by omega)
  exact ⟨p.1.trans q.1, p.2.trans q.2⟩
theorem kt_X11_38 (α : hp_T) (h a : Nat) (ha : a < h) (φ : Nat) (hφ : φ < 615) : hp_N (F_X11_init_46 α h a) φ a = hp_N (F_X11_init_38 α h a) φ a ∧ hp_I (F_X11_init_46 α h a) φ a = hp_I (F_X11_init_38 α h a) φ a := by
  have p := kt_X11_39 α h a ha φ (by omega)
  have q := ka_X11_39 α h a ha φ
  exact ⟨p.1.trans q.1, p.2.trans q.2⟩
theorem kt_X11_37 (α : hp_T) (h a : Nat) (ha : a < h) (φ : Nat) (hφ : φ < 615) : hp_N (F_X11_init_46 α h a) φ a = hp_N (F_X11_init_37 α h a) φ a ∧ hp_I (F_X11_init_46 α h a) φ a = hp_I (F_X11_init_37 α h a) φ a := by
  have p := kt_X11_38 α h a ha φ (by omega)
  have q := ka_X11_38 α h a ha φ
  exact ⟨p.1.trans q.1, p.2.trans q.2⟩
theorem kt_X11_36 (α : hp_T) (h a : Nat) (ha : a < h) (φ : Nat) (hφ : φ < 614) : hp_N (F_X11_init_46 α h a) φ a = hp_N (F_X11_init_36 α h a) φ a ∧ hp_I (F_X11_init_46 α h a) φ a = hp_I (F_X11_init_36 α h a) φ a := by
  have p := kt_X11_37 α h a ha φ (by omega)
  have q := ka_X11_37 α h a ha φ (by omega)
  exact ⟨p.1.trans q.1, p.2.trans q.2⟩
theorem kt_X11_35 (α : hp_T) (h a : Nat) (ha : a < h) (φ : Nat) (hφ : φ < 614) : hp_N (F_X11_init_46 α h a) φ a = hp_N (F_X11_init_35 α h a) φ a ∧ hp_I (F_X11_init_46 α h a) φ a = hp_I (F_X11_init_35 α h a) φ a := by
  have p := kt_X11_36 α h a ha φ (by omega)
  have q := ka_X11_36 α h a ha φ
  exact ⟨p.1.trans q.1, p.2.trans q.2⟩
theorem kt_X11_34 (α : hp_T) (h a : Nat) (ha : a < h) (φ : Nat) (hφ : φ < 614) : hp_N (F_X11_init_46 α h a) φ a = hp_N (F_X11_init_34 α h a) φ a ∧ hp_I (F_X11_init_46 α h a) φ a = hp_I (F_X11_init_34 α h a) φ a := by
  have p := kt_X11_35 α h a ha φ (by omega)
  have q := ka_X11_35 α h a ha φ
  exact ⟨p.1.trans q.1, p.2.trans q.2⟩
theorem kt_X11_33 (α : hp_T) (h a : Nat) (ha : a < h) (φ : Nat) (hφ : φ < 613) : hp_N (F_X11_init_46 α h a) φ a = hp_N (F_X11_init_33 α h a) φ a ∧ hp_I (F_X11_init_46 α h a) φ a = hp_I (F_X11_init_33 α h a) φ a := by
  have p := kt_X11_34 α h a ha φ (by omega)
  have q := ka_X11_34 α h a ha φ (by omega)
  exact ⟨p.1.trans q.1, p.2.trans q.2⟩
theorem kt_X11_32 (α : hp_T) (h a : Nat) (ha : a < h) (φ : Nat) (hφ : φ < 613) : hp_N (F_X11_init_46 α h a) φ a = hp_N (F_X11_init_32 α h a) φ a ∧ hp_I (F_X11_init_46 α h a) φ a = hp_I (F_X11_init_32 α h a) φ a := by
  have p := kt_X11_33 α h a ha φ (by omega)
  have q := ka_X11_33 α h a ha φ
  exact ⟨p.1.trans q.1, p.2.trans q.2⟩
theorem kt_X11_31 (α : hp_T) (h a : Nat) (ha : a < h) (φ : Nat) (hφ : φ < 613) : hp_N (F_X11_init_46 α h a) φ a = hp_N (F_X11_init_31 α h a) φ a ∧ hp_I (F_X11_init_46 α h a) φ a = hp_I (F_X11_init_31 α h a) φ a := by
  have p := kt_X11_32 α h a ha φ (by omega)
  have q := ka_X11_32 α h a ha φ
  exact ⟨p.1.trans q.1, p.2.trans q.2⟩
theorem kt_X11_30 (α : hp_T) (h a : Nat) (ha : a < h) (φ : Nat) (hφ : φ < 612) : hp_N (F_X11_init_46 α h a) φ a = hp_N (F_X11_init_30 α h a) φ a ∧ hp_I (F_X11_init_46 α h a) φ a = hp_I (F_X11_init_30 α h a) φ a := by
  have p := kt_X11_31 α h a ha φ (by omega)
  have q := ka_X11_31 α h a ha φ (by omega)
  exact ⟨p.1.trans q.1, p.2.trans q.2⟩
theorem kt_X11_29 (α : hp_T) (h a : Nat) (ha : a < h) (φ : Nat) (hφ : φ < 612) : hp_N (F_X11_init_46 α h a) φ a = hp_N (F_X11_init_29 α h a) φ a ∧ hp_I (F_X11_init_46 α h a) φ a = hp_I (F_X11_init_29 α h a) φ a := by
  have p := kt_X11_30 α h a ha φ (by omega)
  have q := ka_X11_30 α h a ha φ
  exact ⟨p.1.trans q.1, p.2.trans q.2⟩
theorem kt_X11_28 (α : hp_T) (h a : Nat) (ha : a < h) (φ : Nat) (hφ : φ < 612) : hp_N (F_X11_init_46 α h a) φ a = hp_N (F_X11_init_28 α h a) φ a ∧ hp_I (F_X11_init_46 α h a) φ a = hp_I (F_X11_init_28 α h a) φ a := by
  have p := kt_X11_29 α h a ha φ (by omega)
  have q := ka_X11_29 α h a ha φ
  exact ⟨p.1.trans q.1, p.2.trans q.2⟩
theorem kt_X11_27 (α : hp_T) (h a : Nat) (ha : a < h) (φ : Nat) (hφ : φ < 611) : hp_N (F_X11_init_46 α h a) φ a = hp_N (F_X11_init_27 α h a) φ a ∧ hp_I (F_X11_init_46 α h a) φ a = hp_I (F_X11_init_27 α h a) φ a := by
  have p := kt_X11_28 α h a ha φ (by omega)
  have q := ka_X11_28 α h a ha φ (by omega)
  exact ⟨p.1.trans q.1, p.2.trans q.2⟩
theorem kt_X11_26 (α : hp_T) (h a : Nat) (ha : a < h) (φ : Nat) (hφ : φ < 610) : hp_N (F_X11_init_46 α h a) φ a = hp_N (F_X11_init_26 α h a) φ a ∧ hp_I (F_X11_init_46 α h a) φ a = hp_I (F_X11_init_26 α h a) φ a := by
  have p := kt_X11_27 α h a ha φ (by omega)
  have q := ka_X11_27 α h a ha φ (by omega)
  exact ⟨p.1.trans q.1, p.2.trans q.2⟩
theorem kt_X11_25 (α : hp_T) (h a : Nat) (ha : a < h) (φ : Nat) (hφ : φ < 610) : hp_N (F_X11_init_46 α h a) φ a = hp_N (F_X11_init_25 α h a) φ a ∧ hp_I (F_X11_init_46 α h a) φ a = hp_I (F_X11_init_25 α h a) φ a := by
  have p := kt_X11_26 α h a ha φ (by omega)
  have q := ka_X11_26 α h a ha φ
  exact ⟨p.1.trans q.1, p.2.trans q.2⟩
theorem kt_X11_24 (α : hp_T) (h a : Nat) (ha : a < h) (φ : Nat) (hφ : φ < 609) : hp_N (F_X11_init_46 α h a) φ a = hp_N (F_X11_init_24 α h a) φ a ∧ hp_I (F_X11_init_46 α h a) φ a = hp_I (F_X11_init_24 α h a) φ a := by
  have p := kt_X11_25 α h a ha φ (by omega)
  have q := ka_X11_25 α h a ha φ (by omega)
  exact ⟨p.1.trans q.1, p.2.trans q.2⟩
theorem kt_X11_23 (α : hp_T) (h a : Nat) (ha : a < h) (φ : Nat) (hφ : φ < 609) : hp_N (F_X11_init_46 α h a) φ a = hp_N (F_X11_init_23 α h a) φ a ∧ hp_I (F_X11_init_46 α h a) φ a = hp_I (F_X11_init_23 α h a) φ a := by
  have p := kt_X11_24 α h a ha φ (by omega)
  have q := ka_X11_24 α h a ha φ
  exact ⟨p.1.trans q.1, p.2.trans q.2⟩
theorem kt_X11_22 (α : hp_T) (h a : Nat) (ha : a < h) (φ : Nat) (hφ : φ < 609) : hp_N (F_X11_init_46 α h a) φ a = hp_N (F_X11_init_22 α h a) φ a ∧ hp_I (F_X11_init_46 α h a) φ a = hp_I (F_X11_init_22 α h a) φ a := by
  have p := kt_X11_23 α h a ha φ (by omega)
  have q := ka_X11_23 α h a ha φ
  exact ⟨p.1.trans q.1, p.2.trans q.2⟩
theorem kt_X11_21 (α : hp_T) (h a : Nat) (ha : a < h) (φ : Nat) (hφ : φ < 608) : hp_N (F_X11_init_46 α h a) φ a = hp_N (F_X11_init_21 α h a) φ a ∧ hp_I (F_X11_init_46 α h a) φ a = hp_I (F_X11_init_21 α h a) φ a := by
  have p := kt_X11_22 α h a ha φ (by omega)
  have q := ka_X11_22 α h a ha φ (by omega)
  exact ⟨p.1.trans q.1, p.2.trans q.2⟩
theorem kt_X11_20 (α : hp_T) (h a : Nat) (ha : a < h) (φ : Nat) (hφ : φ < 608) : hp_N (F_X11_init_46 α h a) φ a = hp_N (F_X11_init_20 α h a) φ a ∧ hp_I (F_X11_init_46 α h a) φ a = hp_I (F_X11_init_20 α h a) φ a := by
  have p := kt_X11_21 α h a ha φ (by omega)
  have q := ka_X11_21 α h a ha φ
  exact ⟨p.1.trans q.1, p.2.trans q.2⟩
theorem kt_X11_19 (α : hp_T) (h a : Nat) (ha : a < h) (φ : Nat) (hφ : φ < 608) : hp_N (F_X11_init_46 α h a) φ a = hp_N (F_X11_init_19 α h a) φ a ∧ hp_I (F_X11_init_46 α h a) φ a = hp_I (F_X11_init_19 α h a) φ a := by
  have p := kt_X11_20 α h a ha φ (by omega)
  have q := ka_X11_20 α h a ha φ
  exact ⟨p.1.trans q.1, p.2.trans q.2⟩
theorem kt_X11_18 (α : hp_T) (h a : Nat) (ha : a < h) (φ : Nat) (hφ : φ < 607) : hp_N (F_X11_init_46 α h a) φ a = hp_N (F_X11_init_18 α h a) φ a ∧ hp_I (F_X11_init_46 α h a) φ a = hp_I (F_X11_init_18 α h a) φ a := by
  have p := kt_X11_19 α h a ha φ (by omega)
  have q := ka_X11_19 α h a ha φ (by omega)
  exact ⟨p.1.trans q.1, p.2.trans q.2⟩
theorem kt_X11_17 (α : hp_T) (h a : Nat) (ha : a < h) (φ : Nat) (hφ : φ < 607) : hp_N (F_X11_init_46 α h a) φ a = hp_N (F_X11_init_17 α h a) φ a ∧ hp_I (F_X11_init_46 α h a) φ a = hp_I (F_X11_init_17 α h a) φ a := by
  have p := kt_X11_18 α h a ha φ (by omega)
  have q := ka_X11_18 α h a ha φ
  exact ⟨p.1.trans q.1, p.2.trans q.2⟩
theorem kt_X11_16 (α : hp_T) (h a : Nat) (ha : a < h) (φ : Nat) (hφ : φ < 607) : hp_N (F_X11_init_46 α h a) φ a = hp_N (F_X11_init_16 α h a) φ a ∧ hp_I (F_X11_init_46 α h a) φ a = hp_I (F_X11_init_16 α h a) φ a := by
  have p := kt_X11_17 α h a ha φ (by omega)
  have q := ka_X11_17 α h a ha φ
  exact ⟨p.1.trans q.1, p.2.trans q.2⟩
theorem kt_X11_15 (α : hp_T) (h a : Nat) (ha : a < h) (φ : Nat) (hφ : φ < 606) : hp_N (F_X11_init_46 α h a) φ a = hp_N (F_X11_init_15 α h a) φ a ∧ hp_I (F_X11_init_46 α h a) φ a = hp_I (F_X11_init_15 α h a) φ a := by
  have p := kt_X11_16 α h a ha φ (by omega)
  have q := ka_X11_16 α h a ha φ (by omega)
  exact ⟨p.1.trans q.1, p.2.trans q.2⟩
theorem kt_X11_14 (α : hp_T) (h a : Nat) (ha : a < h) (φ : Nat) (hφ : φ < 606) : hp_N (F_X11_init_46 α h a) φ a = hp_N (F_X11_init_14 α h a) φ a ∧ hp_I (F_X11_init_46 α h a) φ a = hp_I (F_X11_init_14 α h a) φ a := by
  have p := kt_X11_15 α h a ha φ (by omega)
  have q := ka_X11_15 α h a ha φ
  exact ⟨p.1.trans q.1, p.2.trans q.2⟩
theorem kt_X11_13 (α : hp_T) (h a : Nat) (ha : a < h) (φ : Nat) (hφ : φ < 606) : hp_N (F_X11_init_46 α h a) φ a = hp_N (F_X11_init_13 α h a) φ a ∧ hp_I (F_X11_init_46 α h a) φ a = hp_I (F_X11_init_13 α h a) φ a := by
  have p := kt_X11_14 α h a ha φ (by omega)
  have q := ka_X11_14 α h a ha φ
  exact ⟨p.1.trans q.1, p.2.trans q.2⟩
theorem kt_X11_12 (α : hp_T) (h a : Nat) (ha : a < h) (φ : Nat) (hφ : φ < 605) : hp_N (F_X11_init_46 α h a) φ a = hp_N (F_X11_init_12 α h a) φ a ∧ hp_I (F_X11_init_46 α h a) φ a = hp_I (F_X11_init_12 α h a) φ a := by
  have p := kt_X11_13 α h a ha φ (by omega)
  have q := ka_X11_13 α h a ha φ (by omega)
  exact ⟨p.1.trans q.1, p.2.trans q.2⟩
theorem kt_X11_11 (α : hp_T) (h a : Nat) (ha : a < h) (φ : Nat) (hφ : φ < 604) : hp_N (F_X11_init_46 α h a) φ a = hp_N (F_X11_init_11 α h a) φ a ∧ hp_I (F_X11_init_46 α h a) φ a = hp_I (F_X11_init_11 α h a) φ a := by
  have p := kt_X11_12 α h a ha φ (by omega)
  have q := ka_X11_12 α h a ha φ (by omega)
  exact ⟨p.1.trans q.1, p.2.trans q.2⟩
theorem kt_X11_10 (α : hp_T) (h a : Nat) (ha : a < h) (φ : Nat) (hφ : φ < 604) : hp_N (F_X11_init_46 α h a) φ a = hp_N (F_X11_init_10 α h a) φ a ∧ hp_I (F_X11_init_46 α h a) φ a = hp_I (F_X11_init_10 α h a) φ a := by
  have p := kt_X11_11 α h a ha φ (by omega)
  have q := ka_X11_11 α h a ha φ
  exact ⟨p.1.trans q.1, p.2.trans q.2⟩
theorem kt_X11_9 (α : hp_T) (h a : Nat) (ha : a < h) (φ : Nat) (hφ : φ < 603) : hp_N (F_X11_init_46 α h a) φ a = hp_N (F_X11_init_9 α h a) φ a ∧ hp_I (F_X11_init_46 α h a) φ a = hp_I (F_X11_init_9 α h a) φ a := by
  have p := kt_X11_10 α h a ha φ (by omega)
  have q := ka_X11_10 α h a ha φ (by omega)
  exact ⟨p.1.trans q.1, p.2.trans q.2⟩
theorem kt_X11_8 (α : hp_T) (h a : Nat) (ha : a < h) (φ : Nat) (hφ : φ < 603) : hp_N (F_X11_init_46 α h a) φ a = hp_N (F_X11_init_8 α h a) φ a ∧ hp_I (F_X11_init_46 α h a) φ a = hp_I (F_X11_init_8 α h a) φ a := by
  have p := kt_X11_9 α h a ha φ (by omega)
  have q := ka_X11_9 α h a ha φ
  exact ⟨p.1.trans q.1, p.2.trans q.2⟩
theorem kt_X11_7 (α : hp_T) (h a : Nat) (ha : a < h) (φ : Nat) (hφ : φ < 603) : hp_N (F_X11_init_46 α h a) φ a = hp_N (F_X11_init_7 α h a) φ a ∧ hp_I (F_X11_init_46 α h a) φ a = hp_I (F_X11_init_7 α h a) φ a := by
  have p := kt_X11_8 α h a ha φ (by omega)
  have q := ka_X11_8 α h a ha φ
  exact ⟨p.1.trans q.1, p.2.trans q.2⟩
theorem kt_X11_6 (α : hp_T) (h a : Nat) (ha : a < h) (φ : Nat) (hφ : φ < 602) : hp_N (F_X11_init_46 α h a) φ a = hp_N (F_X11_init_6 α h a) φ a ∧ hp_I (F_X11_init_46 α h a) φ a = hp_I (F_X11_init_6 α h a) φ a := by
  have p := kt_X11_7 α h a ha φ (by omega)
  have q := ka_X11_7 α h a ha φ (by omega)
  exact ⟨p.1.trans q.1, p.2.trans q.2⟩
theorem kt_X11_5 (α : hp_T) (h a : Nat) (ha : a < h) (φ : Nat) (hφ : φ < 602) : hp_N (F_X11_init_46 α h a) φ a = hp_N (F_X11_init_5 α h a) φ a ∧ hp_I (F_X11_init_46 α h a) φ a = hp_I (F_X11_init_5 α h a) φ a := by
  have p := kt_X11_6 α h a ha φ (by omega)
  have q := ka_X11_6 α h a ha φ
  exact ⟨p.1.trans q.1, p.2.trans q.2⟩
theorem kt_X11_4 (α : hp_T) (h a : Nat) (ha : a < h) (φ : Nat) (hφ : φ < 602) : hp_N (F_X11_init_46 α h a) φ a = hp_N (F_X11_init_4 α h a) φ a ∧ hp_I (F_X11_init_46 α h a) φ a = hp_I (F_X11_init_4 α h a) φ a := by
  have p := kt_X11_5 α h a ha φ (by omega)
  have q := ka_X11_5 α h a ha φ
  exact ⟨p.1.trans q.1, p.2.trans q.2⟩
theorem fd_X11_601 (α : hp_T) (h a : Nat) (ha : a < h) : hp_R (F_X11_init α h a) 601 a = h + 0 := cv_R ((kt_X11_4 α h a ha 601 (by decide)).1.trans (show hp_N (hp_sN (F_X11_init_3 α h a) 601 a (some (h + (0)))) 601 a = some (h + (0)) from sN_at))
theorem fd_X11_602 (α : hp_T) (h a : Nat) (ha : a < h) : hp_R (F_X11_init α h a) 602 a = h + 459 := cv_R ((kt_X11_7 α h a ha 602 (by decide)).1.trans (show hp_N (hp_sN (F_X11_init_6 α h a) 602 a (some (h + (459)))) 602 a = some (h + (459)) from sN_at))
theorem fd_X11_603 (α : hp_T) (h a : Nat) (ha : a < h) : hp_R (F_X11_init α h a) 603 a = h + 918 := cv_R ((kt_X11_10 α h a ha 603 (by decide)).1.trans (show hp_N (hp_sN (F_X11_init_9 α h a) 603 a (some (h + (918)))) 603 a = some (h + (918)) from sN_at))
theorem fd_X11_604 (α : hp_T) (h a : Nat) (ha : a < h) : hp_R (F_X11_init α h a) 604 a = h + 920 := cv_R ((kt_X11_12 α h a ha 604 (by decide)).1.trans (show hp_N (hp_sN (F_X11_init_11 α h a) 604 a (some (h + (920)))) 604 a = some (h + (920)) from sN_at))
theorem fd_X11_605 (α : hp_T) (h a : Nat) (ha : a < h) : hp_I (F_X11_init α h a) 605 a = 0 := hI_cv.trans ((kt_X11_13 α h a ha 605 (by decide)).2.trans (show hp_I (hp_sI (F_X11_init_12 α h a) 605 a 0) 605 a = 0 from hp_I_at))
theorem fd_X11_606 (α : hp_T) (h a : Nat) (ha : a < h) : hp_R (F_X11_init α h a) 606 a = h + 921 := cv_R ((kt_X11_16 α h a ha 606 (by decide)).1.trans (show hp_N (hp_sN (F_X11_init_15 α h a) 606 a (some (h + (921)))) 606 a = some (h + (921)) from sN_at))
theorem fd_X11_607 (α : hp_T) (h a : Nat) (ha : a < h) : hp_R (F_X11_init α h a) 607 a = h + 923 := cv_R ((kt_X11_19 α h a ha 607 (by decide)).1.trans (show hp_N (hp_sN (F_X11_init_18 α h a) 607 a (some (h + (923)))) 607 a = some (h + (923)) from sN_at))
end JN10_9
section JN10_10
set_option maxRecDepth 100000
theorem in_X3_500 (α : hp_T) (h a : Nat) (ha : a < h) : hp_R (F_X3_init α h a) 500 (h + 8) = h + 9 := by
  rw [(tl_X3_15 α h a (h + 8) (by omega) (by omega)).2.2.2.1 500]
  exact fd_X9_500 (F_X3_init_14 α h a) (h + (9)) (h + (8)) (by omega)
/-! ===== LX of a new record ===== -/
theorem LX_0 (α : hp_T) (x : Nat) (σ : ms_T) (hR : RI σ) (hσ : ms_i0 σ) : LX (F_X11_init α (x + 1) x) x σ := by
  obtain ⟨s1, s2, s3, s4, s5⟩ := hσ
  have z : ∀ j, 2 ≤ j → j < 1980 → (ms_E σ 40 j).toInt = 0 := fun j p q => by rw [s5 j p q]; rfl
  have n1 : NW (F_X11_init_3 α (x + 1) x) (x + 1) := NW_0 (F_X11_init_2 α (x + 1) x) (x + 1)
  have n1' : NW (F_X11_init α (x + 1) x) (x + 1) := NW_sa n1 (fun b p q => tl_X11_3 α (x + 1) x b (by omega) (by omega))
  have e6 : F_X11_init_6 α (x + 1) x = F_X10_init (F_X11_init_5 α (x + 1) x) (x + 460 + 1) (x + 460) := by
    show F_X10_init _ (x + 1 + 460) (x + 1 + 459) = _
    rw [show x + 1 + 460 = x + 460 + 1 by omega, show x + 1 + 459 = x + 460 by omega]
  have n2 : NW (F_X11_init_6 α (x + 1) x) (x + 460) := by rw [e6]; exact NW_0 _ (x + 460)
  have n2' : NW (F_X11_init α (x + 1) x) (x + 460) := NW_sa n2 (fun b p q => tl_X11_6 α (x + 1) x b (by omega) (by omega))
  have ha : x < x + 1 := by omega
  refine ⟨hR.2, ⟨?_, ?_, ?_, ?_, ?_, ?_, ?_, ?_⟩, ⟨x + 1, x + 460, ?_, ?_, Or.inl ⟨rfl, rfl⟩, ⟨n1'.1, ?_, fun r hr => ?_, fun i hi => ?_, fun i hi => ?_⟩, n2'.1⟩, ⟨fun v hv => Or.inl (s5 _ (by omega) (by omega)), fun i hi => by rw [z 3 (by omega) (by omega)] at hi; omega⟩, ⟨?_, fun j hj => ?_⟩, [], ⟨by simp, ?_, fun k hk => absurd hk (by simp)⟩, Or.inl ⟨?_, ?_⟩, ?_, ?_, by simp, ?_, fun k hk => absurd hk (by simp), fun x hx => by cases hx⟩
  · rw [fd_X11_603 α (x + 1) x ha]
  · rw [(tl_X11_9 α (x + 1) x (x + 919) (by omega) (by omega)).2.2.2.1 300]
    have : hp_R (F_X5_init (F_X11_init_8 α (x + 1) x) (x + 1 + 919) (x + 1 + 918)) 300 (x + 1 + 918) = _ := fd_X5_300 _ _ _ (by omega)
    rw [show x + 919 = x + 1 + 918 by omega]
    exact this.trans (by omega)
  · rw [fd_X11_604 α (x + 1) x ha]
  · rw [(tl_X11_11 α (x + 1) x (x + 921) (by omega) (by omega)).1]
    rw [show x + 921 = x + 1 + 920 by omega]
    exact nw_k
  · rw [fd_X11_616 α (x + 1) x ha]
  · have q := tl_X11_42 α (x + 1) x (x + 944) (by omega) (by omega)
    have f : hp_R (F_X3_init (F_X11_init_41 α (x + 1) x) (x + 1 + 944) (x + 1 + 943)) 200 (x + 1 + 943) = _ := fd_X3_200 _ _ _ (by omega)
    rw [q.2.2.2.1 200, show x + 944 = x + 1 + 943 by omega]
    exact f.trans (by omega)
  · have q := tl_X11_42 α (x + 1) x (x + 944) (by omega) (by omega)
    have f : hp_R (F_X3_init (F_X11_init_41 α (x + 1) x) (x + 1 + 944) (x + 1 + 943)) 207 (x + 1 + 943) = _ := fd_X3_207 _ _ _ (by omega)
    rw [q.2.2.2.1 207, show x + 944 = x + 1 + 943 by omega]
    exact f.trans (by omega)
  · have q := tl_X11_42 α (x + 1) x (x + 944 + 9) (by omega) (by omega)
    have f : hp_R (F_X3_init (F_X11_init_41 α (x + 1) x) (x + 1 + 944) (x + 1 + 943)) 500 (x + 1 + 944 + 8) = _ := in_X3_500 _ _ _ (by omega)
    rw [q.2.2.2.1 500, show x + 944 + 9 = x + 1 + 944 + 8 by omega]
    exact f.trans (by omega)
  · rw [fd_X11_601 α (x + 1) x ha]
  · rw [fd_X11_602 α (x + 1) x ha]
  · rw [s3, s4, s5 3 (by omega) (by omega), s5 4 (by omega) (by omega)]
    exact n1'.2.1
  · rw [s3] at hr
    have hr0 : r = 0 := by
      have h9 : ((1 : Int32).toInt).toNat = 1 := by decide
      rw [h9] at hr
      omega
    subst hr0
    rw [s5 (72 + 0) (by omega) (by omega)]
    exact ⟨n1'.2.2.1, fun i hi => absurd hi (by rw [lt0]; simp)⟩
  · rw [s5 3 (by omega) (by omega), lt0] at hi
    exact absurd hi (by simp)
  · obtain ⟨w1, w2, w3, w4⟩ := n1'.2.2.2 i hi
    unfold WTN
    rw [s5 (76 + 4 * i) (by omega) (by omega), s5 (77 + 4 * i) (by omega) (by omega), s5 (78 + 4 * i) (by omega) (by omega), s5 (79 + 4 * i) (by omega) (by omega)]
    exact ⟨w1, w2, w4, w3⟩
  · rw [fd_X11_605 α (x + 1) x ha, s1 667, if_neg (by decide)]
  · rw [s1 667, if_neg (by decide), lt0] at hj
    omega
  · rw [s1 664, if_neg (by decide)]; rfl
  · rw [fd_X11_606 α (x + 1) x ha]
  · rw [fd_X11_607 α (x + 1) x ha]
  · have q := tl_X11_15 α (x + 1) x (x + 922) (by omega) (by omega)
    have f : hp_R (F_X9_init (F_X11_init_14 α (x + 1) x) (x + 1 + 922) (x + 1 + 921)) 500 (x + 1 + 921) = _ := fd_X9_500 _ _ _ (by omega)
    rw [q.2.2.2.1 500, show x + 922 = x + 1 + 921 by omega]
    exact f.trans (by omega)
  · have q := tl_X11_18 α (x + 1) x (x + 924) (by omega) (by omega)
    have f : hp_R (F_X9_init (F_X11_init_17 α (x + 1) x) (x + 1 + 924) (x + 1 + 923)) 500 (x + 1 + 923) = _ := fd_X9_500 _ _ _ (by omega)
    rw [q.2.2.2.1 500, show x + 924 = x + 1 + 923 by omega]
    exact f.trans (by omega)
  · have q := tl_X11_15 α (x + 1) x (x + 1 + 921) (by omega) (by omega)
    have f : hp_I (F_X9_init (F_X11_init_14 α (x + 1) x) (x + 1 + 922) (x + 1 + 921)) 501 (x + 1 + 921) = _ := fd_X9_501 _ _ _ (by omega)
    rw [fd_X11_606 α (x + 1) x ha, q.2.1 501]
    rw [show F_X11_init_15 α (x + 1) x = F_X9_init (F_X11_init_14 α (x + 1) x) (x + 1 + 922) (x + 1 + 921) from rfl, f]
    rfl
theorem LX_C {α β : hp_T} {x : Nat} {σ : ms_T} (g : GC α) (hk : hp_K α x = 12) (h : LX α x σ) (c : ∀ q, hp_K α q ≠ 0 → saC α β q) : LX β x σ := by
  have hK := LXK g hk h
  refine LX_p h (fun φ b p r => (c b (hK b p)).2.2.1 φ) (fun κ b j p => (c b (hK b p)).2.2.2.2.2 κ j) (fun φ b p r => (c b (hK b p)).2.1 φ ?_) (fun κ b j p r => (c b (hK b p)).2.2.2.2.1 κ j (by omega)) ((c _ (hK _ (by unfold inX; omega))).1)
  rcases r with r | r
  · simp only [okI, List.contains_cons, List.contains_nil, Bool.or_false, Bool.or_eq_true, beq_iff_eq] at r
    omega
  · omega
end JN10_10
section JN10_11
set_option maxRecDepth 100000
/-! ===== load keeps LX ===== -/
theorem LXW_LX {α : hp_T} {x : Nat} {σ : ms_T} (g : GC α) (h : LX α x σ) : LXW α x σ := ⟨h.2.1, RWX_Z g h.2.2.1, h.2.2.2.1, h.2.2.2.2.1, fun p => absurd p (fun q => q), fun p => absurd p (fun q => q)⟩
theorem LX_load {α β : hp_T} {x : Nat} {σ τ : ms_T} (h : LX α x σ) (hL : LXW β x τ) (hf : ldf x α β) (hr : fr ldw [40, 41, 42, 43, 44, 46] σ τ) (hC : rC (ms_E τ 40)) : LX β x τ := by
  obtain ⟨-, -, -, -, -, l, h5, ⟨y1, y2, y3, y4⟩⟩ := h
  obtain ⟨l1, l2, l3, l4, -, -⟩ := hL
  obtain ⟨f1, f2, f3, f4, f5, f6, f7⟩ := hf
  have e6 : hp_R β 606 x = hp_R α 606 x := f1 606 x (by omega) (by omega)
  have e7 : hp_R β 607 x = hp_R α 607 x := f1 607 x (by omega) (by omega)
  have e8 : hp_R β 500 (x + 922) = hp_R α 500 (x + 922) := f1 500 _ (by omega) (by omega)
  have e9 : hp_R β 500 (x + 924) = hp_R α 500 (x + 924) := f1 500 _ (by omega) (by omega)
  refine ⟨hC, l1, RWZ_X l2, l3, l4, l, TYS_e h5 (hr.1 664 (by decide)) (fun j => hr.2 45 (by decide) j), by rw [e6, e7]; exact y1, e8.trans y2, e9.trans y3, ?_⟩
  rw [e6]
  obtain ⟨b1, b2, b3, b4⟩ := y4
  have ht : hp_R α 606 x = x + 922 ∨ hp_R α 606 x = x + 924 := by rcases y1 with q | q; exact Or.inl q.1; exact Or.inr q.1
  have hE : hp_R β 500 (hp_R α 606 x) = hp_R α 500 (hp_R α 606 x) ∧ x + 922 ≤ hp_R α 500 (hp_R α 606 x) ∧ hp_R α 500 (hp_R α 606 x) < x + 926 := by
    rcases ht with q | q
    · rw [q, e8, y2]; omega
    · rw [q, e9, y3]; omega
  refine ⟨b1, by rw [f5 501 _ (by omega) (by omega)]; exact b2, fun k hk => ?_, b4⟩
  rw [hE.1, f7 27 _ k (by omega) (by omega) (by omega)]; exact b3 k hk
/-- two ends of one run -/
theorem ws_2 {R : Type} {o : Option R} {P Q : R → Prop} (h : ws o P) (g : ws o Q) : ws o (fun r => P r ∧ Q r) := ws_pr h (pr_w g)
/-- how the law's loop takes them -/
theorem lx_kq {α β : hp_T} {x : Nat} {σ τ : ms_T} (h : LX α x σ) (c : mo α β) (k : kq σ τ) (e7 : ms_I τ 667 = ms_I σ 667) (hR : RI τ) : LX β x τ :=
  LX_mo (LX_s h (cel_kq k) hR.2 (k.1 664 rfl) e7 (fun j => k.2 45 rfl j) (fun j => k.2 47 rfl j)) c
theorem lx_kpd {α β : hp_T} {x : Nat} {σ τ : ms_T} (h : LX α x σ) (c : mo α β) (k : kpd σ τ) (e7 : ms_I τ 667 = ms_I σ 667) (hR : RI τ) : LX β x τ :=
  LX_mo (LX_s h (cel_kpd k hR.2) hR.2 k.1 e7 (fun j => k.2.1 45 rfl j) (fun j => k.2.1 47 rfl j)) c
end JN10_11
section JN10_12
def f_X11_wrongGrowth (n : Nat) (α : hp_T) (o0 : Option Nat) (a1 : Int32) (a2 : Int32) : Option Int32 :=
  hq_m o0 (
    if a1 < 0 then
      some (1 : Int32)
    else
      if a1 ≤ a2 then
        some (2 : Int32)
      else
        some (1 : Int32)) fun a0 =>
  if a1 < 0 then
    some (1 : Int32)
  else
    if a1 ≤ a2 then
      ms_l (hp_I α 152 a0) fun x5 =>
      if a2 ≤ x5 then
        some (0 : Int32)
      else
        some (5 : Int32)
    else
      some (1 : Int32)
set_option maxRecDepth 100000 in
set_option maxHeartbeats 4000000 in
theorem n_X11_wrongGrowth (n : Nat) (Γ : hp_G) (l : Launch) (α : hp_T) (g : GC α) (o0 : Option Nat) (k0 : ∀ b, o0 = some b → hp_K α b = 3) (a1 : Int32) (a2 : Int32) (res : Int32) (hf : f_X11_wrongGrowth n α o0 a1 a2 = some res) : Met l yX11_wrongGrowth (hp_ws yX11_wrongGrowth cX11_wrongGrowth 3 (some .int)) (hp_rm 0 0 0) (hp_Pc Γ α [va_rf o0, .int a1, .int a2]) (hp_Qi Γ (fun r β => β = α ∧ r = res)) 0 0 (hp_A Γ) := by
  unfold f_X11_wrongGrowth at hf
  refine hp_start (by decide) ?_
  intro p e s m below meth c C hr hlk B0 hnm
  have C : hp_C Γ p m c cX11_wrongGrowth 3 s ([va_rf o0, .int a1, .int a2] : List Value).toArray RX11 := C
  have hx := C.1.1
  have hb := C.1.2.1
  have hown := C.1.2.2.2.1
  have hts := C.1.2.2.2.2
  have B : hp_B Γ (cw w_X11_wrongGrowth) s α α s.heap [] := ⟨B0.1, B0.2.1, cw_rf g⟩
  rcases o0 with _ | a0
  ·
    replace hf := hq_N hf
    have hl := lv_entry ([.null, .int a1, .int a2]) (n := 3) (Nat.le_of_ble_eq_true rfl)
    show W p l e (hp_rm 0 0 0) s m ([.null, .int a1, .int a2] : List Value).toArray below meth c s.heap [] 0 0 (MQ below (hp_Qi Γ (fun r β => β = α ∧ r = res)) ([.null, .int a1, .int a2] : List Value).toArray s 0 0 (hp_A Γ)) (entryFrame m ([.null, .int a1, .int a2] : List Value).toArray 3)
    rw [lg_entry_eq]
    generalize (lg_sl ([.null, .int a1, .int a2]) ++ List.replicate (3 - (lg_sl ([.null, .int a1, .int a2])).length) Slot.unset).toArray = ls at hl ⊢
    have hl : lv_has ls 3 [(0, .null), (1, .int a1), (2, .int a2)] := hl
    refine lv_iload_n hx hb dX11_wrongGrowth_0 rfl (lv_at hl 1 rfl) (hp_n (n := 1) rfl ?_)
    refine lv_if_lt (tgt := 9) hx hb dX11_wrongGrowth_1 (by decide) (fun c1 => ?_) (fun c1 => hp_n (n := 4) rfl ?_)
    ·
      replace hf := ms_iT c1 hf
      refine lv_iconst (v := 1) hx hb dX11_wrongGrowth_9 (by decide) (hp_n (n := 10) rfl ?_)
      cases hf
      exact q_iret C B hr hlk ⟨rfl, rfl⟩ dX11_wrongGrowth_10
    ·
      replace hf := ms_iF c1 hf
      refine lv_iload_n hx hb dX11_wrongGrowth_4 rfl (lv_at hl 1 rfl) (hp_n (n := 5) rfl ?_)
      refine lv_iload_n hx hb dX11_wrongGrowth_5 rfl (lv_at hl 2 rfl) (hp_n (n := 6) rfl ?_)
      refine lv_icmp_le (tgt := 11) hx hb dX11_wrongGrowth_6 (by decide) (fun c2 => ?_) (fun c2 => hp_n (n := 9) rfl ?_)
      ·
        replace hf := ms_iT c2 hf
        refine lv_aload_nN hx hb dX11_wrongGrowth_11 rfl (lv_at hl 0 rfl) (hp_n (n := 12) rfl ?_)
        refine lv_ifnonnullN hx hb dX11_wrongGrowth_12 (hp_n (n := 15) rfl ?_)
        refine lv_iconst (v := 2) hx hb dX11_wrongGrowth_15 (by decide) (hp_n (n := 16) rfl ?_)
        cases hf
        exact q_iret C B hr hlk ⟨rfl, rfl⟩ dX11_wrongGrowth_16
      ·
        replace hf := ms_iF c2 hf
        refine lv_iconst (v := 1) hx hb dX11_wrongGrowth_9 (by decide) (hp_n (n := 10) rfl ?_)
        cases hf
        exact q_iret C B hr hlk ⟨rfl, rfl⟩ dX11_wrongGrowth_10
  ·
    replace hf := hq_S hf
    have ka0 := k0 a0 rfl
    have hl := lv_entry ([.ref a0, .int a1, .int a2]) (n := 3) (Nat.le_of_ble_eq_true rfl)
    show W p l e (hp_rm 0 0 0) s m ([.ref a0, .int a1, .int a2] : List Value).toArray below meth c s.heap [] 0 0 (MQ below (hp_Qi Γ (fun r β => β = α ∧ r = res)) ([.ref a0, .int a1, .int a2] : List Value).toArray s 0 0 (hp_A Γ)) (entryFrame m ([.ref a0, .int a1, .int a2] : List Value).toArray 3)
    rw [lg_entry_eq]
    generalize (lg_sl ([.ref a0, .int a1, .int a2]) ++ List.replicate (3 - (lg_sl ([.ref a0, .int a1, .int a2])).length) Slot.unset).toArray = ls at hl ⊢
    have hl : lv_has ls 3 [(0, .ref a0), (1, .int a1), (2, .int a2)] := hl
    refine lv_iload_n hx hb dX11_wrongGrowth_0 rfl (lv_at hl 1 rfl) (hp_n (n := 1) rfl ?_)
    refine lv_if_lt (tgt := 9) hx hb dX11_wrongGrowth_1 (by decide) (fun c3 => ?_) (fun c3 => hp_n (n := 4) rfl ?_)
    ·
      replace hf := ms_iT c3 hf
      refine lv_iconst (v := 1) hx hb dX11_wrongGrowth_9 (by decide) (hp_n (n := 10) rfl ?_)
      cases hf
      exact q_iret C B hr hlk ⟨rfl, rfl⟩ dX11_wrongGrowth_10
    ·
      replace hf := ms_iF c3 hf
      refine lv_iload_n hx hb dX11_wrongGrowth_4 rfl (lv_at hl 1 rfl) (hp_n (n := 5) rfl ?_)
      refine lv_iload_n hx hb dX11_wrongGrowth_5 rfl (lv_at hl 2 rfl) (hp_n (n := 6) rfl ?_)
      refine lv_icmp_le (tgt := 11) hx hb dX11_wrongGrowth_6 (by decide) (fun c4 => ?_) (fun c4 => hp_n (n := 9) rfl ?_)
      ·
        replace hf := ms_iT c4 hf
        refine lv_aload_n hx hb dX11_wrongGrowth_11 rfl (lv_at hl 0 rfl) (hp_n (n := 12) rfl ?_)
        refine lv_ifnonnull (tgt := 17) hx hb dX11_wrongGrowth_12 (by decide) ?_
        refine lv_iload_n hx hb dX11_wrongGrowth_17 rfl (lv_at hl 2 rfl) (hp_n (n := 18) rfl ?_)
        refine lv_aload_n hx hb dX11_wrongGrowth_18 rfl (lv_at hl 0 rfl) (hp_n (n := 19) rfl ?_)
        refine q_geti (κ := 3) (k := 2) (φ := 152) (pc' := 22) C B (cw_k B.2.2 ka0) fl_X11_167 rfl rfl rfl dX11_wrongGrowth_19 rfl (fun x5 ex5 => ?_)
        replace hf := ms_lE ex5 hf
        refine lv_icmp_le (tgt := 29) hx hb dX11_wrongGrowth_22 (by decide) (fun c6 => ?_) (fun c6 => hp_n (n := 25) rfl ?_)
        ·
          replace hf := ms_iT c6 hf
          refine lv_iconst (v := 0) hx hb dX11_wrongGrowth_29 (by decide) (hp_n (n := 30) rfl ?_)
          cases hf
          exact q_iret C B hr hlk ⟨rfl, rfl⟩ dX11_wrongGrowth_30
        ·
          replace hf := ms_iF c6 hf
          refine lv_iconst (v := 5) hx hb dX11_wrongGrowth_25 (by decide) (hp_n (n := 26) rfl ?_)
          refine lv_goto (tgt := 30) hx hb dX11_wrongGrowth_26 (by decide) ?_
          cases hf
          exact q_iret C B hr hlk ⟨rfl, rfl⟩ dX11_wrongGrowth_30
      ·
        replace hf := ms_iF c4 hf
        refine lv_iconst (v := 1) hx hb dX11_wrongGrowth_9 (by decide) (hp_n (n := 10) rfl ?_)
        cases hf
        exact q_iret C B hr hlk ⟨rfl, rfl⟩ dX11_wrongGrowth_10
def f_X11_peaks (n : Nat) (α : hp_T) (a0 : Nat) (a1 : Int32) (a2 : Int32) : Option (Int32 × hp_T) :=
  ms_l (hp_R α 601 a0) fun b1 =>
  ms_b (f_X10_logAt n α b1 a1) fun rh2 =>
  hq_m rh2 (
    ms_b (f_X11_wrongGrowth n α none (0 : Int32) a2) fun rh3 =>
    if rh3 = 0 then
      ms_l (hp_R α 601 a0) fun b5 =>
      ms_l (hp_R α 603 a0) fun b6 =>
      ms_b (f_X10_peaksOf n α b5 none a2 b6) fun αh7 =>
      ms_l (hp_R αh7 603 a0) fun b8 =>
      ms_l (hp_I αh7 301 b8) fun x9 =>
      hq_c (f_X11_answer n αh7 a0 x9) fun rh10 αh10 =>
      some (rh10, αh10)
    else
      hq_c (f_X11_refuse n α a0 rh3) fun rh11 αh11 =>
      some (rh11, αh11)) fun bh2 =>
  ms_b (f_X11_wrongGrowth n α (some bh2) (0 : Int32) a2) fun rh12 =>
  if rh12 = 0 then
    ms_l (hp_R α 601 a0) fun b14 =>
    ms_l (hp_R α 603 a0) fun b15 =>
    ms_b (f_X10_peaksOf n α b14 (some bh2) a2 b15) fun αh16 =>
    ms_l (hp_R αh16 603 a0) fun b17 =>
    ms_l (hp_I αh16 301 b17) fun x18 =>
    hq_c (f_X11_answer n αh16 a0 x18) fun rh19 αh19 =>
    some (rh19, αh19)
  else
    hq_c (f_X11_refuse n α a0 rh12) fun rh20 αh20 =>
    some (rh20, αh20)
set_option maxRecDepth 100000 in
set_option maxHeartbeats 4000000 in
theorem n_X11_peaks (n : Nat) (Γ : hp_G) (l : Launch) (α : hp_T) (g : GC α) (a0 : Nat) (k0 : hp_K α a0 = 12) (a1 : Int32) (a2 : Int32) (res : (Int32 × hp_T)) (hf : f_X11_peaks n α a0 a1 a2 = some res) : Met l yX11_peaks (hp_ws yX11_peaks cX11_peaks 5 (some .int)) (hp_rm 3 0 0) (hp_Pc Γ α [.ref a0, .int a1, .int a2]) (hp_Qi Γ (fun r β => r = res.1 ∧ β = res.2 ∧ cw w_X11_peaks α β)) 0 0 (hp_A Γ) := by
  unfold f_X11_peaks at hf
  refine hp_start (by decide) ?_
  intro p e s m below meth c C hr hlk B0 hnm
  have C : hp_C Γ p m c cX11_peaks 5 s ([.ref a0, .int a1, .int a2] : List Value).toArray RX11 := C
  have hx := C.1.1
  have hb := C.1.2.1
  have hown := C.1.2.2.2.1
  have hts := C.1.2.2.2.2
  have B : hp_B Γ (cw w_X11_peaks) s α α s.heap [] := ⟨B0.1, B0.2.1, cw_rf g⟩
  have hl := lv_entry ([.ref a0, .int a1, .int a2]) (n := 5) (Nat.le_of_ble_eq_true rfl)
  show W p l e (hp_rm 3 0 0) s m ([.ref a0, .int a1, .int a2] : List Value).toArray below meth c s.heap [] 0 0 (MQ below (hp_Qi Γ (fun r β => r = res.1 ∧ β = res.2 ∧ cw w_X11_peaks α β)) ([.ref a0, .int a1, .int a2] : List Value).toArray s 0 0 (hp_A Γ)) (entryFrame m ([.ref a0, .int a1, .int a2] : List Value).toArray 5)
  rw [lg_entry_eq]
  generalize (lg_sl ([.ref a0, .int a1, .int a2]) ++ List.replicate (5 - (lg_sl ([.ref a0, .int a1, .int a2])).length) Slot.unset).toArray = ls at hl ⊢
  have hl : lv_has ls 5 [(0, .ref a0), (1, .int a1), (2, .int a2)] := hl
  refine lv_aload_n hx hb dX11_peaks_0 rfl (lv_at hl 0 rfl) (hp_n (n := 1) rfl ?_)
  refine q_getr (κ := 12) (k := 1) (φ := 601) (pc' := 4) C B (cw_k B.2.2 k0) fl_X11_16 rfl rfl rfl (cw_r B.2.2 k0 rfl rfl (by decide) (by decide)) dX11_peaks_1 rfl (fun b1 eb1 kb1 => ?_)
  replace hf := ms_lE eb1 hf
  refine lv_iload_n hx hb dX11_peaks_4 rfl (lv_at hl 1 rfl) (hp_n (n := 5) rfl ?_)
  obtain ⟨rh2, qh2, hf⟩ := ms_bE hf
  refine d_pq (pc' := 8) B (hp_runV (As := [.int a1]) (rest := []) C B (n_X10_logAt n Γ l α B.2.2.1 b1 (cw_k B.2.2 kb1) a1 rh2 qh2) lb_X10_logAt lv_X10_logAt lk_X11_163 (cw_k B.2.2 kb1) rfl (by decide) rfl hl.1 rfl (Nat.le_of_ble_eq_true rfl) dX11_peaks_5 ⟨Nat.le_refl _, Nat.le_refl _⟩) rfl (fun Hh2 Lh2 Bh2 kh2 => ?_)
  rcases rh2 with _ | bh2
  ·
    replace hf := hq_N hf
    refine lv_astore_nN (lv' := [(3, .null), (0, .ref a0), (1, .int a1), (2, .int a2)]) hx hb dX11_peaks_8 rfl hl (by decide) rfl (fun ls hl => hp_n (n := 9) rfl ?_)
    refine lv_aload_nN hx hb dX11_peaks_9 rfl (lv_at hl 0 rfl) (hp_n (n := 10) rfl ?_)
    refine lv_iconst (v := 0) hx hb dX11_peaks_10 (by decide) (hp_n (n := 11) rfl ?_)
    refine lv_iload_n hx hb dX11_peaks_11 rfl (lv_at hl 3 rfl) (hp_n (n := 12) rfl ?_)
    obtain ⟨rh3, qh3, hf⟩ := ms_bE hf
    refine d_pi (pc' := 15) Bh2 (hp_runS (As := [va_rf none, .int (0 : Int32), .int a2]) (rest := []) C Bh2 (n_X11_wrongGrowth n Γ l α Bh2.2.2.1 none (fun b h => by cases h) (0 : Int32) a2 rh3 qh3) lb_X11_wrongGrowth ls_X11_wrongGrowth lk_X11_180 rfl (by decide) rfl hl.1 rfl (Nat.le_of_ble_eq_true rfl) dX11_peaks_12 ⟨Nat.le_refl _, Nat.le_refl _⟩) rfl (fun Hh3 Lh3 Bh3 => ?_)
    refine lv_istore (lv' := [(4, .int rh3), (3, .null), (0, .ref a0), (1, .int a1), (2, .int a2)]) hx hb dX11_peaks_15 hl (by decide) rfl (fun ls hl => hp_n (n := 17) rfl ?_)
    refine lv_iload hx hb dX11_peaks_17 (lv_at hl 0 rfl) (hp_n (n := 19) rfl ?_)
    refine lv_if_eq (tgt := 29) hx hb dX11_peaks_19 (by decide) (fun c4 => ?_) (fun c4 => hp_n (n := 22) rfl ?_)
    ·
      replace hf := ms_iT c4 hf
      refine lv_aload_n hx hb dX11_peaks_29 rfl (lv_at hl 2 rfl) (hp_n (n := 30) rfl ?_)
      refine q_getr (κ := 12) (k := 1) (φ := 601) (pc' := 33) C Bh3 (cw_k Bh3.2.2 k0) fl_X11_16 rfl rfl rfl (cw_r Bh3.2.2 k0 rfl rfl (by decide) (by decide)) dX11_peaks_30 rfl (fun b5 eb5 kb5 => ?_)
      replace hf := ms_lE eb5 hf
      refine lv_aload_nN hx hb dX11_peaks_33 rfl (lv_at hl 1 rfl) (hp_n (n := 34) rfl ?_)
      refine lv_iload_n hx hb dX11_peaks_34 rfl (lv_at hl 4 rfl) (hp_n (n := 35) rfl ?_)
      refine lv_aload_n hx hb dX11_peaks_35 rfl (lv_at hl 2 rfl) (hp_n (n := 36) rfl ?_)
      refine q_getr (κ := 12) (k := 3) (φ := 603) (pc' := 39) C Bh3 (cw_k Bh3.2.2 k0) fl_X11_26 rfl rfl rfl (cw_r Bh3.2.2 k0 rfl rfl (by decide) (by decide)) dX11_peaks_36 rfl (fun b6 eb6 kb6 => ?_)
      replace hf := ms_lE eb6 hf
      obtain ⟨αh7, qh7, hf⟩ := ms_bE hf
      refine d_cv (pc' := 42) Bh3 (hp_runV (As := [va_rf none, .int a2, .ref b6]) (rest := []) C Bh3 (n_X10_peaksOf n Γ l α Bh3.2.2.1 b5 (cw_k Bh3.2.2 kb5) none (fun b h => by cases h) a2 b6 (cw_k Bh3.2.2 kb6) αh7 qh7) lb_X10_peaksOf lv_X10_peaksOf lk_X11_287 (cw_k Bh3.2.2 kb5) rfl (by decide) rfl hl.1 rfl (Nat.le_of_ble_eq_true rfl) dX11_peaks_39 ⟨Nat.le_refl _, Nat.le_refl _⟩) (by decide) rfl (fun Hh7 Lh7 Bh7 => ?_)
      refine lv_aload_n hx hb dX11_peaks_42 rfl (lv_at hl 2 rfl) (hp_n (n := 43) rfl ?_)
      refine lv_aload_n hx hb dX11_peaks_43 rfl (lv_at hl 2 rfl) (hp_n (n := 44) rfl ?_)
      refine q_getr (κ := 12) (k := 3) (φ := 603) (pc' := 47) C Bh7 (cw_k Bh7.2.2 k0) fl_X11_26 rfl rfl rfl (cw_r Bh7.2.2 k0 rfl rfl (by decide) (by decide)) dX11_peaks_44 rfl (fun b8 eb8 kb8 => ?_)
      replace hf := ms_lE eb8 hf
      refine q_geti (κ := 6) (k := 1) (φ := 301) (pc' := 50) C Bh7 (cw_k Bh7.2.2 kb8) fl_X11_132 rfl rfl rfl dX11_peaks_47 rfl (fun x9 ex9 => ?_)
      replace hf := ms_lE ex9 hf
      obtain ⟨rh10, αh10, qh10, hf⟩ := hq_cE hf
      refine d_ci (pc' := 53) Bh7 (hp_runV (As := [.int x9]) (rest := []) C Bh7 (n_X11_answer n Γ l αh7 Bh7.2.2.1 a0 (cw_k Bh7.2.2 k0) x9 (rh10, αh10) qh10) lb_X11_answer lv_X11_answer lk_X11_115 (cw_k Bh7.2.2 k0) rfl (by decide) rfl hl.1 rfl (Nat.le_of_ble_eq_true rfl) dX11_peaks_50 ⟨Nat.le_refl _, Nat.le_refl _⟩) (by decide) rfl (fun Hh10 Lh10 Bh10 => ?_)
      cases hf
      exact q_iret C Bh10 hr hlk ⟨rfl, rfl, Bh10.2.2⟩ dX11_peaks_53
    ·
      replace hf := ms_iF c4 hf
      refine lv_aload_n hx hb dX11_peaks_22 rfl (lv_at hl 2 rfl) (hp_n (n := 23) rfl ?_)
      refine lv_iload hx hb dX11_peaks_23 (lv_at hl 0 rfl) (hp_n (n := 25) rfl ?_)
      obtain ⟨rh11, αh11, qh11, hf⟩ := hq_cE hf
      refine d_ci (pc' := 28) Bh3 (hp_runV (As := [.int rh3]) (rest := []) C Bh3 (n_X11_refuse n Γ l α Bh3.2.2.1 a0 (cw_k Bh3.2.2 k0) rh3 (rh11, αh11) qh11) lb_X11_refuse lv_X11_refuse lk_X11_98 (cw_k Bh3.2.2 k0) rfl (by decide) rfl hl.1 rfl (Nat.le_of_ble_eq_true rfl) dX11_peaks_25 ⟨Nat.le_refl _, Nat.le_refl _⟩) (by decide) rfl (fun Hh11 Lh11 Bh11 => ?_)
      cases hf
      exact q_iret C Bh11 hr hlk ⟨rfl, rfl, Bh11.2.2⟩ dX11_peaks_28
  ·
    replace hf := hq_S hf
    have kbh2 := kh2 bh2 rfl
    refine lv_astore_n (lv' := [(3, .ref bh2), (0, .ref a0), (1, .int a1), (2, .int a2)]) hx hb dX11_peaks_8 rfl hl (by decide) rfl (fun ls hl => hp_n (n := 9) rfl ?_)
    refine lv_aload_n hx hb dX11_peaks_9 rfl (lv_at hl 0 rfl) (hp_n (n := 10) rfl ?_)
    refine lv_iconst (v := 0) hx hb dX11_peaks_10 (by decide) (hp_n (n := 11) rfl ?_)
    refine lv_iload_n hx hb dX11_peaks_11 rfl (lv_at hl 3 rfl) (hp_n (n := 12) rfl ?_)
    obtain ⟨rh12, qh12, hf⟩ := ms_bE hf
    refine d_pi (pc' := 15) Bh2 (hp_runS (As := [va_rf (some bh2), .int (0 : Int32), .int a2]) (rest := []) C Bh2 (n_X11_wrongGrowth n Γ l α Bh2.2.2.1 (some bh2) (fun b h => by cases h; exact (cw_k Bh2.2.2 kbh2)) (0 : Int32) a2 rh12 qh12) lb_X11_wrongGrowth ls_X11_wrongGrowth lk_X11_180 rfl (by decide) rfl hl.1 rfl (Nat.le_of_ble_eq_true rfl) dX11_peaks_12 ⟨Nat.le_refl _, Nat.le_refl _⟩) rfl (fun Hh12 Lh12 Bh12 => ?_)
    refine lv_istore (lv' := [(4, .int rh12), (3, .ref bh2), (0, .ref a0), (1, .int a1), (2, .int a2)]) hx hb dX11_peaks_15 hl (by decide) rfl (fun ls hl => hp_n (n := 17) rfl ?_)
    refine lv_iload hx hb dX11_peaks_17 (lv_at hl 0 rfl) (hp_n (n := 19) rfl ?_)
    refine lv_if_eq (tgt := 29) hx hb dX11_peaks_19 (by decide) (fun c13 => ?_) (fun c13 => hp_n (n := 22) rfl ?_)
    ·
      replace hf := ms_iT c13 hf
      refine lv_aload_n hx hb dX11_peaks_29 rfl (lv_at hl 2 rfl) (hp_n (n := 30) rfl ?_)
      refine q_getr (κ := 12) (k := 1) (φ := 601) (pc' := 33) C Bh12 (cw_k Bh12.2.2 k0) fl_X11_16 rfl rfl rfl (cw_r Bh12.2.2 k0 rfl rfl (by decide) (by decide)) dX11_peaks_30 rfl (fun b14 eb14 kb14 => ?_)
      replace hf := ms_lE eb14 hf
      refine lv_aload_n hx hb dX11_peaks_33 rfl (lv_at hl 1 rfl) (hp_n (n := 34) rfl ?_)
      refine lv_iload_n hx hb dX11_peaks_34 rfl (lv_at hl 4 rfl) (hp_n (n := 35) rfl ?_)
      refine lv_aload_n hx hb dX11_peaks_35 rfl (lv_at hl 2 rfl) (hp_n (n := 36) rfl ?_)
      refine q_getr (κ := 12) (k := 3) (φ := 603) (pc' := 39) C Bh12 (cw_k Bh12.2.2 k0) fl_X11_26 rfl rfl rfl (cw_r Bh12.2.2 k0 rfl rfl (by decide) (by decide)) dX11_peaks_36 rfl (fun b15 eb15 kb15 => ?_)
      replace hf := ms_lE eb15 hf
      obtain ⟨αh16, qh16, hf⟩ := ms_bE hf
      refine d_cv (pc' := 42) Bh12 (hp_runV (As := [va_rf (some bh2), .int a2, .ref b15]) (rest := []) C Bh12 (n_X10_peaksOf n Γ l α Bh12.2.2.1 b14 (cw_k Bh12.2.2 kb14) (some bh2) (fun b h => by cases h; exact (cw_k Bh12.2.2 kbh2)) a2 b15 (cw_k Bh12.2.2 kb15) αh16 qh16) lb_X10_peaksOf lv_X10_peaksOf lk_X11_287 (cw_k Bh12.2.2 kb14) rfl (by decide) rfl hl.1 rfl (Nat.le_of_ble_eq_true rfl) dX11_peaks_39 ⟨Nat.le_refl _, Nat.le_refl _⟩) (by decide) rfl (fun Hh16 Lh16 Bh16 => ?_)
      refine lv_aload_n hx hb dX11_peaks_42 rfl (lv_at hl 2 rfl) (hp_n (n := 43) rfl ?_)
      refine lv_aload_n hx hb dX11_peaks_43 rfl (lv_at hl 2 rfl) (hp_n (n := 44) rfl ?_)
      refine q_getr (κ := 12) (k := 3) (φ := 603) (pc' := 47) C Bh16 (cw_k Bh16.2.2 k0) fl_X11_26 rfl rfl rfl (cw_r Bh16.2.2 k0 rfl rfl (by decide) (by decide)) dX11_peaks_44 rfl (fun b17 eb17 kb17 => ?_)
      replace hf := ms_lE eb17 hf
      refine q_geti (κ := 6) (k := 1) (φ := 301) (pc' := 50) C Bh16 (cw_k Bh16.2.2 kb17) fl_X11_132 rfl rfl rfl dX11_peaks_47 rfl (fun x18 ex18 => ?_)
      replace hf := ms_lE ex18 hf
      obtain ⟨rh19, αh19, qh19, hf⟩ := hq_cE hf
      refine d_ci (pc' := 53) Bh16 (hp_runV (As := [.int x18]) (rest := []) C Bh16 (n_X11_answer n Γ l αh16 Bh16.2.2.1 a0 (cw_k Bh16.2.2 k0) x18 (rh19, αh19) qh19) lb_X11_answer lv_X11_answer lk_X11_115 (cw_k Bh16.2.2 k0) rfl (by decide) rfl hl.1 rfl (Nat.le_of_ble_eq_true rfl) dX11_peaks_50 ⟨Nat.le_refl _, Nat.le_refl _⟩) (by decide) rfl (fun Hh19 Lh19 Bh19 => ?_)
      cases hf
      exact q_iret C Bh19 hr hlk ⟨rfl, rfl, Bh19.2.2⟩ dX11_peaks_53
    ·
      replace hf := ms_iF c13 hf
      refine lv_aload_n hx hb dX11_peaks_22 rfl (lv_at hl 2 rfl) (hp_n (n := 23) rfl ?_)
      refine lv_iload hx hb dX11_peaks_23 (lv_at hl 0 rfl) (hp_n (n := 25) rfl ?_)
      obtain ⟨rh20, αh20, qh20, hf⟩ := hq_cE hf
      refine d_ci (pc' := 28) Bh12 (hp_runV (As := [.int rh12]) (rest := []) C Bh12 (n_X11_refuse n Γ l α Bh12.2.2.1 a0 (cw_k Bh12.2.2 k0) rh12 (rh20, αh20) qh20) lb_X11_refuse lv_X11_refuse lk_X11_98 (cw_k Bh12.2.2 k0) rfl (by decide) rfl hl.1 rfl (Nat.le_of_ble_eq_true rfl) dX11_peaks_25 ⟨Nat.le_refl _, Nat.le_refl _⟩) (by decide) rfl (fun Hh20 Lh20 Bh20 => ?_)
      cases hf
      exact q_iret C Bh20 hr hlk ⟨rfl, rfl, Bh20.2.2⟩ dX11_peaks_28
end JN10_12
section JN10_13
set_option maxRecDepth 100000
/-! ===== head ===== -/
theorem v_noSize (n : Nat) (σ : ms_T) (hC : rC (ms_E σ 40)) (a b : Int32) : pr (f_X12_noSize n σ a b) (fun v => (v = 0 ∧ 0 ≤ b.toInt ∧ (0 ≤ a.toInt ∧ a.toInt < (ms_E σ 40 0).toInt) ∧ b.toInt ≤ (ms_E σ 40 (72 + a.toInt.toNat)).toInt) ∨ (¬ v = 0 ∧ ¬ (0 ≤ b.toInt ∧ (0 ≤ a.toInt ∧ a.toInt < (ms_E σ 40 0).toInt) ∧ b.toInt ≤ (ms_E σ 40 (72 + a.toInt.toNat)).toInt))) := by
  have h4 := hC.1
  unfold f_X12_noSize
  refine pr_le (fun e => pr_bo (pr_w (s_isRecord hC a)) (fun h0 => pr_s (Or.inr ⟨by decide, fun q => h0 q.2.1⟩)) (fun h1 => ?_)) (fun e => pr_s (Or.inr ⟨by decide, fun q => by rw [lt0] at e; omega⟩))
  rw [lt0] at e
  unfold f_X12_sizeOf
  refine pr_b (T := fun v => v = ms_E σ 40 (72 + a.toInt.toNat)) (pr_g (fun g0 g1 => pr_s ?_)) (fun v hv => ?_)
  · rw [cl_n (i := (72 : Int32) + a) (k := 72 + a.toInt.toNat) (by rw [iw_add, t_72]; omega)]
  · rw [hv]
    exact pr_le (fun e2 => pr_s (Or.inl ⟨rfl, e, h1, e2⟩)) (fun e2 => pr_s (Or.inr ⟨by decide, fun q => by omega⟩))
abbrev hdOK (f : Nat → Int32) (a b : Int32) : Prop := 0 ≤ b.toInt ∧ (0 ≤ a.toInt ∧ a.toInt < (f 0).toInt) ∧ b.toInt ≤ (f (72 + a.toInt.toNat)).toInt
theorem pdl_eq {f : Nat → Int32} {l : List Int32} (h2 : (f 2).toInt = (l.length : Int)) (h : ∀ k, k < l.length → some (f (8 + k)) = l[k]?) : pdl f = l := by
  refine List.ext_getElem? (fun k => ?_)
  unfold pdl
  by_cases hk : k < l.length
  · rw [List.getElem?_map, List.getElem?_range (by omega)]
    exact h k hk
  · rw [List.getElem?_eq_none (by rw [List.length_map, List.length_range]; omega), List.getElem?_eq_none (by omega)]
theorem v_pads_L (n L : Nat) (hL : L ≤ 64) (f44 : Nat → Int32) : ∀ (k : Nat) (σ : ms_T) (v : Nat) (vI : Int32), vI.toInt = (v : Int) → v ≤ L → (ms_I σ 657).toInt = (L : Int) → (∀ j, j < L → ms_E σ 44 j = f44 j) → (∀ j, j < v → ms_E σ 40 (8 + j) = f44 j) → pr (f_X12_pads_L7 n k σ vI) (fun res => res.1.toInt = (L : Int) ∧ (ms_E res.2 40 2).toInt = (L : Int) ∧ ∀ j, j < L → ms_E res.2 40 (8 + j) = f44 j) := by
  intro k
  induction k with
  | zero => intro σ v vI _ _ _ _ _; rw [f_X12_pads_L7.eq_1]; exact pr_0
  | succ k ih =>
    intro σ v vI hv hvl h7 h44 hc
    have c2 : ((2 : Int32)).toNatClampNeg = 2 := by decide
    rw [f_X12_pads_L7.eq_2, c2]
    refine pr_le (fun e => pr_g (fun _ _ => pr_l (pr_s ⟨h7, ?_, fun j hj => ?_⟩))) (fun e => pr_g (fun g0 g1 => pr_g (fun _ _ => pr_l (pr_l ?_))))
    · show (ms_E (ms_sE σ 40 2 (ms_I σ 657)) 40 2).toInt = _
      rw [mE_sE, if_pos ⟨rfl, rfl⟩]; exact h7
    · show ms_E (ms_sE σ 40 2 (ms_I σ 657)) 40 (8 + j) = _
      rw [mE_sE, if_neg (fun q => by omega)]
      exact hc j (by omega)
    · have ec : ((8 : Int32) + vI).toNatClampNeg = 8 + v := cl_n (by rw [iw_add, t_8]; omega)
      have e1 : (vI + 1).toInt = ((v + 1 : Nat) : Int) := by rw [iw_add, lt1]; omega
      rw [ec, cl_n hv]
      refine ih _ (v + 1) _ e1 (by omega) h7 (fun j hj => ?_) (fun j hj => ?_)
      · rw [mE_sE, if_neg (fun q => absurd q.1 (by decide))]; exact h44 j hj
      · rw [mE_sE]
        by_cases ej : j = v
        · rw [if_pos ⟨rfl, by omega⟩, ej]; exact h44 v (by omega)
        · rw [if_neg (fun q => by omega)]; exact hc j (by omega)
theorem v_pads (n : Nat) (σ : ms_T) (hC : rC (ms_E σ 40)) (r : Nat) (hr : r < 4) (rI : Int32) (hrI : rI.toInt = (r : Int)) (l : List (Nat × Nat × Bool)) (hW : WS σ l) (hl : l.length ≤ 64) (hin : ∀ q ∈ l, q.1 + q.2.1 ≤ (EL (ms_E σ 40) r).length) : pr (f_X12_pads n σ rI) (fun res => res.1.toInt = (l.length : Int) ∧ pdl (ms_E res.2 40) = mkl (ms_E σ 40 1) (EL (ms_E σ 40) r) l) := by
  unfold f_X12_pads
  refine pr_b (v_fetches n σ hC r hr rI hrI l hW hin) (fun τ hτ => ?_)
  obtain ⟨h1, h2, h3⟩ := hτ
  refine pr_m (v_pads_L n l.length hl (fun j => ms_E τ 44 j) n τ 0 0 rfl (Nat.zero_le _) h2.1 (fun j _ => rfl) (fun j hj => by omega)) (fun res hr => ⟨hr.1, pdl_eq (by rw [mkl_len]; exact hr.2.1) (fun k hk => ?_)⟩)
  rw [mkl_len] at hk
  rw [hr.2.2 k hk]
  exact h1 k (by rw [mkl_len]; exact hk)
/-- what a call that writes the pad may change -/
def pfr (x : Nat) (α β : hp_T) : Prop := hp_R β = hp_R α ∧ hp_K β = hp_K α ∧ hp_Q β = hp_Q α ∧ hp_N β = hp_N α ∧ (∀ φ b, ¬ (φ = 301 ∧ b = x + 919) → φ ≠ 453 → φ ≠ 454 → φ ≠ 600 → hp_I β φ b = hp_I α φ b) ∧ ∀ κ b j, ¬ (κ = 20 ∧ b = x + 920) → κ ≠ 21 → κ ≠ 22 → κ ≠ 23 → κ ≠ 33 → hp_E β κ b j = hp_E α κ b j
theorem pfr_tr {x : Nat} {α β γ : hp_T} (h : pfr x α β) (g : pfr x β γ) : pfr x α γ := by
  obtain ⟨h1, h2, h3, h4, h5, h6⟩ := h
  obtain ⟨g1, g2, g3, g4, g5, g6⟩ := g
  exact ⟨g1.trans h1, g2.trans h2, g3.trans h3, g4.trans h4, fun φ b q1 q2 q3 q4 => (g5 φ b q1 q2 q3 q4).trans (h5 φ b q1 q2 q3 q4), fun κ b j q1 q2 q3 q4 q5 => (g6 κ b j q1 q2 q3 q4 q5).trans (h6 κ b j q1 q2 q3 q4 q5)⟩
theorem pfr_qf {x w : Nat} {α β : hp_T} (h : qf w (x + 919) α β) (h3 : hp_R α 300 (x + 919) = x + 920) : pfr x α β := by
  obtain ⟨h1, h2, h3', h4, h5, h6⟩ := h
  exact ⟨h1, h2, h3', h4, fun φ b q1 _ _ _ => h5 φ b (fun z => q1 ⟨z.2, z.1⟩), fun κ b j q1 _ _ _ q5 => h6 κ b j (fun z => q5 z.1) (fun z => q1 ⟨z.1, by rw [z.2, h3]⟩)⟩
theorem pfr_st {x a : Nat} {α : hp_T} {v : Int32} : pfr x α (hp_sI α 600 a v) := ⟨rfl, rfl, rfl, rfl, fun φ b _ _ _ q4 => by rw [hI_sI, if_neg (fun z => q4 z.1)], fun _ _ _ _ _ _ _ _ => rfl⟩
/-! peaks -/
def pkL (f : Nat → Int32) (a m : Int32) : List Int32 := mkl (f 1) (EL f a.toInt.toNat) (pks 6 m.toInt.toNat 0)
def pkA (f : Nat → Int32) (a m : Int32) : Int := if hdOK f a m then ((pks 6 m.toInt.toNat 0).length : Int) else -1
theorem v_peaks (n : Nat) (σ : ms_T) (hC : rC (ms_E σ 40)) (a m : Int32) : pr (f_X12_peaks n σ a m) (fun res => res.1.toInt = pkA (ms_E σ 40) a m ∧ pdl (ms_E res.2 40) = if hdOK (ms_E σ 40) a m then pkL (ms_E σ 40) a m else pdl (ms_E σ 40)) := by
  have h4 := hC.1
  unfold f_X12_peaks pkA
  refine pr_b (v_noSize n σ hC a m) (fun v hv => ?_)
  rcases hv with ⟨rfl, ok⟩ | ⟨hv, no⟩
  · have ok : hdOK (ms_E σ 40) a m := ok
    rw [if_pos ok, if_pos ok]
    have hsz := hC.2.2.2.2.1 a.toInt.toNat (by omega)
    refine v_is0 n σ ?_
    obtain ⟨τ0, hτ0⟩ : ∃ τ, τ = ms_sI (ms_sI σ 653 0) 652 0 := ⟨_, rfl⟩
    have e0 : ms_E τ0 40 = ms_E σ 40 := by rw [hτ0]; rfl
    rw [← hτ0]
    refine pr_b (v_peaksOf n τ0 m.toInt.toNat (by omega) m (by omega)) (fun τ hτ => ?_)
    obtain ⟨hW, hk⟩ := hτ
    have e1 : ms_E τ 40 = ms_E σ 40 := by rw [show ms_E τ 40 = ms_E τ0 40 from funext (fun j => hk.2 40 (by decide) j), e0]
    refine pr_c (v_pads n τ (by rw [e1]; exact hC) a.toInt.toNat (by omega) a (by omega) _ hW (Nat.le_trans (pks_len _ _ _) (by decide)) (fun q hq => ?_)) (fun r υ hr => pr_s ⟨hr.1, ?_⟩)
    · have := pks_in m.toInt.toNat (by omega) q hq
      rw [e1, EL_len]; omega
    · have h2 := hr.2
      rw [e1] at h2
      exact h2
  · have no : ¬ hdOK (ms_E σ 40) a m := no
    rw [if_neg no, if_neg no]
    exact v_is1 n σ v hv (pr_s ⟨rfl, rfl⟩)
theorem k_peaks (n : Nat) (hn : 70000 ≤ n) (α : hp_T) (x : Nat) (f : Nat → Int32) (hC : rC f) (h : RWX α x f) (h6 : hp_R α 603 x = x + 919) (h3 : hp_R α 300 (x + 919) = x + 920) (pl : List Int32) (hP : RWL α (x + 919) pl) (a m : Int32) : ws (f_X11_peaks n α x a m) (fun res => res.1.toInt = pkA f a m ∧ RWL res.2 (x + 919) (if hdOK f a m then pkL f a m else pl) ∧ pfr x α res.2) := by
  obtain ⟨w, u, h1, h2, -, h4, -⟩ := h
  have hm0 := hC.2.1
  have h44 := hC.1
  have bad : ∀ v : Int32, ¬ hdOK f a m → ws (hq_c (f_X11_refuse n α x v) fun r β => some (r, β)) (fun res => res.1.toInt = pkA f a m ∧ RWL res.2 (x + 919) (if hdOK f a m then pkL f a m else pl) ∧ pfr x α res.2) := fun v hno => by
    unfold pkA
    rw [if_neg hno, if_neg hno]
    refine ws_hc (k_refuse n α x v) (fun z γ hz => ws_s ⟨by rw [show z = -1 from hz.1]; rfl, ?_, ?_⟩)
    · rw [show γ = hp_sI α 600 x v from hz.2]; exact RWL_st hP
    · rw [show γ = hp_sI α 600 x v from hz.2]; exact pfr_st
  unfold f_X11_peaks f_X11_wrongGrowth
  refine ws_l ?_
  rw [h1]
  refine ws_b (k_logAt n h4 hC a) (fun o ho => ?_)
  by_cases hr : 0 ≤ a.toInt ∧ a.toInt < (f 0).toInt
  · rw [if_pos hr] at ho
    subst ho
    have q152 := (h4.2.2.1 a.toInt.toNat (by omega)).1
    have hsz := hC.2.2.2.2.1 a.toInt.toNat (by omega)
    refine ws_hS ?_
    refine ws_b (S := fun v => (v = 0 ∧ hdOK f a m) ∨ (¬ v = 0 ∧ ¬ hdOK f a m)) (ws_hS (ws_lt (fun e => absurd e (by decide)) (fun _ => ws_le (fun e => ws_l ?_) (fun e => ws_s (Or.inr ⟨by decide, fun q => by rw [lt0] at e; have := q.1; omega⟩))))) (fun v hv => ?_)
    · rw [lt0] at e
      rw [q152]
      exact ws_le (fun e2 => ws_s (Or.inl ⟨rfl, e, hr, e2⟩)) (fun e2 => ws_s (Or.inr ⟨by decide, fun q => by have := q.2.2; omega⟩))
    · rcases hv with ⟨rfl, ok⟩ | ⟨hv, no⟩
      · refine ws_i (fun _ => ws_l (ws_l ?_)) (fun q => absurd rfl q)
        have ok1 := ok.1
        have ok3 := ok.2.2
        rw [h6]
        refine ws_b (k_peaksOf n hn w (x + 919) α (f 1) (by omega) h4.2.1.1 (lpA w a.toInt.toNat) (EL f a.toInt.toNat) (WR_LM h4 hC (by omega)) m.toInt.toNat (by rw [EL_len]; omega) m (by omega) pl hP) (fun γ hγ => ws_l (ws_l ?_))
        obtain ⟨hR, hq⟩ := hγ
        have e6 : hp_R γ 603 x = x + 919 := by rw [hq.1]; exact h6
        rw [e6]
        refine ws_hc (k_answer n γ x _) (fun z δ hz => ws_s ⟨?_, ?_, ?_⟩)
        · unfold pkA
          rw [if_pos ok, show z = hp_I γ 301 (x + 919) from hz.1, hR.2.1, mkl_len]
        · rw [if_pos ok, show δ = hp_sI γ 600 x 0 from hz.2]; exact RWL_st hR
        · rw [show δ = hp_sI γ 600 x 0 from hz.2]
          exact pfr_tr (pfr_qf hq h3) pfr_st
      · exact ws_i (fun q => absurd q hv) (fun _ => bad v no)
  · rw [if_neg hr] at ho
    subst ho
    refine ws_hN ?_
    refine ws_b (S := fun v => ¬ v = 0) (ws_hN (ws_lt (fun e => absurd e (by decide)) (fun _ => ws_le (fun e => ws_s (by decide)) (fun e => ws_s (by decide))))) (fun v hv => ?_)
    exact ws_i (fun q => absurd q hv) (fun _ => bad v (fun q => hr q.2.1))
end JN10_13
