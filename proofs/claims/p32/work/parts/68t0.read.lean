set_option maxRecDepth 100000
/-! ===== lines of a text, side by side ===== -/
/-- only a reader's own cells change -/
def rfr (rd : Nat) (α β : hp_T) : Prop := hp_R β = hp_R α ∧ hp_K β = hp_K α ∧ hp_Q β = hp_Q α ∧ hp_N β = hp_N α ∧ (∀ φ b, b < rd ∨ rd + 11 ≤ b → hp_I β φ b = hp_I α φ b) ∧ ∀ κ b j, b < rd ∨ rd + 11 ≤ b → hp_E β κ b j = hp_E α κ b j
def RS (α : hp_T) (rd : Nat) : Prop := hp_R α 200 rd = rd + 1 ∧ hp_R α 207 rd = rd + 9 ∧ hp_R α 500 (rd + 9) = rd + 10
theorem rfr_tr {rd : Nat} {α β γ : hp_T} (h : rfr rd α β) (g : rfr rd β γ) : rfr rd α γ := by
  obtain ⟨h1, h2, h3, h4, h5, h6⟩ := h
  obtain ⟨g1, g2, g3, g4, g5, g6⟩ := g
  exact ⟨g1.trans h1, g2.trans h2, g3.trans h3, g4.trans h4, fun φ b q => (g5 φ b q).trans (h5 φ b q), fun κ b j q => (g6 κ b j q).trans (h6 κ b j q)⟩
theorem rfr_rdf {rd : Nat} {α β : hp_T} (h : rdf rd (rd + 1) α β) : rfr rd α β := by
  obtain ⟨h1, h2, h3, h4, h5, h6⟩ := h
  exact ⟨h1, h2, h3, h4, fun φ b q => h6 φ b (by omega) (by omega), fun κ b j _ => by rw [h5]⟩
theorem rfr_df {rd : Nat} {α β : hp_T} (hS : RS α rd) (h : df (rd + 9) α β) : rfr rd α β := by
  obtain ⟨h1, h2, h3, h4, h5, h6⟩ := h
  exact ⟨h1, h2, h3, h4, fun φ b q => h5 φ b (by omega), fun κ b j q => h6 κ b j (by rw [hS.2.2]; omega)⟩
theorem rfr_sI {rd φ : Nat} {α : hp_T} {v : Int32} : rfr rd α (hp_sI α φ rd v) :=
  ⟨rfl, rfl, rfl, rfl, fun ψ b q => by rw [hI_sI, if_neg (fun (e : ψ = φ ∧ b = rd) => by omega)], fun _ _ _ _ => rfl⟩
theorem RS_R {rd : Nat} {α β : hp_T} (h : RS α rd) (e : hp_R β = hp_R α) : RS β rd := by unfold RS; rw [e]; exact h
theorem WR_rfr {α β : hp_T} {w rd : Nat} {f : Nat → Int32} (h : WR α w f) (hC : rC f) (hw : w + 459 ≤ rd) (g : rfr rd α β) : WR β w f :=
  WR_f h hC g.1 g.2.2.1 (fun φ b _ q _ => g.2.2.2.2.1 φ b (by omega)) (fun κ b j _ q _ => g.2.2.2.2.2 κ b j (by omega))
theorem SB_df {α β : hp_T} {sc wd N : Nat} {t : Nat → Int32} (h : SB α sc t N) (g : df wd α β) : SB β sc t N := by
  obtain ⟨h1, h2, h3, h4⟩ := h
  obtain ⟨g1, g2, g3, g4, g5, g6⟩ := g
  exact ⟨h1, by rw [g5 351 sc (fun e => absurd e.2 (by decide))]; exact h2, by rw [g1, g2]; exact h3, fun j hj => by rw [g1, g6 24 _ j (fun e => absurd e.1 (by decide))]; exact h4 j hj⟩
theorem SCT_df {α β : hp_T} {sc wd N q : Nat} {t : Nat → Int32} (h : SCT α sc t N q) (g : df wd α β) : SCT β sc t N q := by
  obtain ⟨h1, h2, h3, h4, h5⟩ := h
  obtain ⟨-, -, -, -, g5, -⟩ := g
  have e : ∀ φ, φ ≠ 501 → hp_I β φ sc = hp_I α φ sc := fun φ hφ => g5 φ sc (fun e => hφ e.2)
  exact ⟨by rw [e 354 (by decide)]; exact h1, by rw [e 353 (by decide)]; exact h2, by rw [e 352 (by decide)]; exact h3, by rw [e 355 (by decide)]; exact h4, fun q => by rw [e 356 (by decide)]; exact h5 q⟩
theorem TOK_df {α β : hp_T} {rd wd N q : Nat} {σ : ms_T} {t : Nat → Int32} (h : TOK α rd σ t N q) (g : df wd α β) : TOK β rd σ t N q := by
  obtain ⟨h1, h2, h3, h4⟩ := h
  have e : hp_R β = hp_R α := g.1
  exact ⟨h1, by rw [e]; exact SB_df h2 g, by rw [e]; exact SCT_df h3 g, h4⟩
theorem PRE_df {α β : hp_T} {rd wd N p : Nat} {σ : ms_T} {t : Nat → Int32} (h : PRE α rd σ t N p) (g : df wd α β) : PRE β rd σ t N p := by
  obtain ⟨h1, h2, h3, h4⟩ := h
  have e : hp_R β = hp_R α := g.1
  exact ⟨h1, by rw [e]; exact SB_df h2 g, by rw [e, g.2.2.2.2.1 352 _ (fun e => absurd e.2 (by decide))]; exact h3, h4⟩
/-- setting a reader's own field leaves the token -/
theorem TOK_sI {α : hp_T} {rd φ N q : Nat} {σ : ms_T} {t : Nat → Int32} {v : Int32} (hφ : φ < 350) (h : TOK α rd σ t N q) : TOK (hp_sI α φ rd v) rd σ t N q := by
  obtain ⟨h1, h2, h3, h4⟩ := h
  have e : ∀ ψ b, 350 ≤ ψ → hp_I (hp_sI α φ rd v) ψ b = hp_I α ψ b := fun ψ b hψ => by rw [hI_sI, if_neg (fun (e : ψ = φ ∧ b = rd) => by omega)]
  refine ⟨h1, ⟨h2.1, by rw [e 351 _ (by decide)]; exact h2.2.1, h2.2.2⟩, ?_, h4⟩
  obtain ⟨k1, k2, k3, k4, k5⟩ := h3
  exact ⟨by rw [e 354 _ (by decide)]; exact k1, by rw [e 353 _ (by decide)]; exact k2, by rw [e 352 _ (by decide)]; exact k3, by rw [e 355 _ (by decide)]; exact k4, fun q => by rw [e 356 _ (by decide)]; exact k5 q⟩
theorem PRE_sI {α : hp_T} {rd φ N p : Nat} {σ : ms_T} {t : Nat → Int32} {v : Int32} (hφ : φ < 350) (h : PRE α rd σ t N p) : PRE (hp_sI α φ rd v) rd σ t N p := by
  obtain ⟨h1, h2, h3, h4⟩ := h
  have e : ∀ ψ b, 350 ≤ ψ → hp_I (hp_sI α φ rd v) ψ b = hp_I α ψ b := fun ψ b hψ => by rw [hI_sI, if_neg (fun (e : ψ = φ ∧ b = rd) => by omega)]
  exact ⟨h1, ⟨h2.1, by rw [e 351 _ (by decide)]; exact h2.2.1, h2.2.2⟩, by rw [e 352 _ (by decide)]; exact h3, h4⟩
/-- another world of the reference with the same text and token -/
theorem PRE_m {α : hp_T} {rd N p : Nat} {σ τ : ms_T} {t : Nat → Int32} (h : PRE α rd σ t N p) (hI : ∀ φ, 670 ≤ φ → φ ≤ 676 → ms_I τ φ = ms_I σ φ) (h47 : ∀ j, ms_E τ 47 j = ms_E σ 47 j) (hJ : ms_J τ = ms_J σ) : PRE α rd τ t N p := by
  obtain ⟨h1, h2, h3, h4, h5, h6⟩ := h
  refine ⟨h1, h2, h3, ⟨h4.1, by rw [hI 676 (by decide) (by decide)]; exact h4.2.1, fun j hj => by rw [h47]; exact h4.2.2 j hj⟩, ?_, by rw [hI 670 (by decide) (by decide)]; exact h6⟩
  obtain ⟨k1, k2, k3, k4, k5⟩ := h5
  exact ⟨by rw [hI 672 (by decide) (by decide)]; exact k1, by rw [hI 674 (by decide) (by decide)]; exact k2, by rw [hI 673 (by decide) (by decide)]; exact k3, fun q => by rw [hI 675 (by decide) (by decide)]; exact k4 q, fun q => by rw [hJ]; exact k5 q⟩
theorem PRE_fr {α : hp_T} {rd N p : Nat} {σ τ : ms_T} {t : Nat → Int32} {wI wE : List Nat} (h : PRE α rd σ t N p) (hf : fr wI wE σ τ) (h1 : ∀ φ ∈ wI, ¬ (670 ≤ φ ∧ φ ≤ 676)) (h2 : 47 ∉ wE) (hJ : ms_J τ = ms_J σ) : PRE α rd τ t N p :=
  PRE_m h (fun φ a b => hf.1 φ (fun q => h1 φ q ⟨a, b⟩)) (fun j => hf.2 47 h2 j) hJ
/-- a word's letters, off the text -/
def lw (t : Nat → Int32) (q m : Nat) : List Int32 := (List.range m).map (fun k => t (q + k) - 96)
theorem lw_len (t : Nat → Int32) (q m : Nat) : (lw t q m).length = m := by unfold lw; simp
theorem lw_s (t : Nat → Int32) (q m : Nat) : lw t q (m + 1) = lw t q m ++ [t (q + m) - 96] := by
  unfold lw; rw [List.range_succ, List.map_append]; rfl
theorem lw_get (t : Nat → Int32) (q m k : Nat) (h : k < m) : (lw t q m)[k]? = some (t (q + k) - 96) := by
  unfold lw; simp [h]
theorem k_copyWord_L (n : Nat) {sc wd N q m : Nat} {t : Nat → Int32} (hm : m ≤ 8) (hqm : q + m ≤ N) (hL : ∀ j, j < m → isL (t (q + j)) = true) (α : hp_T) : ∀ (d k : Nat) (kI : Int32) (β : hp_T), SB β sc t N → (hp_I β 354 sc).toInt = (q : Int) → (hp_I β 355 sc).toInt = (m : Int) → df wd α β → WD β wd (lw t q k) → kI.toInt = (k : Int) → k ≤ m → 9 - k ≤ d → ws (f_X6_copyWord_L6 n sc d β wd kI) (fun γ => WD γ wd (lw t q m) ∧ df wd α γ) := by
  intro d
  induction d with
  | zero => intro k kI β _ _ _ _ _ _ hk hd; omega
  | succ d ih =>
    intro k kI β hB h1 h2 hf hw hk hkm hd
    have hN := hB.1
    unfold f_X6_copyWord_L6
    refine ws_l (ws_le (fun e => ?_) (fun e => ?_))
    · have : k = m := by omega
      subst this
      exact ws_s ⟨hw, hf⟩
    · refine ws_le (fun e2 => by have := t_8; omega) (fun e2 => ws_l ?_)
      have e0 : (hp_I β 354 sc + kI).toInt = ((q + k : Nat) : Int) := by rw [ii_add (by omega) (by omega), h1, hk]; omega
      refine ws_b (k_byteAt n hB (q + k) _ e0) (fun r hr => ?_)
      rw [if_pos (by omega)] at hr
      subst hr
      have hl := isL_26 (hL k (by omega))
      have t97 : (97 : Int32).toInt = 97 := by decide
      have t96 : (96 : Int32).toInt = 96 := by decide
      have ev : t (q + k) - 97 + 1 = t (q + k) - 96 := Int32.toInt_inj.mp (by
        rw [ii_add (by rw [ii_sub (by omega) (by omega), lt1]; omega) (by rw [ii_sub (by omega) (by omega), lt1]; omega), ii_sub (by omega) (by omega), ii_sub (by omega) (by omega), lt1]; omega)
      rw [ev]
      have h96 : (t (q + k) - 96).toInt = (t (q + k)).toInt - 96 := by rw [ii_sub (by omega) (by omega), t96]
      refine ws_b (k_wput n hw (by rw [lw_len]; omega) _ (by omega) (by omega)) (fun γ hγ => ws_l ?_)
      have hi : ∀ φ, φ ≠ 501 → hp_I γ φ sc = hp_I β φ sc := fun φ hφ => hγ.2.2.2.2.2.1 φ sc (fun e => hφ e.2)
      exact ih (k + 1) _ γ (SB_df hB hγ.2) (by rw [hi 354 (by decide)]; exact h1) (by rw [hi 355 (by decide)]; exact h2) (df_tr hf hγ.2) (by rw [lw_s]; exact hγ.1) (by rw [ii_add (by rw [lt1]; omega) (by rw [lt1]; omega), lt1, hk]; omega) (by omega) (by omega)
theorem k_copyWord (n : Nat) (hn : 70000 ≤ n) {α : hp_T} {sc wd N q m : Nat} {t : Nat → Int32} (hB : SB α sc t N) (h1 : (hp_I α 354 sc).toInt = (q : Int)) (h2 : (hp_I α 355 sc).toInt = (m : Int)) (hm : m ≤ 8) (hqm : q + m ≤ N) (hL : ∀ j, j < m → isL (t (q + j)) = true) : ws (f_X6_copyWord n α sc wd) (fun γ => WD γ wd (lw t q m) ∧ df wd α γ) := by
  unfold f_X6_copyWord
  refine ws_b (k_wclear n α wd) (fun β hβ => ?_)
  have hi : ∀ φ, φ ≠ 501 → hp_I β φ sc = hp_I α φ sc := fun φ hφ => hβ.2.2.2.2.2.1 φ sc (fun e => hφ e.2)
  exact k_copyWord_L n hm hqm hL α n 0 0 β (SB_df hB hβ.2) (by rw [hi 354 (by decide)]; exact h1) (by rw [hi 355 (by decide)]; exact h2) hβ.2 hβ.1 (by decide) (by omega) (by omega)
theorem v_addLine_L (n : Nat) {N q m : Nat} {t : Nat → Int32} (hm : m ≤ 8) (hqm : q + m ≤ N) (P : ms_T → Prop) (σ0 : ms_T) (hP : ∀ τ, HWD τ (lw t q m) → fr [] [46] σ0 τ → ms_J τ = ms_J σ0 → pr (ms_b (f_X12_reads n τ) fun σ => f_X12_addLine_J134 n σ) P) : ∀ (d k : Nat) (kI : Int32) (σ : ms_T), RB σ t N → (ms_I σ 672).toInt = (q : Int) → (ms_I σ 665).toInt = (m : Int) → (∀ j, j < k → ms_E σ 46 j = t (q + j) - 96) → fr [] [46] σ0 σ → ms_J σ = ms_J σ0 → kI.toInt = (k : Int) → k ≤ m → pr (f_X12_addLine_L96 n d σ kI) P := by
  intro d
  induction d with
  | zero => intros; exact pr_0
  | succ d ih =>
    intro k kI σ hB h1 h2 h3 hf hJ hk hkm
    have hN := hB.1
    unfold f_X12_addLine_L96
    refine pr_le (fun e => ?_) (fun e => ?_)
    · have : k = m := by omega
      subst this
      exact hP σ ⟨by rw [lw_len]; exact hm, by rw [lw_len]; exact h2, fun j hj => by rw [lw_len] at hj; rw [lw_get _ _ _ _ hj, h3 j hj]⟩ hf hJ
    · refine pr_g (fun _ _ => pr_g (fun _ _ => pr_l (pr_l ?_)))
      have e0 : (ms_I σ 672 + kI).toInt = ((q + k : Nat) : Int) := by rw [ii_add (by omega) (by omega), h1, hk]; omega
      have e1 : (ms_I σ 672 + kI).toNatClampNeg = q + k := by show (ms_I σ 672 + kI).toInt.toNat = _; rw [e0]; omega
      have e2 : kI.toNatClampNeg = k := by show kI.toInt.toNat = _; rw [hk]; omega
      rw [e1, e2, hB.2.2 (q + k) (by omega)]
      refine ih (k + 1) _ _ ⟨hB.1, hB.2.1, fun j hj => by rw [mE_sE, if_neg (fun e => absurd e.1 (by decide))]; exact hB.2.2 j hj⟩ h1 h2 ?_ (fr_tr hf (fr_sE (by decide))) hJ (by rw [ii_add (by rw [lt1]; omega) (by rw [lt1]; omega), lt1, hk]; omega) (by omega)
      intro j hj
      rw [mE_sE]
      by_cases ej : j = k
      · rw [if_pos ⟨rfl, ej⟩, ej]
      · rw [if_neg (fun e => ej e.2)]; exact h3 j (by omega)
/-! ===== a line, side by side ===== -/
theorem r_end81 (n : Nat) {α : hp_T} {rd : Nat} {σ : ms_T} {t : Nat → Int32} {N q : Nat} (hT : TOK α rd σ t N q) (hR : hp_R α 200 rd = rd + 1) : ws (f_X3_readAdd_J81 n rd α) (fun a => pr (f_X12_takesEnd n σ) (fun τ => rdf rd (rd + 1) α a.2 ∧ rg σ τ ∧ ((a.1 = 1 ∧ (∃ p', q < p' ∧ PRE a.2 rd τ t N p') ∧ a.2 = α) ∨ (a.1 = 0 ∧ BAD a.2 rd τ)))) := by
  unfold f_X3_readAdd_J81 f_X3_readAdd_J99
  obtain ⟨q1, q2, q3, q4, q5, q6⟩ := id hT
  unfold f_X12_takesEnd f_X12_takesEnd_J14
  refine ws_l (ws_l (ws_i (fun e => ?_) (fun e => ?_)))
  · have hs := q3.2.1.symm.trans e
    rw [if_pos (q5.2.1.trans hs)]
    exact ws_s (r_must n hT 1 (Or.inr rfl) (fun _ => q_lt hs (by decide)) (R := ms_T) _ (fun _ τ t1 t2 => ⟨rdf_rf, t2, Or.inl ⟨rfl, ⟨_, by have := (tkN_le t (q_lt hs (by decide))).1; omega, t1⟩, rfl⟩⟩) (fun h => absurd h (by decide)))
  · rw [if_neg (fun h => e (q3.2.1.trans (q5.2.1.symm.trans h)))]
    refine ws_hc (k_stray n q3) (fun r γ hr => ws_i (fun _ => ws_s ?_) (fun e => absurd hr.1 e))
    obtain ⟨g1, g2, g3, g4⟩ := hr
    refine r_must n hT 0 (Or.inl rfl) (fun h => absurd h (by decide)) (R := ms_T) _ (fun h => absurd h (by decide)) (fun _ τ t1 t2 t3 t4 => ⟨by rw [hR] at g4; exact g4, t4, Or.inr ⟨rfl, t1, by rw [g2, t2], ?_⟩⟩)
    exact Int32.toInt_inj.mp (by rw [g3, t3])
/-- room, or the fault 6 at the token -/
theorem r_room (n : Nat) {α : hp_T} {rd : Nat} {σ : ms_T} {t : Nat → Int32} {N q : Nat} (hT : TOK α rd σ t N q) (hR : hp_R α 200 rd = rd + 1) (c m : Int32) : ws (f_X3_hasRoom n α rd c m) (fun a => (c.toInt < m.toInt → a.1 = 1 ∧ a.2 = α) ∧ (m.toInt ≤ c.toInt → a.1 = 0 ∧ rdf rd (rd + 1) α a.2 ∧ ∀ τ, ms_I τ 670 = 6 → ms_I τ 671 = ms_I σ 672 → BAD a.2 rd τ)) := by
  unfold f_X3_hasRoom f_X3_hasRoom_J14
  obtain ⟨q1, q2, q3, q4, q5, q6⟩ := id hT
  refine ws_lt (fun e => ws_s ⟨fun _ => ⟨rfl, rfl⟩, fun h => by omega⟩) (fun e => ?_)
  refine ws_hc (k_fail n α rd 6) (fun r γ hr => ws_i (fun _ => ws_s ⟨fun h => by omega, fun _ => ⟨rfl, by rw [hR] at hr; exact hr.2.2.2, fun τ h1 h2 => ⟨by rw [h1]; decide, by rw [h1]; exact hr.2.1, ?_⟩⟩⟩) (fun e => absurd hr.1 e))
  rw [hr.2.2.1, h2]
  exact Int32.toInt_inj.mp (by rw [q3.1, q5.1])
/-- the reference's fault of a kind other than 2 -/
theorem v_mustk (n : Nat) {σ : ms_T} (h0 : ms_I σ 670 = 0) (w : Int32) (hw : w ≠ 2) : pr (f_X12_must n σ 0 w) (fun τ => ms_I τ 670 = w ∧ ms_I τ 671 = ms_I σ 672 ∧ rg σ τ) :=
  pr_m (v_must0 n h0 w) (fun τ h => ⟨by rw [h.1, if_neg (fun e => hw e.1)], h.2.1, rg_m h.2.2⟩)
def LNK (α : hp_T) (rd w r : Nat) (f : Nat → Int32) (σ τ : ms_T) : Prop :=
  (hp_I α 206 rd = 0 ∧ (f (72 + r)).toInt < 48 ∧ (∃ l, WD α (rd + 9) l ∧ adF f r (f (72 + r)).toInt.toNat l (ms_E τ 40)) ∧ ms_I τ 679 = ms_I σ 679)
  ∨ (hp_I α 206 rd = 1 ∧ 0 ≤ (hp_I α 209 rd).toInt ∧ (hp_I α 209 rd).toInt < (f 0).toInt ∧ ms_E τ 40 = f ∧ ms_I τ 679 = hp_I α 209 rd)
  ∨ (hp_I α 206 rd = 2 ∧ (f 0).toInt < 4 ∧ 0 ≤ (hp_I α 209 rd).toInt ∧ (hp_I α 209 rd).toInt ≤ (f (72 + r)).toInt ∧ foF f r (f 0).toInt.toNat (hp_I α 209 rd).toInt.toNat (ms_E τ 40) ∧ ms_I τ 679 = f 0)
  ∨ (hp_I α 206 rd = 3 ∧ (f 3).toInt < 16 ∧ frF f r (f 3).toInt.toNat (ms_E τ 40) ∧ ms_I τ 679 = ms_I σ 679)
  ∨ (hp_I α 206 rd = 4 ∧ 0 ≤ (hp_I α 208 rd).toInt ∧ (hp_I α 208 rd).toInt ≤ 3 ∧ 0 ≤ (hp_I α 209 rd).toInt ∧ (hp_I α 209 rd).toInt ≤ (f (72 + r)).toInt ∧ shF f (hp_I α 208 rd).toInt.toNat r (hp_I α 209 rd).toInt.toNat (ms_E τ 40) ∧ ms_I τ 679 = ms_I σ 679)
def KF (rd : Nat) (α β : hp_T) : Prop := hp_I β 204 rd = hp_I α 204 rd ∧ hp_I β 205 rd = hp_I α 205 rd
theorem KF_tr {rd : Nat} {α β γ : hp_T} (h : KF rd α β) (g : KF rd β γ) : KF rd α γ := ⟨g.1.trans h.1, g.2.trans h.2⟩
theorem KF_k {rd : Nat} {α β : hp_T} (h : ∀ φ, φ < 350 → hp_I β φ rd = hp_I α φ rd) : KF rd α β := ⟨h 204 (by decide), h 205 (by decide)⟩
theorem KF_n {rd : Nat} {α β : hp_T} (h : ∀ φ, φ < 350 → φ ≠ 209 → hp_I β φ rd = hp_I α φ rd) : KF rd α β := ⟨h 204 (by decide) (by decide), h 205 (by decide) (by decide)⟩
theorem KF_s {rd φ : Nat} {α : hp_T} {v : Int32} (h : 205 < φ) : KF rd α (hp_sI α φ rd v) := ⟨by rw [hI_sI, if_neg (fun e => by omega)], by rw [hI_sI, if_neg (fun e => by omega)]⟩
def LNR (α : hp_T) (rd w r : Nat) (f : Nat → Int32) (σ τ : ms_T) (t : Nat → Int32) (N q : Nat) (a : Int32 × hp_T) : Prop := rfr rd α a.2 ∧ ((a.1 = 0 ∧ BAD a.2 rd τ) ∨ (a.1 = 1 ∧ (∃ q', q < q' ∧ TOK a.2 rd τ t N q') ∧ LNK a.2 rd w r f σ τ ∧ KF rd α a.2))
/-- behind a line: on to the next token -/
theorem r_fin (n : Nat) (hn : 70000 ≤ n) {α β : hp_T} {rd w r : Nat} {f : Nat → Int32} {σ τ : ms_T} {t : Nat → Int32} {N q p : Nat} (hS : RS α rd) (hf : rfr rd α β) (hp : q < p) (hP : PRE β rd τ t N p) (hKF : KF rd α β) (hK : ∀ γ, rdf rd (rd + 1) β γ → (∀ φ, φ < 350 → hp_I γ φ rd = hp_I β φ rd) → LNK γ rd w r f σ τ) : ws (f_X3_readLine_J197 n rd β 1) (LNR α rd w r f σ τ t N q) := by
  unfold f_X3_readLine_J197
  have eR : hp_R β 200 rd = rd + 1 := by rw [hf.1]; exact hS.1
  refine ws_i (fun e => absurd e (by decide)) (fun _ => ws_l (ws_b (ws_m (k_advance n hn hP.2.1 hP.1 hP.2.2.1) (fun γ h => h)) (fun γ hγ => ws_z (Or.inr rfl) (ws_s ?_))))
  obtain ⟨h1, h2, h3, h4, h5, h6⟩ := hP
  have hg : rdf rd (rd + 1) β γ := by have := rdf_sf (rd := rd) hγ.2; rw [eR] at this; exact this
  refine ⟨rfr_tr hf (rfr_rdf hg), Or.inr ⟨rfl, ⟨_, ?_, tkP_le t h1, ?_, ?_, h4, h5, h6⟩, hK γ hg (fun φ hφ => hγ.2.2.2.2.2.2 φ rd (by omega)), KF_tr hKF (KF_k (fun φ hφ => hγ.2.2.2.2.2.2 φ rd (by omega)))⟩⟩
  · have := (ru_le isB t (N - p) p).1
    unfold tkP
    omega
  · rw [hγ.2.1]; exact SB_sf h2 hγ.2
  · rw [hγ.2.1]; exact hγ.1
theorem r_bad (n : Nat) {α β : hp_T} {rd w r : Nat} {f : Nat → Int32} {σ τ : ms_T} {t : Nat → Int32} {N q : Nat} (hf : rfr rd α β) (hB : BAD β rd τ) : ws (f_X3_readLine_J197 n rd β 0) (LNR α rd w r f σ τ t N q) := by
  unfold f_X3_readLine_J197
  exact ws_i (fun _ => ws_z (Or.inl rfl) (ws_s ⟨hf, Or.inl ⟨rfl, hB⟩⟩)) (fun e => absurd rfl e)
theorem WR_sz {α : hp_T} {w : Nat} {f : Nat → Int32} (h : WR α w f) {r : Nat} (hr : r < (f 0).toInt.toNat) : hp_I α 152 (lpA w r) = f (72 + r) := (h.2.2.1 r hr).1
theorem BAD_B {α : hp_T} {rd : Nat} {σ τ : ms_T} (h : BAD α rd σ) (g : BB σ τ) : BAD α rd τ := ⟨by rw [g.1]; exact h.1, by rw [g.1]; exact h.2.1, by rw [g.2.1]; exact h.2.2⟩
theorem BAD_p {α : hp_T} {rd : Nat} {σ : ms_T} (h : BAD α rd σ) : ¬ ms_I σ 670 = 0 := fun e => by have := h.1; rw [e, lt0] at this; omega
theorem rdf_k {α β : hp_T} {rd φ : Nat} (h : rdf rd (rd + 1) α β) (hφ : φ = 206 ∨ φ = 208 ∨ φ = 203) : hp_I β φ rd = hp_I α φ rd := h.2.2.2.2.2 φ rd (by omega) (by omega)
theorem WD_rdf {α β : hp_T} {rd : Nat} {l : List Int32} (h : WD α (rd + 9) l) (g : rdf rd (rd + 1) α β) : WD β (rd + 9) l := by
  obtain ⟨h1, h2, h3, h4⟩ := h
  exact ⟨h1, by rw [g.2.2.2.2.2 501 (rd + 9) (by omega) (by omega)]; exact h2, fun k hk => by rw [g.2.2.2.2.1, g.1]; exact h3 k hk, h4⟩
theorem BAD_m {α : hp_T} {rd : Nat} {σ τ : ms_T} (h : BAD α rd σ) (e0 : ms_I τ 670 = ms_I σ 670) (e1 : ms_I τ 671 = ms_I σ 671) : BAD α rd τ := ⟨by rw [e0]; exact h.1, by rw [e0]; exact h.2.1, by rw [e1]; exact h.2.2⟩
theorem TOK_m {α : hp_T} {rd N q : Nat} {σ τ : ms_T} {t : Nat → Int32} {wI wE : List Nat} (h : TOK α rd σ t N q) (hf : fr wI wE σ τ) (h1 : ∀ φ ∈ wI, ¬ (670 ≤ φ ∧ φ ≤ 676)) (h2 : 47 ∉ wE) (hJ : ms_J τ = ms_J σ) : TOK α rd τ t N q := by
  obtain ⟨k1, k2, k3, h4, h5, h6⟩ := h
  have hI : ∀ φ, 670 ≤ φ → φ ≤ 676 → ms_I τ φ = ms_I σ φ := fun φ a b => hf.1 φ (fun q => h1 φ q ⟨a, b⟩)
  refine ⟨k1, k2, k3, ⟨h4.1, by rw [hI 676 (by decide) (by decide)]; exact h4.2.1, fun j hj => by rw [hf.2 47 h2]; exact h4.2.2 j hj⟩, ?_, by rw [hI 670 (by decide) (by decide)]; exact h6⟩
  obtain ⟨k1, k2, k3, k4, k5⟩ := h5
  exact ⟨by rw [hI 672 (by decide) (by decide)]; exact k1, by rw [hI 674 (by decide) (by decide)]; exact k2, by rw [hI 673 (by decide) (by decide)]; exact k3, fun q => by rw [hI 675 (by decide) (by decide)]; exact k4 q, fun q => by rw [hJ]; exact k5 q⟩
theorem r_toL (n : Nat) (hn : 70000 ≤ n) {α : hp_T} {rd w r : Nat} {f : Nat → Int32} {σ τ : ms_T} {t : Nat → Int32} {N q : Nat} (hS : RS α rd) (hT : TOK α rd σ t N q) (hqN : q < N) (hW : WR α w f) (hf : ms_E σ 40 = f) (hC : rC f) (hr : r < (f 0).toInt.toNat)
    (e : (ms_b (f_X12_reads n σ) fun σh27 => ms_g (0 : Int32) 1980 <| ms_c (f_X12_takesNumber n σh27 (0 : Int32) ((ms_E σh27 40 ((0 : Int32)).toNatClampNeg) - (1 : Int32))) fun rh29 σh29 => if (ms_I σh29 670) = 0 then f_X12_line_J57 n σh29 rh29 else f_X12_line_J57 n σh29 (ms_I σh29 679)) = some τ) :
    ws (ms_l (hp_sI α 206 rd (1 : Int32)) fun αh43 => ms_l (hp_I αh43 552 w) fun x44 => hq_c (f_X3_readNumber n αh43 rd (0 : Int32) (x44 - (1 : Int32))) fun rh45 αh45 => if rh45 = 0 then f_X3_readLine_J63 n rd αh45 else hq_c (f_X3_readSign n αh45 rd) fun rh49 αh49 => if rh49 = 0 then f_X3_readLine_J63 n rd αh49 else f_X3_readLine_J64 n rd αh49 (1 : Int32)) (LNR α rd w r f σ τ t N q) := by
  replace e := ms_bE e
  obtain ⟨σ1, e1, e⟩ := e
  obtain ⟨hP1, hg1⟩ := r_reads n (TOK_sI (φ := 206) (v := 1) (by decide) hT) hqN σ1 e1
  replace e := ms_gE e
  obtain ⟨-, e⟩ := e
  replace e := ms_cE e
  obtain ⟨v, σ2, e2, e⟩ := e
  have eE1 : ms_E σ1 40 = f := by rw [← hf]; funext j; exact hg1.2 40 (by decide) j
  refine ws_l (ws_l ?_)
  have e552 : hp_I (hp_sI α 206 rd 1) 552 w = f 0 := by rw [hI_sI, if_neg (fun h => absurd h.1 (by decide))]; exact hW.2.1.2.1
  rw [e552]
  have h40 : ms_E σ1 40 ((0 : Int32)).toNatClampNeg = f 0 := by rw [eE1]; rfl
  rw [h40] at e2
  have eR : hp_R (hp_sI α 206 rd 1) 200 rd = rd + 1 := hS.1
  refine ws_hc (r_number n hn hP1 0 (f 0 - 1) 0 (f 0 - 1) (fun _ _ _ => Iff.rfl)) (fun a β hab => ?_)
  obtain ⟨hf2, hg2, hc⟩ := hab _ e2
  rw [eR] at hf2
  have hF : rfr rd α β := rfr_tr rfr_sI (rfr_rdf hf2)
  rcases hc with ⟨rfl, ⟨p2, hlt2, hP2⟩, ev, v0, v1, v2, v3, hk2⟩ | ⟨rfl, hB⟩
  · replace v0 : 0 ≤ v.toInt := v0
    replace v1 : v.toInt ≤ 99999 := v1
    have v3' := v3
    dsimp only at v3'
    rw [if_neg (by decide)]
    rw [if_pos (hP2.2.2.2.2.2)] at e
    unfold f_X12_line_J57 at e
    obtain ⟨σ3, e3, e4⟩ := ms_bE (ms_lE rfl e)
    cases e4
    have hP2' : PRE β rd (ms_sI σ2 679 v) t N p2 := PRE_fr (wI := [679]) (wE := []) hP2 (fr_sI (by decide)) (by decide) (by decide) rfl
    have eR2 : hp_R β 200 rd = rd + 1 := by rw [hF.1]; exact hS.1
    refine ws_hc (r_sign n hn hP2') (fun a3 γ h3 => ?_)
    obtain ⟨hf3, hg3, hc3⟩ := h3 _ e3
    rw [eR2] at hf3
    have hF3 : rfr rd α γ := rfr_tr hF (rfr_rdf hf3)
    rcases hc3 with ⟨rfl, ⟨p3, hlt3, hP3⟩, hk3⟩ | ⟨rfl, hB⟩
    · rw [if_neg (by decide)]
      unfold f_X3_readLine_J64
      have hq1 := (tkN_le t hqN).1
      refine r_fin n hn hS hF3 (by omega) hP3 (KF_tr (KF_s (by decide)) (KF_tr (KF_n hk2) (KF_k hk3))) (fun δ hd hl => Or.inr (Or.inl ?_))
      have i206 : hp_I γ 206 rd = 1 := by rw [rdf_k hf3 (by decide), rdf_k hf2 (by decide), hI_sI, if_pos ⟨rfl, rfl⟩]
      have i209 : hp_I δ 209 rd = v := by rw [hl 209 (by decide), hk3 209 (by decide)]; exact ev
      have hb : (f 0 - 1).toInt = (f 0).toInt - 1 := by have := hC.1; rw [ii_sub (by rw [lt1]; omega) (by rw [lt1]; omega), lt1]
      refine ⟨by rw [hl 206 (by decide)]; exact i206, by rw [i209]; exact v0, by rw [i209]; omega, ?_, ?_⟩
      · funext j
        rw [hg3.2 40 (by decide) j, mE_sI, hg2.2 40 (by decide) j, eE1]
      · rw [i209, hg3.1 679 (by decide), mI_sI, if_pos rfl]
    · rw [if_pos rfl]
      unfold f_X3_readLine_J63 f_X3_readLine_J64
      exact r_bad n hF3 hB
  · rw [if_pos rfl]
    unfold f_X3_readLine_J63 f_X3_readLine_J64
    refine r_bad n hF ?_
    rw [if_neg (BAD_p hB)] at e
    unfold f_X12_line_J57 at e
    obtain ⟨σ3, e3, e4⟩ := ms_bE (ms_lE rfl e)
    cases e4
    have h0 : 0 < (ms_I (ms_sI σ2 679 (ms_I σ2 679)) 670).toInt := hB.1
    exact BAD_B (BAD_m hB (τ := ms_sI σ2 679 (ms_I σ2 679)) rfl rfl) (v_takesEnd_B n _ h0 _ e3)
theorem r_forkL (n : Nat) (hn : 70000 ≤ n) {α : hp_T} {rd w r : Nat} {f : Nat → Int32} {σ τ : ms_T} {t : Nat → Int32} {N q : Nat} (hS : RS α rd) (hT : TOK α rd σ t N q) (hqN : q < N) (hW : WR α w f) (hf : ms_E σ 40 = f) (hC : rC f) (hr : r < (f 0).toInt.toNat) (hrI : (ms_I σ 679).toInt = (r : Int)) (e : f_X12_forkLine n σ = some τ) :
    ws (ms_l (hp_sI α 206 rd (2 : Int32)) fun αh32 => ms_l (hp_I αh32 552 w) fun x33 => hq_c (f_X3_hasRoom n αh32 rd x33 (4 : Int32)) fun rh34 αh34 => if rh34 = 0 then f_X3_readLine_J120 n rd αh34 else ms_l (hp_I αh34 152 (lpA w r)) fun x38 => hq_c (f_X3_readNumber n αh34 rd (0 : Int32) x38) fun rh39 αh39 => if rh39 = 0 then f_X3_readLine_J120 n rd αh39 else hq_c (f_X3_readSign n αh39 rd) fun rh41 αh41 => if rh41 = 0 then f_X3_readLine_J120 n rd αh41 else f_X3_readLine_J121 n rd αh41 (1 : Int32)) (LNR α rd w r f σ τ t N q) := by
  have t4 := t_4
  have hr4 : r < 4 := by have := hC.1; omega
  unfold f_X12_forkLine at e
  replace e := ms_gE e
  obtain ⟨-, e⟩ := e
  have h40 : ms_E σ 40 ((0 : Int32)).toNatClampNeg = f 0 := by rw [hf]; rfl
  rw [h40] at e
  refine ws_l (ws_l ?_)
  have e552 : hp_I (hp_sI α 206 rd 2) 552 w = f 0 := by rw [hI_sI, if_neg (fun h => absurd h.1 (by decide))]; exact hW.2.1.2.1
  rw [e552]
  have hT1 := TOK_sI (φ := 206) (v := 2) (by decide) hT
  have eR : hp_R (hp_sI α 206 rd 2) 200 rd = rd + 1 := hS.1
  refine ws_hc (r_room n hT1 eR (f 0) 4) (fun a β hab => ?_)
  by_cases h4 : (f 0).toInt < 4
  · obtain ⟨rfl, rfl⟩ := hab.1 (by omega)
    rw [if_neg (show ¬ (1 : Int32) = 0 by decide)]
    rw [if_neg (by rw [Int32.le_iff_toInt_le, t4]; omega)] at e
    unfold f_X12_forkLine_J16 at e
    replace e := ms_bE e
    obtain ⟨σ0, e0, e⟩ := e
    have := v_must1 n σ 1 6 (by decide) σ0 e0
    subst this
    rw [if_pos (by rw [hT.2.2.2.2.2]; decide)] at e
    replace e := ms_bE e
    obtain ⟨σ1, e1, e⟩ := e
    obtain ⟨hP1, hg1⟩ := r_reads n hT1 hqN σ1 e1
    replace e := ms_bE e
    obtain ⟨sz, e1b, e⟩ := e
    have eE1 : ms_E σ1 40 = f := by rw [← hf]; funext j; exact hg1.2 40 (by decide) j
    have e679 : ms_I σ1 679 = ms_I σ0 679 := hg1.1 679 (by decide)
    have hsz := v_sizeOf n σ1 r hr4 (ms_I σ1 679) (by rw [e679]; exact hrI) sz e1b
    rw [eE1] at hsz
    subst hsz
    replace e := ms_cE e
    obtain ⟨v, σ2, e2, e⟩ := e
    replace e := ms_bE e
    obtain ⟨σ3, e3, e⟩ := e
    refine ws_l ?_
    have e152 : hp_I (hp_sI α 206 rd 2) 152 (lpA w r) = f (72 + r) := by rw [hI_sI, if_neg (fun h => absurd h.1 (by decide))]; exact WR_sz hW hr
    rw [e152]
    refine ws_hc (r_number n hn hP1 0 (f (72 + r)) 0 (f (72 + r)) (fun _ _ _ => Iff.rfl)) (fun a β hab => ?_)
    obtain ⟨hf2, hg2, hc⟩ := hab _ e2
    rw [eR] at hf2
    have hF : rfr rd α β := rfr_tr rfr_sI (rfr_rdf hf2)
    rcases hc with ⟨rfl, ⟨p2, hlt2, hP2⟩, ev, v0, v1, v2, v3, hk2⟩ | ⟨rfl, hB⟩
    · replace v0 : 0 ≤ v.toInt := v0
      replace v1 : v.toInt ≤ 99999 := v1
      have v3' := v3
      dsimp only at v3'
      rw [if_neg (show ¬ (1 : Int32) = 0 by decide)]
      have eR2 : hp_R β 200 rd = rd + 1 := by rw [hF.1]; exact hS.1
      refine ws_hc (r_sign n hn hP2) (fun a3 γ h3 => ?_)
      obtain ⟨hf3, hg3, hc3⟩ := h3 _ e3
      rw [eR2] at hf3
      have hF3 : rfr rd α γ := rfr_tr hF (rfr_rdf hf3)
      rcases hc3 with ⟨rfl, ⟨p3, hlt3, hP3⟩, hk3⟩ | ⟨rfl, hB⟩
      · rw [if_neg (show ¬ (1 : Int32) = 0 by decide)]
        rw [if_pos hP3.2.2.2.2.2] at e
        replace e := ms_cE e
        obtain ⟨v4, σ4, e4, e⟩ := e
        replace e := ms_lE rfl e
        cases e
        have eE3 : ms_E σ3 40 = f := by funext j; rw [hg3.2 40 (by decide) j, hg2.2 40 (by decide) j, eE1]
        have hv := (v_forks n σ3 (by rw [eE3]; exact hC) r (by rw [eE3]; exact hr) (ms_I σ3 679) v (by rw [hg3.1 679 (by decide), hg2.1 679 (by decide), e679]; exact hrI) v0 _ e4).2.2
        rw [eE3] at hv
        obtain ⟨hv1, hv2, hv3⟩ := hv v3' h4
        have hJ := j_forks n (rfl : ms_J σ3 = ms_J σ3) (ms_I σ3 679) v _ e4
        unfold f_X3_readLine_J121
        have hq1 := (tkN_le t hqN).1
        refine r_fin n hn hS hF3 (by omega) (PRE_fr (wI := [679]) (wE := [40]) hP3 (fr_tr (fr_sb hv3 (by decide) (by decide)) (fr_sI (by decide))) (by decide) (by decide) hJ) (KF_tr (KF_s (by decide)) (KF_tr (KF_n hk2) (KF_k hk3))) (fun δ hd hl => Or.inr (Or.inr (Or.inl ?_)))
        have i206 : hp_I γ 206 rd = 2 := by rw [rdf_k hf3 (by decide), rdf_k hf2 (by decide), hI_sI, if_pos ⟨rfl, rfl⟩]
        have i209 : hp_I δ 209 rd = v := by rw [hl 209 (by decide), hk3 209 (by decide)]; exact ev
        refine ⟨by rw [hl 206 (by decide)]; exact i206, h4, by rw [i209]; exact v0, by rw [i209]; exact v3', by rw [i209]; exact hv2, by rw [mI_sI, if_pos rfl]; exact hv1⟩
      · rw [if_pos rfl]
        unfold f_X3_readLine_J120 f_X3_readLine_J121
        refine r_bad n hF3 ?_
        rw [if_neg (BAD_p hB)] at e
        cases e
        exact hB
    · rw [if_pos rfl]
      unfold f_X3_readLine_J120 f_X3_readLine_J121
      refine r_bad n hF ?_
      have hB3 := BAD_B hB (v_takesEnd_B n _ hB.1 _ e3)
      rw [if_neg (BAD_p hB3)] at e
      cases e
      exact hB3
  · obtain ⟨rfl, hf2, hB⟩ := hab.2 (by omega)
    rw [if_pos rfl]
    rw [if_pos (by rw [Int32.le_iff_toInt_le, t4]; omega)] at e
    unfold f_X12_forkLine_J16 at e
    replace e := ms_bE e
    obtain ⟨σ0, e0, e⟩ := e
    obtain ⟨u1, u2, u3⟩ := v_mustk n hT.2.2.2.2.2 6 (by decide) σ0 e0
    rw [if_neg (by rw [u1]; decide)] at e
    cases e
    unfold f_X3_readLine_J120 f_X3_readLine_J121
    exact r_bad n (rfr_tr rfr_sI (rfr_rdf hf2)) (hB _ u1 u2)
theorem r_freezeL (n : Nat) (hn : 70000 ≤ n) {α : hp_T} {rd w r : Nat} {f : Nat → Int32} {σ τ : ms_T} {t : Nat → Int32} {N q : Nat} (hS : RS α rd) (hT : TOK α rd σ t N q) (hqN : q < N) (hW : WR α w f) (hf : ms_E σ 40 = f) (hC : rC f) (hr : r < (f 0).toInt.toNat) (hrI : (ms_I σ 679).toInt = (r : Int))
    (e : (ms_g (3 : Int32) 1980 <| if (16 : Int32) ≤ (ms_E σ 40 ((3 : Int32)).toNatClampNeg) then f_X12_line_J107 n σ (0 : Int32) else f_X12_line_J107 n σ (1 : Int32)) = some τ) :
    ws (ms_l (hp_sI α 206 rd (3 : Int32)) fun αh24 => ms_l (hp_I αh24 554 w) fun x25 => hq_c (f_X3_hasRoom n αh24 rd x25 (16 : Int32)) fun rh26 αh26 => if rh26 = 0 then f_X3_readLine_J166 n rd αh26 else hq_c (f_X3_readSign n αh26 rd) fun rh30 αh30 => if rh30 = 0 then f_X3_readLine_J166 n rd αh30 else f_X3_readLine_J167 n rd αh30 (1 : Int32)) (LNR α rd w r f σ τ t N q) := by
  have t16 := t_16
  replace e := ms_gE e
  obtain ⟨-, e⟩ := e
  have h40 : ms_E σ 40 ((3 : Int32)).toNatClampNeg = f 3 := by rw [hf]; rfl
  rw [h40] at e
  refine ws_l (ws_l ?_)
  have e554 : hp_I (hp_sI α 206 rd 3) 554 w = f 3 := by rw [hI_sI, if_neg (fun h => absurd h.1 (by decide))]; exact hW.2.1.2.2.1
  rw [e554]
  have hT1 := TOK_sI (φ := 206) (v := 3) (by decide) hT
  have eR : hp_R (hp_sI α 206 rd 3) 200 rd = rd + 1 := hS.1
  refine ws_hc (r_room n hT1 eR (f 3) 16) (fun a β hab => ?_)
  by_cases h4 : (f 3).toInt < 16
  · obtain ⟨rfl, rfl⟩ := hab.1 (by omega)
    rw [if_neg (show ¬ (1 : Int32) = 0 by decide)]
    rw [if_neg (by rw [Int32.le_iff_toInt_le, t16]; omega)] at e
    unfold f_X12_line_J107 at e
    replace e := ms_bE e
    obtain ⟨σ0, e0, e⟩ := e
    have := v_must1 n σ 1 6 (by decide) σ0 e0
    subst this
    rw [if_pos hT.2.2.2.2.2] at e
    replace e := ms_bE e
    obtain ⟨σ1, e1, e⟩ := e
    obtain ⟨hP1, hg1⟩ := r_reads n hT1 hqN σ1 e1
    unfold f_X12_line_J123 at e
    replace e := ms_bE e
    obtain ⟨σ3, e3, e⟩ := e
    refine ws_hc (r_sign n hn hP1) (fun a3 γ h3 => ?_)
    obtain ⟨hf3, hg3, hc3⟩ := h3 _ e3
    rw [eR] at hf3
    have hF3 : rfr rd α γ := rfr_tr rfr_sI (rfr_rdf hf3)
    rcases hc3 with ⟨rfl, ⟨p3, hlt3, hP3⟩, hk3⟩ | ⟨rfl, hB⟩
    · rw [if_neg (show ¬ (1 : Int32) = 0 by decide)]
      rw [if_pos hP3.2.2.2.2.2] at e
      replace e := ms_cE e
      obtain ⟨v4, σ4, e4, e⟩ := e
      cases e
      have eE3 : ms_E σ3 40 = f := by funext j; rw [hg3.2 40 (by decide) j, hg1.2 40 (by decide) j, hf]
      have e679 : ms_I σ3 679 = ms_I σ0 679 := by rw [hg3.1 679 (by decide), hg1.1 679 (by decide)]
      have hv := (v_freezes n σ3 (by rw [eE3]; exact hC) r (by rw [eE3]; exact hr) (ms_I σ3 679) (by rw [e679]; exact hrI) _ e4).2
      rw [eE3] at hv
      obtain ⟨-, hv2, hv3⟩ := hv h4
      have hJ := j_freezes n (rfl : ms_J σ3 = ms_J σ3) (ms_I σ3 679) _ e4
      unfold f_X3_readLine_J167
      have hq1 := (tkN_le t hqN).1
      refine r_fin n hn hS hF3 (by omega) (PRE_fr hP3 hv3 (by decide) (by decide) hJ) (KF_tr (KF_s (by decide)) (KF_k hk3)) (fun δ hd hl => Or.inr (Or.inr (Or.inr (Or.inl ?_))))
      have i206 : hp_I γ 206 rd = 3 := by rw [rdf_k hf3 (by decide), hI_sI, if_pos ⟨rfl, rfl⟩]
      exact ⟨by rw [hl 206 (by decide)]; exact i206, h4, hv2, by rw [hv3.1 679 (by decide)]; exact e679⟩
    · rw [if_pos rfl]
      unfold f_X3_readLine_J166 f_X3_readLine_J167
      refine r_bad n hF3 ?_
      rw [if_neg (BAD_p hB)] at e
      cases e
      exact hB
  · obtain ⟨rfl, hf2, hB⟩ := hab.2 (by omega)
    rw [if_pos rfl]
    rw [if_pos (by rw [Int32.le_iff_toInt_le, t16]; omega)] at e
    unfold f_X12_line_J107 at e
    replace e := ms_bE e
    obtain ⟨σ0, e0, e⟩ := e
    obtain ⟨u1, u2, u3⟩ := v_mustk n hT.2.2.2.2.2 6 (by decide) σ0 e0
    rw [if_neg (by rw [u1]; decide)] at e
    unfold f_X12_line_J123 at e
    replace e := ms_bE e
    obtain ⟨σ3, e3, e⟩ := e
    have hB0 := hB σ0 u1 u2
    have hB3 := BAD_B hB0 (v_takesEnd_B n _ hB0.1 _ e3)
    rw [if_neg (BAD_p hB3)] at e
    cases e
    unfold f_X3_readLine_J166 f_X3_readLine_J167
    exact r_bad n (rfr_tr rfr_sI (rfr_rdf hf2)) hB3
/-- a line that shows: the class -/
theorem r_showL (n : Nat) (hn : 70000 ≤ n) {α : hp_T} {rd w r : Nat} {f : Nat → Int32} {σ τ : ms_T} {t : Nat → Int32} {N q : Nat} (hS : RS α rd) (hT : TOK α rd σ t N q) (hqN : q < N) (hW : WR α w f) (hf : ms_E σ 40 = f) (hC : rC f) (hr : r < (f 0).toInt.toNat) (hrI : (ms_I σ 679).toInt = (r : Int)) (hsp : spl t N q (wtx 5))
    (e : (ms_b (f_X12_takes n σ (5 : Int32)) fun σh9 => ms_c (f_X12_takesNumber n σh9 (0 : Int32) (3 : Int32)) fun rh10 σh10 => ms_b (f_X12_sizeOf n σh10 (ms_I σh10 679)) fun rh11 => ms_c (f_X12_takesNumber n σh10 (0 : Int32) rh11) fun rh12 σh12 => ms_b (f_X12_takesEnd n σh12) fun σh13 => if (ms_I σh13 670) = 0 then ms_c (f_X12_shows n σh13 rh10 (ms_I σh13 679) rh12) fun rh15 σh15 => some σh15 else some σh13) = some τ) :
    ws (hq_c (f_X3_readShow n α rd (lpA w r)) fun rh23 αh23 => f_X3_readLine_J197 n rd αh23 rh23) (LNR α rd w r f σ τ t N q) := by
  have hr4 : r < 4 := by have := hC.1; omega
  have hN := hT.2.1.1
  have t3 := t_3
  replace e := ms_bE e
  obtain ⟨σ1, e1, e⟩ := e
  unfold f_X12_takes at e1
  replace e1 := ms_bE e1
  obtain ⟨x1, e1a, e1⟩ := e1
  have hx1 : x1 = 1 := by
    rcases v_isWord n hT.2.2.2.2.1 (by have := hT.1; omega) hN 5 (by decide) 5 (by decide) x1 e1a with ⟨h, -⟩ | ⟨-, h⟩
    · exact h
    · exact absurd ⟨hT.2.2.2.2.2, hsp⟩ h
  subst hx1
  have hT1 := TOK_sI (φ := 206) (v := 4) (by decide) hT
  have hh : PRE (hp_sI α 206 rd 4) rd σ1 t N (tkN t N q) ∧ rg σ σ1 := r_must n hT1 1 (Or.inr rfl) (fun _ => hqN) (R := ms_T) (fun τ => PRE (hp_sI α 206 rd 4) rd τ t N (tkN t N q) ∧ rg σ τ) (fun _ τ a b => ⟨a, b⟩) (fun h => absurd h (by decide)) σ1 e1
  obtain ⟨hP1, hg1⟩ := hh
  replace e := ms_cE e
  obtain ⟨v, σ2, e2, e⟩ := e
  replace e := ms_bE e
  obtain ⟨sz, e2b, e⟩ := e
  replace e := ms_cE e
  obtain ⟨u, σ3, e3, e⟩ := e
  replace e := ms_bE e
  obtain ⟨σ4, e4, e⟩ := e
  have eE1 : ms_E σ1 40 = f := by rw [← hf]; funext j; exact hg1.2 40 (by decide) j
  have eR : hp_R (hp_sI α 206 rd 4) 200 rd = rd + 1 := hS.1
  unfold f_X3_readShow
  have hq1 := (tkN_le t hqN).1
  have hT2 : pr (f_X12_takesNumber n σ1 0 3) (fun res => rg σ1 res.2) := fun res hres => by
    obtain ⟨-, hg, -⟩ := (r_number n hn hP1 0 3 0 3 (fun _ _ _ => Iff.rfl)).choose_spec.2 res hres
    exact hg
  have hg2 := hT2 _ e2
  have e679 : ms_I σ2 679 = ms_I σ 679 := by rw [hg2.1 679 (by decide), hg1.1 679 (by decide)]
  have eE2 : ms_E σ2 40 = f := by funext j; rw [hg2.2 40 (by decide) j, eE1]
  have hsz := v_sizeOf n σ2 r hr4 (ms_I σ2 679) (by rw [e679]; exact hrI) sz e2b
  rw [eE2] at hsz
  subst hsz
  have hgo : ∀ a : Int32 × hp_T, rfr rd α a.2 ∧ ((a.1 = 0 ∧ BAD a.2 rd τ) ∨ (a.1 = 1 ∧ (∃ p, q < p ∧ PRE a.2 rd τ t N p) ∧ LNK a.2 rd w r f σ τ ∧ KF rd α a.2)) → ws (f_X3_readLine_J197 n rd a.2 a.1) (LNR α rd w r f σ τ t N q) := by
    intro a ha
    obtain ⟨a1, a2⟩ := a
    obtain ⟨hF, ⟨h0, hB⟩ | ⟨h1, ⟨p, hp, hP⟩, hK, hKF⟩⟩ := ha
    · dsimp only at h0
      subst h0
      exact r_bad n hF hB
    · dsimp only at h1
      subst h1
      refine r_fin n hn hS hF hp hP hKF (fun γ hg hl => ?_)
      rcases hK with ⟨k1, k2, ⟨l, k3, k4⟩, k5⟩ | k | k | k | k
      · exact Or.inl ⟨by rw [hl 206 (by decide)]; exact k1, k2, ⟨l, WD_rdf k3 hg, k4⟩, k5⟩
      · refine Or.inr (Or.inl ?_)
        rw [hl 206 (by decide), hl 209 (by decide)]; exact k
      · refine Or.inr (Or.inr (Or.inl ?_))
        rw [hl 206 (by decide), hl 209 (by decide)]; exact k
      · refine Or.inr (Or.inr (Or.inr (Or.inl ?_)))
        rw [hl 206 (by decide)]; exact k
      · refine Or.inr (Or.inr (Or.inr (Or.inr ?_)))
        rw [hl 206 (by decide), hl 208 (by decide), hl 209 (by decide)]; exact k
  refine ws_hc (T := fun a => rfr rd α a.2 ∧ ((a.1 = 0 ∧ BAD a.2 rd τ) ∨ (a.1 = 1 ∧ (∃ p, q < p ∧ PRE a.2 rd τ t N p) ∧ LNK a.2 rd w r f σ τ ∧ KF rd α a.2))) ?_ (fun a β h => hgo (a, β) h)
  refine ws_l (ws_hc (r_number n hn hP1 0 3 0 3 (fun _ _ _ => Iff.rfl)) (fun a β hab => ?_))
  obtain ⟨hf2, -, hc⟩ := hab _ e2
  rw [eR] at hf2
  have hF : rfr rd α β := rfr_tr rfr_sI (rfr_rdf hf2)
  rcases hc with ⟨rfl, ⟨p2, hlt2, hP2⟩, ev, v0, v1, v2, v3, hk2⟩ | ⟨rfl, hB⟩
  · replace v0 : 0 ≤ v.toInt := v0
    replace v3 : v.toInt ≤ (3 : Int32).toInt := v3
    refine ws_i (fun h => absurd h (by decide)) (fun _ => ws_l (ws_l (ws_l ?_)))
    have hP2' := PRE_sI (φ := 208) (v := hp_I β 209 rd) (by decide) hP2
    have eR2 : hp_R (hp_sI β 208 rd (hp_I β 209 rd)) 200 rd = rd + 1 := by show hp_R β 200 rd = _; rw [hF.1]; exact hS.1
    have e152 : hp_I (hp_sI β 208 rd (hp_I β 209 rd)) 152 (lpA w r) = f (72 + r) := by
      rw [hI_sI, if_neg (fun h => absurd h.1 (by decide)), hf2.2.2.2.2.2 152 _ (by omega) (by omega), hI_sI, if_neg (fun h => absurd h.1 (by decide))]
      exact WR_sz hW hr
    rw [e152]
    refine ws_hc (r_number n hn hP2' 0 (f (72 + r)) 0 (f (72 + r)) (fun _ _ _ => Iff.rfl)) (fun a3 γ h3 => ?_)
    obtain ⟨hf3, hg3, hc3⟩ := h3 _ e3
    rw [eR2] at hf3
    have hF3 : rfr rd α γ := rfr_tr hF (rfr_tr rfr_sI (rfr_rdf hf3))
    rcases hc3 with ⟨rfl, ⟨p3, hlt3, hP3⟩, eu, u0, u1, u2, u3, hk3⟩ | ⟨rfl, hB⟩
    · replace u0 : 0 ≤ u.toInt := u0
      replace u3 : u.toInt ≤ (f (72 + r)).toInt := u3
      refine ws_i (fun h => absurd h (by decide)) (fun _ => ?_)
      have eR3 : hp_R γ 200 rd = rd + 1 := by rw [hF3.1]; exact hS.1
      refine ws_hc (r_sign n hn hP3) (fun a4 δ h4 => ?_)
      obtain ⟨hf4, hg4, hc4⟩ := h4 _ e4
      rw [eR3] at hf4
      have hF4 : rfr rd α δ := rfr_tr hF3 (rfr_rdf hf4)
      rcases hc4 with ⟨rfl, ⟨p4, hlt4, hP4⟩, hk4⟩ | ⟨rfl, hB⟩
      · refine ws_i (fun h => absurd h (by decide)) (fun _ => ws_s ⟨hF4, Or.inr ⟨rfl, ?_⟩⟩)
        rw [if_pos hP4.2.2.2.2.2] at e
        replace e := ms_cE e
        obtain ⟨v5, σ5, e5, e⟩ := e
        cases e
        have eE4 : ms_E σ4 40 = f := by funext j; rw [hg4.2 40 (by decide) j, hg3.2 40 (by decide) j, eE2]
        have e679b : ms_I σ4 679 = ms_I σ 679 := by rw [hg4.1 679 (by decide), hg3.1 679 (by decide), e679]
        have hv := v_shows n σ4 (by rw [eE4]; exact hC) v.toInt.toNat r u.toInt.toNat (by omega) hr4 (by rw [eE4]; omega) v (ms_I σ4 679) u (by omega) (by rw [e679b]; exact hrI) (by omega) _ e5
        rw [eE4] at hv
        obtain ⟨-, hv2, hv3⟩ := hv
        have hJ := j_shows n (rfl : ms_J σ4 = ms_J σ4) v (ms_I σ4 679) u _ e5
        refine ⟨⟨p4, by omega, PRE_fr hP4 hv3 (by decide) (by decide) hJ⟩, Or.inr (Or.inr (Or.inr (Or.inr ?_))), KF_tr (KF_s (by decide)) (KF_tr (KF_n hk2) (KF_tr (KF_s (by decide)) (KF_tr (KF_n hk3) (KF_k hk4))))⟩
        have i209 : hp_I δ 209 rd = u := by rw [hk4 209 (by decide)]; exact eu
        have i208 : hp_I δ 208 rd = v := by rw [hk4 208 (by decide), rdf_k hf3 (by decide), hI_sI, if_pos ⟨rfl, rfl⟩]; exact ev
        have i206 : hp_I δ 206 rd = 4 := by rw [hk4 206 (by decide), rdf_k hf3 (by decide), hI_sI, if_neg (fun h => absurd h.1 (by decide)), rdf_k hf2 (by decide), hI_sI, if_pos ⟨rfl, rfl⟩]
        rw [i209, i208]
        exact ⟨i206, v0, by omega, u0, u3, hv2, by rw [hv3.1 679 (by decide)]; exact e679b⟩
      · refine ws_i (fun _ => ws_s ⟨hF4, Or.inl ⟨rfl, ?_⟩⟩) (fun h => absurd rfl h)
        rw [if_neg (BAD_p hB)] at e
        cases e
        exact hB
    · refine ws_i (fun _ => ws_s ⟨hF3, Or.inl ⟨rfl, ?_⟩⟩) (fun h => absurd rfl h)
      have hB3 := BAD_B hB (v_takesEnd_B n _ hB.1 _ e4)
      rw [if_neg (BAD_p hB3)] at e
      cases e
      exact hB3
  · refine ws_i (fun _ => ws_s ⟨hF, Or.inl ⟨rfl, ?_⟩⟩) (fun h => absurd rfl h)
    have hB2 : BAD β rd σ3 := BAD_B hB (v_takesNumber_B n _ _ _ hB.1 _ e3)
    have hB3 := BAD_B hB2 (v_takesEnd_B n _ hB2.1 _ e4)
    rw [if_neg (BAD_p hB3)] at e
    cases e
    exact hB3
theorem HWD_rg {σ τ : ms_T} {l : List Int32} (h : HWD σ l) (g : rg σ τ) : HWD τ l := ⟨h.1, by rw [g.1 665 (by decide)]; exact h.2.1, fun k hk => by rw [g.2 46 (by decide)]; exact h.2.2 k hk⟩
/-- a line that adds, from its sign on -/
theorem r_addE (n : Nat) (hn : 70000 ≤ n) {α β : hp_T} {rd w r : Nat} {f : Nat → Int32} {σ σ1 τ : ms_T} {t : Nat → Int32} {N q q1 : Nat} (hS : RS α rd) (hF : rfr rd α β) (hT : TOK β rd σ1 t N q1) (hq : q < q1) (hf : ms_E σ1 40 = f) (hC : rC f) (hr : r < (f 0).toInt.toNat) (hrI : (ms_I σ1 679).toInt = (r : Int)) (e679 : ms_I σ1 679 = ms_I σ 679) (h48 : (f (72 + r)).toInt < 48) (l : List Int32) (hW : WD β (rd + 9) l) (hH : HWD σ1 l) (h206 : hp_I β 206 rd = 0) (hKF : KF rd α β) (e : f_X12_addLine_J134 n σ1 = some τ) :
    ws (f_X3_readAdd_J81 n rd β) (fun a => rfr rd α a.2 ∧ ((a.1 = 0 ∧ BAD a.2 rd τ) ∨ (a.1 = 1 ∧ (∃ p, q < p ∧ PRE a.2 rd τ t N p) ∧ LNK a.2 rd w r f σ τ ∧ KF rd α a.2))) := by
  have hr4 : r < 4 := by have := hC.1; omega
  have h72 := hC.2.2.2.2.1 r hr4
  unfold f_X12_addLine_J134 at e
  replace e := ms_bE e
  obtain ⟨σ2, e2, e⟩ := e
  have eR : hp_R β 200 rd = rd + 1 := by rw [hF.1]; exact hS.1
  refine ws_m (r_end81 n hT eR) (fun a ha => ?_)
  obtain ⟨hf2, hg2, hc⟩ := ha _ e2
  refine ⟨rfr_tr hF (rfr_rdf hf2), ?_⟩
  rcases hc with ⟨h1, ⟨p, hp, hP⟩, ha2⟩ | ⟨h0, hB⟩
  · rw [if_pos hP.2.2.2.2.2] at e
    replace e := ms_cE e
    obtain ⟨v3, σ3, e3, e⟩ := e
    cases e
    have eE2 : ms_E σ2 40 = f := by funext j; rw [hg2.2 40 (by decide) j, hf]
    have hv := v_adds n σ2 (by rw [eE2]; exact hC) r (f (72 + r)).toInt.toNat hr4 (by omega) (by rw [eE2]; omega) l (HWD_rg hH hg2) (ms_I σ2 679) (by rw [hg2.1 679 (by decide)]; exact hrI) _ e3
    rw [eE2] at hv
    obtain ⟨-, hv2, hv3⟩ := hv
    have hJ := j_adds n (rfl : ms_J σ2 = ms_J σ2) (ms_I σ2 679) _ e3
    refine Or.inr ⟨h1, ⟨p, by omega, PRE_fr hP hv3 (by decide) (by decide) hJ⟩, Or.inl ?_, by rw [ha2]; exact hKF⟩
    rw [ha2]
    exact ⟨h206, h48, ⟨l, hW, (hv2 (by omega)).2⟩, by rw [hv3.1 679 (by decide), hg2.1 679 (by decide)]; exact e679⟩
  · refine Or.inl ⟨h0, ?_⟩
    rw [if_neg (BAD_p hB)] at e
    cases e
    exact hB
theorem r_addR (n : Nat) (hn : 70000 ≤ n) {α : hp_T} {rd w r : Nat} {f : Nat → Int32} {σ τ : ms_T} {t : Nat → Int32} {N q : Nat} (hS : RS α rd) (hT : TOK α rd σ t N q) (hqN : q < N) (hW : WR α w f) (hf : ms_E σ 40 = f) (hC : rC f) (hr : r < (f 0).toInt.toNat) (hrI : (ms_I σ 679).toInt = (r : Int)) (e : f_X12_addLine n σ = some τ) :
    ws (f_X3_readAdd n α rd (lpA w r)) (fun a => rfr rd α a.2 ∧ ((a.1 = 0 ∧ BAD a.2 rd τ) ∨ (a.1 = 1 ∧ (∃ p, q < p ∧ PRE a.2 rd τ t N p) ∧ LNK a.2 rd w r f σ τ ∧ KF rd α a.2))) := by
  have hr4 : r < 4 := by have := hC.1; omega
  have t48 := t_48
  have t8 := t_8
  have hq1 := tkN_le t hqN
  have hN := hT.2.1.1
  unfold f_X12_addLine at e
  replace e := ms_bE e
  obtain ⟨sz, ez, e⟩ := e
  have hsz := v_sizeOf n σ r hr4 (ms_I σ 679) hrI sz ez
  rw [hf] at hsz
  subst hsz
  unfold f_X3_readAdd
  refine ws_l (ws_l ?_)
  have e152 : hp_I (hp_sI α 206 rd 0) 152 (lpA w r) = f (72 + r) := by rw [hI_sI, if_neg (fun h => absurd h.1 (by decide))]; exact WR_sz hW hr
  rw [e152]
  have hT1 := TOK_sI (φ := 206) (v := 0) (by decide) hT
  have eR : hp_R (hp_sI α 206 rd 0) 200 rd = rd + 1 := hS.1
  refine ws_hc (r_room n hT1 eR (f (72 + r)) 48) (fun a β hab => ?_)
  by_cases h4 : (f (72 + r)).toInt < 48
  · obtain ⟨h1, h2⟩ := hab.1 (by omega)
    dsimp only at h1 h2
    subst h1
    subst h2
    refine ws_i (fun h => absurd h (by decide)) (fun _ => ws_l ?_)
    rw [if_neg (by rw [Int32.le_iff_toInt_le, t48]; omega)] at e
    unfold f_X12_addLine_J19 at e
    replace e := ms_bE e
    obtain ⟨σ0, e0, e⟩ := e
    have hσ0 : σ0 = σ := v_must1 n σ 1 6 (by decide) σ0 e0
    rw [hσ0] at e
    clear hσ0 e0
    rw [if_pos (by rw [hT.2.2.2.2.2]; decide)] at e
    replace e := ms_bE e
    obtain ⟨σ1, e1, e⟩ := e
    obtain ⟨hP1, hg1⟩ := r_reads n hT1 hqN σ1 e1
    replace e := ms_lE rfl e
    have hS1 : RS (hp_sI α 206 rd 0) rd := RS_R hS rfl
    have eW : hp_R (hp_sI α 206 rd 0) 207 rd = rd + 9 := hS.2.1
    rw [eW]
    refine ws_b (k_wclear n _ (rd + 9)) (fun β hβ => ws_l ?_)
    have hFβ : rfr rd α β := rfr_tr rfr_sI (rfr_df hS1 hβ.2)
    have hP1' : PRE β rd (ms_sI σ1 665 0) t N (tkN t N q) := PRE_fr (wI := [665]) (wE := []) (PRE_df hP1 hβ.2) (fr_sI (by decide)) (by decide) (by decide) rfl
    have eRβ : hp_R β 200 rd = rd + 1 := by rw [hFβ.1]; exact hS.1
    refine ws_b (r_adv n hn hP1') (fun γ hγ => ws_l (ws_l ?_))
    obtain ⟨hT2, hf2, hk2⟩ := hγ
    rw [eRβ] at hf2
    have hFγ : rfr rd α γ := rfr_tr hFβ (rfr_rdf hf2)
    have eRγ : hp_R γ 200 rd = rd + 1 := by rw [hFγ.1]; exact hS.1
    obtain ⟨q2, hq2⟩ : ∃ q2, q2 = tkP t N (tkN t N q) := ⟨_, rfl⟩
    rw [← hq2] at hT2
    have hq2l : tkN t N q ≤ q2 := by rw [hq2]; exact (ru_le isB t (N - tkN t N q) (tkN t N q)).1
    have i206 : hp_I γ 206 rd = 0 := by rw [hk2 206 (by decide), hβ.2.2.2.2.2.1 206 rd (fun h => absurd h.2 (by decide)), hI_sI, if_pos ⟨rfl, rfl⟩]
    have hwγ : WD γ (rd + 9) [] := WD_rdf hβ.1 hf2
    have hKγ : KF rd α γ := KF_tr (KF_s (φ := 206) (v := 0) (by decide)) (KF_tr (β := β) (KF_k (fun φ hφ => hβ.2.2.2.2.2.1 φ rd (by omega))) (KF_k (fun φ hφ => hk2 φ hφ rd)))
    have eE1 : ms_E (ms_sI σ1 665 0) 40 = f := by rw [← hf]; funext j; exact hg1.2 40 (by decide) j
    have e679 : ms_I (ms_sI σ1 665 0) 679 = ms_I σ 679 := by rw [mI_sI, if_neg (by decide)]; exact hg1.1 679 (by decide)
    obtain ⟨k1, k2, k3, k4, k5, k6⟩ := id hT2
    refine ws_i (fun e353 => ?_) (fun e353 => ?_)
    · have hs : tkS t N q2 = 1 := k3.2.1.symm.trans e353
      have hq2N : q2 < N := q_lt hs (by decide)
      have hw := tk_word (tkS_1 hs)
      have hb2 := tkN_le t hq2N
      obtain ⟨m, hm⟩ : ∃ m, m = tkN t N q2 - q2 := ⟨_, rfl⟩
      rw [if_pos (k5.2.1.trans hs)] at e
      have h355 : (hp_I γ 355 (hp_R γ 200 rd)).toInt = (m : Int) := by rw [k3.2.2.2.1, if_neg (by omega)]; omega
      have h673 : (ms_I (ms_sI σ1 665 0) 673 - ms_I (ms_sI σ1 665 0) 672).toInt = (m : Int) := by
        rw [ii_sub (by rw [k5.2.2.1, k5.1]; omega) (by rw [k5.2.2.1, k5.1]; omega), k5.2.2.1, k5.1]; omega
      refine ws_l (ws_l (ws_le (fun hle => ?_) (fun hgt => ?_)))
      · have hm8 : m ≤ 8 := by omega
        rw [if_neg (by rw [Int32.lt_iff_toInt_lt, t8, h673]; omega)] at e
        unfold f_X12_addLine_J69 at e
        replace e := ms_bE e
        obtain ⟨σ2, e2, e⟩ := e
        have hσ2 : σ2 = ms_sI σ1 665 0 := v_must1 n _ 1 4 (by decide) σ2 e2
        rw [hσ2] at e
        clear hσ2 e2
        rw [if_pos (by rw [k6]; decide)] at e
        replace e := ms_lE rfl e
        refine ws_l (ws_l ?_)
        have eWγ : hp_R γ 207 rd = rd + 9 := by rw [hFγ.1]; exact hS.2.1
        rw [eWγ]
        refine ws_b (k_copyWord n hn (wd := rd + 9) k2 k3.1 h355 hm8 (by omega) (fun j hj => hw.2.2 j (by omega))) (fun δ hδ => ws_l ?_)
        have hSγ : RS γ rd := RS_R hS hFγ.1
        have hFδ : rfr rd α δ := rfr_tr hFγ (rfr_df hSγ hδ.2)
        have eRδ : hp_R δ 200 rd = rd + 1 := by rw [hFδ.1]; exact hS.1
        have hgo : ∀ ρ : ms_T, HWD ρ (lw t q2 m) → fr [] [46] (ms_sI (ms_sI σ1 665 0) 665 (ms_I (ms_sI σ1 665 0) 673 - ms_I (ms_sI σ1 665 0) 672)) ρ → ms_J ρ = ms_J (ms_sI (ms_sI σ1 665 0) 665 (ms_I (ms_sI σ1 665 0) 673 - ms_I (ms_sI σ1 665 0) 672)) → pr (ms_b (f_X12_reads n ρ) fun σ => f_X12_addLine_J134 n σ) (fun τ => ∃ σ4 q4, f_X12_addLine_J134 n σ4 = some τ ∧ (q2 < q4 ∧ PRE δ rd σ4 t N q4) ∧ HWD σ4 (lw t q2 m) ∧ ms_E σ4 40 = f ∧ ms_I σ4 679 = ms_I σ 679) := by
          intro ρ hH hfr hJ
          have hTρ : TOK δ rd ρ t N q2 := TOK_m (wI := [665]) (wE := [46]) (TOK_df hT2 hδ.2) (fr_tr (fr_sI (by decide)) (fr_sb hfr (by decide) (by decide))) (by decide) (by decide) hJ
          refine pr_b (r_reads n hTρ hq2N) (fun σ4 h4 => fun τ e4 => ⟨σ4, _, e4, ⟨by omega, h4.1⟩, HWD_rg hH h4.2, ?_, ?_⟩)
          · funext j
            rw [h4.2.2 40 (by decide) j, hfr.2 40 (by decide) j, mE_sI, eE1]
          · rw [h4.2.1 679 (by decide), hfr.1 679 (by decide), mI_sI, if_neg (by decide)]; exact e679
        have hB1 : RB (ms_sI (ms_sI σ1 665 0) 665 (ms_I (ms_sI σ1 665 0) 673 - ms_I (ms_sI σ1 665 0) 672)) t N := ⟨k4.1, k4.2.1, k4.2.2⟩
        obtain ⟨σ4, q4, e4, ⟨hq4, hP4⟩, hH4, eE4, e6794⟩ := v_addLine_L n hm8 (by omega) _ _ hgo n 0 0 _ hB1 k5.1 (by rw [mI_sI, if_pos rfl]; exact h673) (fun j hj => by omega) fr_rf rfl (by decide) (by omega) τ e
        refine ws_b (r_adv n hn hP4) (fun ε hε => ?_)
        obtain ⟨hT5, hf5, hk5⟩ := hε
        rw [eRδ] at hf5
        have hl5 : q4 ≤ tkP t N q4 := (ru_le isB t (N - q4) q4).1
        exact r_addE n hn hS (rfr_tr hFδ (rfr_rdf hf5)) hT5 (by omega) eE4 hC hr (by rw [e6794]; exact hrI) e6794 h4 _ (WD_rdf hδ.1 hf5) hH4 (by rw [hk5 206 (by decide), hδ.2.2.2.2.2.1 206 rd (fun h => absurd h.2 (by decide))]; exact i206) (KF_tr hKγ (KF_tr (β := δ) (KF_k (fun φ hφ => hδ.2.2.2.2.2.1 φ rd (by omega))) (KF_k (fun φ hφ => hk5 φ hφ rd)))) e4
      · have hm8 : 8 < m := by omega
        rw [if_pos (by rw [Int32.lt_iff_toInt_lt, t8, h673]; omega)] at e
        unfold f_X12_addLine_J69 at e
        replace e := ms_bE e
        obtain ⟨σ2, e2, e⟩ := e
        obtain ⟨u1, u2, u3⟩ := v_mustk n k6 4 (by decide) σ2 e2
        rw [if_neg (by rw [u1]; decide)] at e
        cases e
        refine ws_hc (k_fail n γ rd 4) (fun a5 δ h5 => ws_z (Or.inl h5.1) (ws_s ?_))
        obtain ⟨g1, g2, g3, g4⟩ := h5
        rw [eRγ] at g4
        refine ⟨rfr_tr hFγ (rfr_rdf g4), Or.inl ⟨g1, by rw [u1]; decide, by rw [u1]; exact g2, ?_⟩⟩
        rw [g3, u2]
        exact Int32.toInt_inj.mp (by rw [k3.1, k5.1])
    · rw [if_neg (fun h => e353 (k3.2.1.trans (k5.2.1.symm.trans h)))] at e
      exact r_addE n hn hS hFγ hT2 (by omega) eE1 hC hr (by rw [e679]; exact hrI) e679 h4 [] hwγ ⟨by decide, by rw [mI_sI, if_pos rfl]; decide, fun k hk => absurd hk (by simp)⟩ i206 hKγ e
  · obtain ⟨h1, hf2, hB⟩ := hab.2 (by omega)
    rw [if_pos (by rw [Int32.le_iff_toInt_le, t48]; omega)] at e
    unfold f_X12_addLine_J19 at e
    replace e := ms_bE e
    obtain ⟨σ0, e0, e⟩ := e
    obtain ⟨u1, u2, u3⟩ := v_mustk n hT.2.2.2.2.2 6 (by decide) σ0 e0
    rw [if_neg (by rw [u1]; decide)] at e
    cases e
    exact ws_i (fun _ => ws_s ⟨rfr_tr rfr_sI (rfr_rdf hf2), Or.inl ⟨rfl, hB _ u1 u2⟩⟩) (fun h => absurd h1 h)
