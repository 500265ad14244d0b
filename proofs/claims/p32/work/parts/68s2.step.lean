set_option maxRecDepth 100000
/-! ===== reading, side by side ===== -/
def rdf (rd sc : Nat) (α β : hp_T) : Prop := hp_R β = hp_R α ∧ hp_K β = hp_K α ∧ hp_Q β = hp_Q α ∧ hp_N β = hp_N α ∧ hp_E β = hp_E α ∧ ∀ φ b, ¬ (b = rd ∧ (φ = 204 ∨ φ = 205 ∨ φ = 209)) → ¬ (b = sc ∧ 352 ≤ φ ∧ φ ≤ 356) → hp_I β φ b = hp_I α φ b
theorem rdf_rf {rd sc : Nat} {α : hp_T} : rdf rd sc α α := ⟨rfl, rfl, rfl, rfl, rfl, fun _ _ _ _ => rfl⟩
theorem rdf_tr {rd sc : Nat} {α β γ : hp_T} (h : rdf rd sc α β) (g : rdf rd sc β γ) : rdf rd sc α γ := by
  obtain ⟨h1, h2, h3, h4, h5, h6⟩ := h
  obtain ⟨g1, g2, g3, g4, g5, g6⟩ := g
  exact ⟨g1.trans h1, g2.trans h2, g3.trans h3, g4.trans h4, g5.trans h5, fun φ b q r => (g6 φ b q r).trans (h6 φ b q r)⟩
theorem rdf_sf {rd sc : Nat} {α β : hp_T} (h : sf sc α β) : rdf rd sc α β := by
  obtain ⟨h1, h2, h3, h4, h5, h6⟩ := h
  exact ⟨h1, h2, h3, h4, h5, fun φ b _ r => h6 φ b r⟩
theorem rdf_sI {rd sc φ : Nat} {α : hp_T} {v : Int32} (h : φ = 204 ∨ φ = 205 ∨ φ = 209) : rdf rd sc α (hp_sI α φ rd v) :=
  ⟨rfl, rfl, rfl, rfl, rfl, fun ψ b q _ => by rw [hI_sI, if_neg (fun (e : ψ = φ ∧ b = rd) => q ⟨e.2, by rw [e.1]; exact h⟩)]⟩
def rg (σ τ : ms_T) : Prop := fr [670, 671, 672, 673, 674, 675] [] σ τ
theorem rg_rf {σ : ms_T} : rg σ σ := fr_rf
theorem rg_tr {σ τ υ : ms_T} (h : rg σ τ) (g : rg τ υ) : rg σ υ := fr_tr h g
theorem rg_r {σ τ : ms_T} (h : rf σ τ) : rg σ τ := fr_sb h (by decide) (by decide)
/-- the class stands before a token that the reference has read already -/
def PRE (α : hp_T) (rd : Nat) (σ : ms_T) (t : Nat → Int32) (N p : Nat) : Prop := p ≤ N ∧ SB α (hp_R α 200 rd) t N ∧ (hp_I α 352 (hp_R α 200 rd)).toInt = (p : Int) ∧ RB σ t N ∧ RST σ t N (tkP t N p) ∧ ms_I σ 670 = 0
/-- both stand on the same token -/
def TOK (α : hp_T) (rd : Nat) (σ : ms_T) (t : Nat → Int32) (N q : Nat) : Prop := q ≤ N ∧ SB α (hp_R α 200 rd) t N ∧ SCT α (hp_R α 200 rd) t N q ∧ RB σ t N ∧ RST σ t N q ∧ ms_I σ 670 = 0
/-- both have found the same fault -/
def BAD (α : hp_T) (rd : Nat) (σ : ms_T) : Prop := 0 < (ms_I σ 670).toInt ∧ hp_I α 204 rd = ms_I σ 670 ∧ hp_I α 205 rd = ms_I σ 671
theorem tkP_le (t : Nat → Int32) {N p : Nat} (h : p ≤ N) : tkP t N p ≤ N := by
  have := ru_le isB t (N - p) p
  unfold tkP
  omega
theorem r_adv (n : Nat) (hn : 70000 ≤ n) {α : hp_T} {rd : Nat} {σ : ms_T} {t : Nat → Int32} {N p : Nat} (h : PRE α rd σ t N p) : ws (f_X6_advance n α (hp_R α 200 rd)) (fun β => TOK β rd σ t N (tkP t N p) ∧ rdf rd (hp_R α 200 rd) α β ∧ ∀ φ, φ < 350 → ∀ b, hp_I β φ b = hp_I α φ b) := by
  obtain ⟨h1, h2, h3, h4, h5, h6⟩ := h
  refine ws_m (k_advance n hn h2 h1 h3) (fun β hβ => ⟨⟨tkP_le t h1, ?_, ?_, h4, h5, h6⟩, rdf_sf hβ.2, fun φ hφ b => hβ.2.2.2.2.2.2 φ b (by omega)⟩)
  · rw [hβ.2.1]; exact SB_sf h2 hβ.2
  · rw [hβ.2.1]; exact hβ.1
theorem r_reads (n : Nat) {α : hp_T} {rd : Nat} {σ : ms_T} {t : Nat → Int32} {N q : Nat} (h : TOK α rd σ t N q) (hq : q < N) : pr (f_X12_reads n σ) (fun τ => PRE α rd τ t N (tkN t N q) ∧ rg σ τ) := by
  obtain ⟨h1, h2, h3, h4, h5, h6⟩ := h
  have hb := tkN_le t hq
  refine pr_m (v_reads n h4 hb.2 h5.2.2.1) (fun τ hτ => ⟨⟨hb.2, h2, ?_, RB_rf h4 hτ.2, hτ.1, ?_⟩, rg_r hτ.2⟩)
  · have := h3.2.2.1
    rw [if_neg (by omega)] at this
    exact this
  · rw [hτ.2.1 670 (by decide)]; exact h6
theorem k_fail (n : Nat) (α : hp_T) (rd : Nat) (k : Int32) : ws (f_X3_fail n α rd k) (fun res => res.1 = 0 ∧ hp_I res.2 204 rd = k ∧ hp_I res.2 205 rd = hp_I α 354 (hp_R α 200 rd) ∧ rdf rd (hp_R α 200 rd) α res.2) := by
  unfold f_X3_fail
  refine ws_l (ws_l (ws_l (ws_l (ws_s ⟨rfl, ?_, ?_, rdf_tr (rdf_sI (Or.inl rfl)) (rdf_sI (Or.inr (Or.inl rfl)))⟩))))
  · rw [hI_sI, if_neg (fun h => absurd h.1 (by decide)), hI_sI, if_pos ⟨rfl, rfl⟩]
  · rw [hI_sI, if_pos ⟨rfl, rfl⟩, hI_sI, if_neg (fun h => absurd h.1 (by decide))]; rfl
theorem k_stray (n : Nat) {α : hp_T} {rd : Nat} {t : Nat → Int32} {N q : Nat} (hS : SCT α (hp_R α 200 rd) t N q) : ws (f_X3_stray n α rd) (fun res => res.1 = 0 ∧ hp_I res.2 204 rd = (if tkS t N q = 4 then 1 else 2) ∧ (hp_I res.2 205 rd).toInt = (q : Int) ∧ rdf rd (hp_R α 200 rd) α res.2) := by
  unfold f_X3_stray f_X3_stray_J17
  refine ws_l (ws_l (ws_i (fun e => ?_) (fun e => ?_)))
  · rw [if_pos (hS.2.1.symm.trans e)]
    exact ws_hc (k_fail n α rd 1) (fun r β hr => ws_z (Or.inl hr.1) (ws_s ⟨hr.1, hr.2.1, by rw [hr.2.2.1]; exact hS.1, hr.2.2.2⟩))
  · rw [if_neg (fun h => e (hS.2.1.trans h))]
    exact ws_hc (k_fail n α rd 2) (fun r β hr => ws_z (Or.inl hr.1) (ws_s ⟨hr.1, hr.2.1, by rw [hr.2.2.1]; exact hS.1, hr.2.2.2⟩))
theorem v_must0 (n : Nat) {σ : ms_T} (h0 : ms_I σ 670 = 0) (w : Int32) : pr (f_X12_must n σ 0 w) (fun τ => ms_I τ 670 = (if w = 2 ∧ ms_I σ 674 = 4 then 1 else w) ∧ ms_I τ 671 = ms_I σ 672 ∧ fr [670, 671] [] σ τ) := by
  have hJ : ∀ v, pr (f_X12_must_J31 n σ v) (fun τ => ms_I τ 670 = v ∧ ms_I τ 671 = ms_I σ 672 ∧ fr [670, 671] [] σ τ) := by
    intro v
    unfold f_X12_must_J31
    refine pr_l (pr_l (pr_s ⟨?_, ?_, fr_tr (fr_sI (by decide)) (fr_sI (by decide))⟩))
    · rw [mI_sI, if_neg (by decide), mI_sI, if_pos rfl]
    · rw [mI_sI, if_pos rfl, mI_sI, if_neg (by decide)]
  unfold f_X12_must f_X12_must_J30
  refine pr_i (fun _ => pr_i (fun _ => pr_i (fun e2 => pr_i (fun e4 => ?_) (fun e4 => ?_)) (fun e2 => ?_)) (fun e => absurd (by rw [h0]; decide) e)) (fun e => absurd rfl e)
  · rw [if_pos ⟨e2, e4⟩]; exact hJ 1
  · rw [if_neg (fun h => e4 h.2)]; exact hJ w
  · rw [if_neg (fun h => e2 h.1)]; exact hJ w
theorem rg_m {σ τ : ms_T} (h : fr [670, 671] [] σ τ) : rg σ τ := fr_sb h (by decide) (by decide)
theorem v_must1 (n : Nat) (σ : ms_T) (a w : Int32) (ha : a ≠ 0) : pr (f_X12_must n σ a w) (fun τ => τ = σ) := by
  unfold f_X12_must
  exact pr_i (fun e => absurd e ha) (fun _ => pr_s rfl)
theorem v_must2 (n : Nat) (σ : ms_T) (a w : Int32) (h : 0 < (ms_I σ 670).toInt) : pr (f_X12_must n σ a w) (fun τ => τ = σ) := by
  unfold f_X12_must
  exact pr_i (fun _ => pr_le (fun e => by rw [lt0] at e; omega) (fun _ => pr_s rfl)) (fun _ => pr_s rfl)
/-- a fault stays -/
def BB (σ τ : ms_T) : Prop := ms_I τ 670 = ms_I σ 670 ∧ ms_I τ 671 = ms_I σ 671 ∧ rg σ τ
theorem BB_rf {σ : ms_T} : BB σ σ := ⟨rfl, rfl, rg_rf⟩
theorem BB_tr {σ τ υ : ms_T} (h : BB σ τ) (g : BB τ υ) : BB σ υ := ⟨g.1.trans h.1, g.2.1.trans h.2.1, rg_tr h.2.2 g.2.2⟩
theorem v_takes_B (n : Nat) (σ : ms_T) (w : Int32) (h : 0 < (ms_I σ 670).toInt) : pr (f_X12_takes n σ w) (BB σ) := by
  unfold f_X12_takes
  refine pr_b (T := fun _ => True) (fun _ _ => trivial) (fun r _ => pr_b (v_must2 n σ r 2 h) (fun τ hτ => ?_))
  subst hτ
  exact pr_i (fun e => by rw [e, lt0] at h; omega) (fun _ => pr_s BB_rf)
theorem v_takesEnd_B (n : Nat) (σ : ms_T) (h : 0 < (ms_I σ 670).toInt) : pr (f_X12_takesEnd n σ) (BB σ) := by
  have hJ : ∀ v, pr (f_X12_takesEnd_J14 n σ v) (BB σ) := by
    intro v
    unfold f_X12_takesEnd_J14
    refine pr_b (v_must2 n σ v 2 h) (fun τ hτ => ?_)
    subst hτ
    exact pr_i (fun e => by rw [e, lt0] at h; omega) (fun _ => pr_s BB_rf)
  unfold f_X12_takesEnd
  exact pr_i (fun _ => hJ 1) (fun _ => hJ 0)
theorem v_takesNumber_B (n : Nat) (σ : ms_T) (lo hi : Int32) (h : 0 < (ms_I σ 670).toInt) : pr (f_X12_takesNumber n σ lo hi) (fun res => BB σ res.2) := by
  have hJ : ∀ v, pr (f_X12_takesNumber_J14 n σ lo hi v) (fun res => BB σ res.2) := by
    intro v
    unfold f_X12_takesNumber_J14
    refine pr_b (v_must2 n σ v 2 h) (fun τ hτ => ?_)
    subst hτ
    refine pr_b (T := fun _ => True) (fun _ _ => trivial) (fun r _ => pr_b (v_must2 n τ r 3 h) (fun υ hυ => ?_))
    subst hυ
    exact pr_l (pr_i (fun e => by rw [e, lt0] at h; omega) (fun _ => pr_s BB_rf))
  unfold f_X12_takesNumber
  exact pr_i (fun _ => hJ 1) (fun _ => hJ 0)
/-- the outcome of a step on both sides -/
def OUT (α : hp_T) (rd : Nat) (σ : ms_T) (t : Nat → Int32) (N p : Nat) (r : Int32) (β : hp_T) (τ : ms_T) (G : Prop) : Prop := rdf rd (hp_R α 200 rd) α β ∧ rg σ τ ∧ ((r = 1 ∧ (∃ p', p < p' ∧ PRE β rd τ t N p') ∧ G) ∨ (r = 0 ∧ BAD β rd τ))
theorem PRE_rdf {α β : hp_T} {rd : Nat} {σ : ms_T} {t : Nat → Int32} {N p : Nat} (h : PRE α rd σ t N p) (e : hp_R β = hp_R α) (ek : hp_K β = hp_K α) (ee : hp_E β = hp_E α) (e1 : hp_I β 351 (hp_R α 200 rd) = hp_I α 351 (hp_R α 200 rd)) (e2 : hp_I β 352 (hp_R α 200 rd) = hp_I α 352 (hp_R α 200 rd)) : PRE β rd σ t N p := by
  obtain ⟨h1, h2, h3, h4, h5, h6⟩ := h
  refine ⟨h1, ?_, by rw [e, e2]; exact h3, h4, h5, h6⟩
  rw [e]
  exact ⟨h2.1, by rw [e1]; exact h2.2.1, by rw [e, ek]; exact h2.2.2.1, fun j hj => by rw [e, ee]; exact h2.2.2.2 j hj⟩
theorem q_lt {t : Nat → Int32} {N q : Nat} {k : Int32} (h : tkS t N q = k) (hk : k ≠ 0) : q < N := by
  refine Nat.lt_of_not_le (fun hq => hk ?_)
  rw [← h]
  unfold tkS tkK
  rw [if_pos hq, if_neg (fun e => absurd e.1 (by decide))]
theorem vl_b (t : Nat → Int32) (q : Nat) : ∀ m, m ≤ 5 → (∀ j, j < m → isD (t (q + j)) = true) → 0 ≤ (vl t q m).toInt ∧ (vl t q m).toInt + 1 ≤ (10 ^ m : Nat) := by
  intro m
  induction m with
  | zero => intro _ _; simp [vl]
  | succ m ih =>
    intro hm h
    have h1 := ih (by omega) (fun j hj => h j (by omega))
    have hd := h m (by omega)
    unfold isD at hd
    simp at hd
    have hp : (10 : Nat) ^ m ≤ 10 ^ 4 := Nat.pow_le_pow_right (by decide) (by omega)
    have hp4 : (10 : Nat) ^ 4 = 10000 := by decide
    have l48 : (48 : Int32).toInt = 48 := by decide
    have l10 := t_10
    have e1 : ((10 : Int32) * vl t q m).toInt = 10 * (vl t q m).toInt := by rw [ii_mul (by rw [l10]; omega) (by rw [l10]; omega), l10]
    have e2 : ((10 : Int32) * vl t q m + t (q + m)).toInt = 10 * (vl t q m).toInt + (t (q + m)).toInt := by rw [ii_add (by omega) (by omega), e1]
    rw [vl, ii_sub (by rw [l48]; omega) (by rw [l48]; omega), e2, l48, Nat.pow_succ]
    omega
theorem tk_num {t : Nat → Int32} {N q : Nat} (h : tkS t N q = 2) : q < N ∧ tkN t N q - q ≤ 5 ∧ 0 ≤ (vl t q (tkN t N q - q)).toInt ∧ (vl t q (tkN t N q - q)).toInt ≤ 99999 := by
  have hq := q_lt h (by decide)
  have hk := tkS_K h
  have h5 : tkN t N q - q ≤ 5 := by
    refine Nat.le_of_not_lt (fun h6 => ?_)
    unfold tkS at h
    rw [if_pos ⟨hk, h6⟩] at h
    exact absurd h (by decide)
  have hkk : kof (t q) = 2 := by unfold tkK at hk; rw [if_neg (by omega)] at hk; exact hk
  obtain ⟨hL, hD⟩ := kof_D.mp hkk
  have hall : ∀ j, j < tkN t N q - q → isD (t (q + j)) = true := by
    intro j hj
    unfold tkN at hj
    rw [if_neg (by omega), if_neg (by rw [hL]; decide), if_pos hD] at hj
    exact ru_all isD t (N - q) q (q + j) (by omega) (by omega)
  have := vl_b t q _ h5 hall
  have hp : (10 : Nat) ^ (tkN t N q - q) ≤ 10 ^ 5 := Nat.pow_le_pow_right (by decide) h5
  have hp5 : (10 : Nat) ^ 5 = 100000 := by decide
  omega
theorem p_lt {t : Nat → Int32} {N p q : Nat} (e : q = tkP t N p) (h : q < N) : p < tkN t N q := by
  have h1 := (ru_le isB t (N - p) p).1
  have h2 := (tkN_le t h).1
  unfold tkP at e
  omega
theorem r_number (n : Nat) (hn : 70000 ≤ n) {α : hp_T} {rd : Nat} {σ : ms_T} {t : Nat → Int32} {N p : Nat} (h : PRE α rd σ t N p) (lo hi lo' hi' : Int32) (hr' : ∀ v : Int, 0 ≤ v → v ≤ 99999 → ((lo.toInt ≤ v ∧ v ≤ hi.toInt) ↔ (lo'.toInt ≤ v ∧ v ≤ hi'.toInt))) : ws (f_X3_readNumber n α rd lo hi) (fun a => pr (f_X12_takesNumber n σ lo' hi') (fun b => OUT α rd σ t N p a.1 a.2 b.2 (hp_I a.2 209 rd = b.1 ∧ 0 ≤ b.1.toInt ∧ b.1.toInt ≤ 99999 ∧ lo'.toInt ≤ b.1.toInt ∧ b.1.toInt ≤ hi'.toInt ∧ ∀ φ, φ < 350 → φ ≠ 209 → hp_I a.2 φ rd = hp_I α φ rd))) := by
  have l2 := t_2
  unfold f_X3_readNumber
  refine ws_l (ws_b (r_adv n hn h) (fun β hβ => ws_l (ws_l ?_)))
  obtain ⟨hT, hf, hk⟩ := hβ
  obtain ⟨q1, q2, q3, q4, q5, q6⟩ := id hT
  obtain ⟨q, hqq⟩ : ∃ q, q = tkP t N p := ⟨_, rfl⟩
  rw [← hqq] at hT q1 q3 q5
  unfold f_X12_takesNumber f_X12_takesNumber_J14
  refine ws_i (fun e => ?_) (fun e => ?_)
  · have hs : tkS t N q = 2 := q3.2.1.symm.trans e
    obtain ⟨hqN, h5, hv0, hv1⟩ := tk_num hs
    have hlt : p < tkN t N q := p_lt hqq hqN
    have hval := q3.2.2.2.2 hs
    have hval2 := q5.2.2.2.1 hs
    have e674 : ms_I σ 674 = 2 := q5.2.1.trans hs
    rw [if_pos e674]
    have f9 : rdf rd (hp_R α 200 rd) β (hp_sI β 209 rd (hp_I β 356 (hp_R β 200 rd))) := rdf_sI (by decide)
    have e9 : hp_I (hp_sI β 209 rd (hp_I β 356 (hp_R β 200 rd))) 209 rd = vl t q (tkN t N q - q) := by rw [hI_sI, if_pos ⟨rfl, rfl⟩]; exact hval
    have href : ∀ P : Int32 × ms_T → Prop, ((lo'.toInt ≤ (vl t q (tkN t N q - q)).toInt ∧ (vl t q (tkN t N q - q)).toInt ≤ hi'.toInt) → ∀ τ, PRE β rd τ t N (tkN t N q) → rg σ τ → P (vl t q (tkN t N q - q), τ)) → (¬ (lo'.toInt ≤ (vl t q (tkN t N q - q)).toInt ∧ (vl t q (tkN t N q - q)).toInt ≤ hi'.toInt) → ∀ τ, ms_I τ 670 = 3 → ms_I τ 671 = ms_I σ 672 → rg σ τ → P (vl t q (tkN t N q - q), τ)) → pr (ms_b (f_X12_must n σ 1 2) fun σh2 => ms_b (f_X12_isIn n (ms_I σh2 675) lo' hi') fun rh3 => ms_b (f_X12_must n σh2 rh3 3) fun σh4 => ms_l (ms_I σh4 675) fun x5 => if ms_I σh4 670 = 0 then ms_b (f_X12_reads n σh4) fun σh7 => some (x5, σh7) else some (x5, σh4)) P := by
      intro P hP1 hP2
      refine pr_b (v_must1 n σ 1 2 (by decide)) (fun τ hτ => ?_)
      subst hτ
      rw [hval2]
      refine pr_b (v_isIn n _ lo' hi') (fun r hr => ?_)
      rcases hr with ⟨rfl, hin⟩ | ⟨rfl, hin⟩
      · refine pr_b (v_must1 n τ 1 3 (by decide)) (fun υ hυ => ?_)
        subst hυ
        refine pr_l (pr_i (fun _ => pr_b (r_reads n hT hqN) (fun ω hω => pr_s ?_)) (fun e => absurd q6 e))
        rw [hval2]
        exact hP1 hin ω hω.1 hω.2
      · refine pr_b (v_must0 n q6 3) (fun υ hυ => ?_)
        obtain ⟨u1, u2, u3⟩ := hυ
        rw [if_neg (fun h => absurd h.1 (by decide))] at u1
        have e675 : ms_I υ 675 = vl t q (tkN t N q - q) := by rw [u3.1 675 (by decide)]; exact hval2
        refine pr_l (pr_i (fun e => by rw [u1] at e; exact absurd e (by decide)) (fun _ => pr_s ?_))
        rw [e675]
        exact hP2 hin υ u1 u2 (rg_m u3)
    have hR9 : hp_R (hp_sI β 209 rd (hp_I β 356 (hp_R β 200 rd))) = hp_R β := rfl
    have hfail : ¬ (lo.toInt ≤ (vl t q (tkN t N q - q)).toInt ∧ (vl t q (tkN t N q - q)).toInt ≤ hi.toInt) → ws (f_X3_readNumber_J50 n rd (hp_sI β 209 rd (hp_I β 356 (hp_R β 200 rd)))) (fun a => pr (ms_b (f_X12_must n σ 1 2) fun σh2 => ms_b (f_X12_isIn n (ms_I σh2 675) lo' hi') fun rh3 => ms_b (f_X12_must n σh2 rh3 3) fun σh4 => ms_l (ms_I σh4 675) fun x5 => if ms_I σh4 670 = 0 then ms_b (f_X12_reads n σh4) fun σh7 => some (x5, σh7) else some (x5, σh4)) (fun b => OUT α rd σ t N p a.1 a.2 b.2 (hp_I a.2 209 rd = b.1 ∧ 0 ≤ b.1.toInt ∧ b.1.toInt ≤ 99999 ∧ lo'.toInt ≤ b.1.toInt ∧ b.1.toInt ≤ hi'.toInt ∧ ∀ φ, φ < 350 → φ ≠ 209 → hp_I a.2 φ rd = hp_I α φ rd))) := by
      intro hno
      unfold f_X3_readNumber_J50
      refine ws_hc (k_fail n _ rd 3) (fun r γ hr => ws_i (fun _ => ws_s ?_) (fun e => absurd hr.1 e))
      obtain ⟨g1, g2, g3, g4⟩ := hr
      have eR : hp_R α 200 rd = hp_R β 200 rd := by rw [hf.1]
      have g5 : rdf rd (hp_R α 200 rd) (hp_sI β 209 rd (hp_I β 356 (hp_R β 200 rd))) γ := by rw [eR]; exact g4
      refine href _ (fun hin => absurd ((hr' _ hv0 hv1).mpr hin) hno) (fun _ τ t1 t2 t3 => ⟨rdf_tr hf (rdf_tr f9 g5), t3, Or.inr ⟨rfl, by rw [t1]; decide, by rw [t1]; exact g2, ?_⟩⟩)
      rw [g3, t2, hI_sI, if_neg (fun h => absurd h.1 (by decide)), hR9]
      exact Int32.toInt_inj.mp (by rw [q3.1, q5.1])
    refine ws_l (ws_l (ws_l (ws_l ?_)))
    rw [e9]
    refine ws_lt (fun e1 => hfail (by omega)) (fun e1 => ws_l ?_)
    refine ws_le (fun e2 => ?_) (fun e2 => hfail (by omega))
    unfold f_X3_readNumber_J58
    refine ws_s (href _ (fun hin τ t1 t2 => ⟨rdf_tr hf f9, t2, Or.inl ⟨rfl, ⟨_, hlt, PRE_rdf t1 rfl rfl rfl (by rw [hI_sI, if_neg (fun h => absurd h.1 (by decide))]) (by rw [hI_sI, if_neg (fun h => absurd h.1 (by decide))])⟩, e9, hv0, hv1, hin.1, hin.2, fun φ h1 h2 => by rw [hI_sI, if_neg (fun h => h2 h.1)]; exact hk φ h1 rd⟩⟩) (fun hin => absurd ((hr' _ hv0 hv1).mp ⟨e1, e2⟩) hin))
  · have hs : ¬ tkS t N q = 2 := fun h => e (q3.2.1.trans h)
    have e674 : ¬ ms_I σ 674 = 2 := fun h => hs (q5.2.1.symm.trans h)
    rw [if_neg e674]
    refine ws_hc (k_stray n q3) (fun r γ hr => ws_z (Or.inl hr.1) (ws_s ?_))
    obtain ⟨g1, g2, g3, g4⟩ := hr
    refine pr_b (v_must0 n q6 2) (fun τ hτ => ?_)
    obtain ⟨u1, u2, u3⟩ := hτ
    have hpos : 0 < (ms_I τ 670).toInt := by rw [u1]; split <;> decide
    refine pr_b (T := fun _ => True) (fun _ _ => trivial) (fun r3 _ => pr_b (v_must2 n τ r3 3 hpos) (fun υ hυ => ?_))
    subst hυ
    refine pr_l (pr_i (fun e => by rw [e, lt0] at hpos; omega) (fun _ => pr_s ⟨rdf_tr hf (by rw [hf.1] at g4; exact g4), rg_m u3, Or.inr ⟨g1, hpos, ?_, ?_⟩⟩))
    · rw [g2, u1]
      by_cases h4 : tkS t N q = 4
      · rw [if_pos h4, if_pos ⟨rfl, q5.2.1.trans h4⟩]
      · rw [if_neg h4, if_neg (fun h => h4 (q5.2.1.symm.trans h.2))]
    · exact Int32.toInt_inj.mp (by rw [g3, u2, q5.1])
/-- a thing that must be there: both find it, or both the same fault -/
theorem r_must (n : Nat) {β : hp_T} {rd : Nat} {σ : ms_T} {t : Nat → Int32} {N q : Nat} (hT : TOK β rd σ t N q) (a : Int32) (ha : a = 0 ∨ a = 1) (hq : a = 1 → q < N) {R : Type} (P : ms_T → Prop) (hP1 : a = 1 → ∀ τ, PRE β rd τ t N (tkN t N q) → rg σ τ → P τ) (hP2 : a = 0 → ∀ τ, 0 < (ms_I τ 670).toInt → ms_I τ 670 = (if tkS t N q = 4 then 1 else 2) → (ms_I τ 671).toInt = (q : Int) → rg σ τ → P τ) : pr (ms_b (f_X12_must n σ a 2) fun σh2 => if ms_I σh2 670 = 0 then ms_b (f_X12_reads n σh2) fun σh4 => some σh4 else some σh2) P := by
  obtain ⟨q1, q2, q3, q4, q5, q6⟩ := id hT
  rcases ha with rfl | rfl
  · refine pr_b (v_must0 n q6 2) (fun τ hτ => ?_)
    obtain ⟨u1, u2, u3⟩ := hτ
    have e : ms_I τ 670 = (if tkS t N q = 4 then 1 else 2) := by
      rw [u1]
      by_cases h4 : tkS t N q = 4
      · rw [if_pos h4, if_pos ⟨rfl, q5.2.1.trans h4⟩]
      · rw [if_neg h4, if_neg (fun h => h4 (q5.2.1.symm.trans h.2))]
    have hpos : 0 < (ms_I τ 670).toInt := by rw [e]; split <;> decide
    exact pr_i (fun e => by rw [e, lt0] at hpos; omega) (fun _ => pr_s (hP2 rfl τ hpos e (by rw [u2]; exact q5.1) (rg_m u3)))
  · refine pr_b (v_must1 n σ 1 2 (by decide)) (fun τ hτ => ?_)
    subst hτ
    exact pr_i (fun _ => pr_b (r_reads n hT (hq rfl)) (fun υ hυ => pr_s (hP1 rfl υ hυ.1 hυ.2))) (fun e => absurd q6 e)
theorem r_sign (n : Nat) (hn : 70000 ≤ n) {α : hp_T} {rd : Nat} {σ : ms_T} {t : Nat → Int32} {N p : Nat} (h : PRE α rd σ t N p) : ws (f_X3_readSign n α rd) (fun a => pr (f_X12_takesEnd n σ) (fun τ => OUT α rd σ t N p a.1 a.2 τ (∀ φ, φ < 350 → hp_I a.2 φ rd = hp_I α φ rd))) := by
  unfold f_X3_readSign
  refine ws_l (ws_b (r_adv n hn h) (fun β hβ => ws_l (ws_l ?_)))
  obtain ⟨hT, hf, hk⟩ := hβ
  obtain ⟨q1, q2, q3, q4, q5, q6⟩ := id hT
  have eR : hp_R α 200 rd = hp_R β 200 rd := by rw [hf.1]
  unfold f_X12_takesEnd f_X12_takesEnd_J14
  refine ws_i (fun e => ?_) (fun e => ?_)
  · have hs := q3.2.1.symm.trans e
    rw [if_pos (q5.2.1.trans hs)]
    unfold f_X3_readSign_J25
    exact ws_s (r_must n hT 1 (Or.inr rfl) (fun _ => q_lt hs (by decide)) (R := ms_T) _ (fun _ τ t1 t2 => ⟨hf, t2, Or.inl ⟨rfl, ⟨_, p_lt rfl (q_lt hs (by decide)), t1⟩, fun φ hφ => hk φ hφ rd⟩⟩) (fun h => absurd h (by decide)))
  · rw [if_neg (fun h => e (q3.2.1.trans (q5.2.1.symm.trans h)))]
    refine ws_hc (k_stray n q3) (fun r γ hr => ws_i (fun _ => ws_s ?_) (fun e => absurd hr.1 e))
    obtain ⟨g1, g2, g3, g4⟩ := hr
    refine r_must n hT 0 (Or.inl rfl) (fun h => absurd h (by decide)) (R := ms_T) _ (fun h => absurd h (by decide)) (fun _ τ t1 t2 t3 t4 => ⟨rdf_tr hf (by rw [eR]; exact g4), t4, Or.inr ⟨rfl, t1, by rw [g2, t2], ?_⟩⟩)
    exact Int32.toInt_inj.mp (by rw [g3, t3])
theorem r_word (n : Nat) (hn : 70000 ≤ n) {α : hp_T} {rd : Nat} {σ : ms_T} {t : Nat → Int32} {N p : Nat} (h : PRE α rd σ t N p) (w : Nat) (hw : w < 12) (wI : Int32) (hwI : wI.toInt = (w : Int)) : ws (f_X3_readWord n α rd (wtx w)) (fun a => pr (f_X12_takes n σ wI) (fun τ => OUT α rd σ t N p a.1 a.2 τ (∀ φ, φ < 350 → hp_I a.2 φ rd = hp_I α φ rd))) := by
  unfold f_X3_readWord
  refine ws_l (ws_b (r_adv n hn h) (fun β hβ => ws_l ?_))
  obtain ⟨hT, hf, hk⟩ := hβ
  obtain ⟨q1, q2, q3, q4, q5, q6⟩ := id hT
  have eR : hp_R α 200 rd = hp_R β 200 rd := by rw [hf.1]
  have hN := q2.1
  unfold f_X12_takes
  refine wk_bo (k_spells n hn (wtx_ok w hw).1 q2 q3 q1) (fun hno => ?_) (fun hyes => ?_)
  · refine ws_hc (k_stray n q3) (fun r γ hr => ws_i (fun _ => ws_s ?_) (fun e => absurd hr.1 e))
    obtain ⟨g1, g2, g3, g4⟩ := hr
    refine pr_b (v_isWord n q5 (by omega) hN w hw wI hwI) (fun r2 hr2 => ?_)
    rcases hr2 with ⟨-, hy⟩ | ⟨rfl, -⟩
    · exact absurd hy.2 hno
    · refine r_must n hT 0 (Or.inl rfl) (fun h => absurd h (by decide)) (R := ms_T) _ (fun h => absurd h (by decide)) (fun _ τ t1 t2 t3 t4 => ⟨rdf_tr hf (by rw [eR]; exact g4), t4, Or.inr ⟨rfl, t1, by rw [g2, t2], ?_⟩⟩)
      exact Int32.toInt_inj.mp (by rw [g3, t3])
  · unfold f_X3_readWord_J25
    refine ws_s (pr_b (v_isWord n q5 (by omega) hN w hw wI hwI) (fun r2 hr2 => ?_))
    rcases hr2 with ⟨rfl, -⟩ | ⟨-, hno⟩
    · exact r_must n hT 1 (Or.inr rfl) (fun _ => q_lt hyes.1 (by decide)) (R := ms_T) _ (fun _ τ t1 t2 => ⟨hf, t2, Or.inl ⟨rfl, ⟨_, p_lt rfl (q_lt hyes.1 (by decide)), t1⟩, fun φ hφ => hk φ hφ rd⟩⟩) (fun h => absurd h (by decide))
    · exact absurd ⟨q6, hyes⟩ hno
/-! ===== marks: of two, of words, of trees ===== -/
def mx (m h x : Int32) : Int32 := ((((((h).toInt64 * (h).toInt64) + ((3 : Int64) * (h).toInt64)) + (x).toInt64) + (7 : Int64)) - (((((h).toInt64 * (h).toInt64) + ((3 : Int64) * (h).toInt64)) + (x).toInt64) + (7 : Int64)) / (m).toInt64 * (m).toInt64).toInt32
def bt (m a b : Int32) : Int32 := mx m (mx m 2 a) b
theorem i64_of (x : Int32) : (x.toInt64).toInt = x.toInt := Int32.toInt_toInt64 x
theorem nl_of {m : Int32} (h : 0 < m.toInt) : ¬ m.toInt64 = 0 := by
  intro e
  have := congrArg Int64.toInt e
  rw [i64_of, show (0 : Int64).toInt = 0 from rfl] at this
  omega
theorem jl_rem {x : Int64} {m : Int32} (h0 : -1000000000000 ≤ x.toInt) (h1 : x.toInt ≤ 1000000000000) (hm : 0 < m.toInt) : (x - x / m.toInt64 * m.toInt64).toInt = x.toInt.tmod m.toInt := by
  have hd : (x / m.toInt64).toInt = x.toInt.tdiv m.toInt := by
    rw [Int64.toInt_div, i64_of]
    have h2 : (x.toInt.tdiv m.toInt).natAbs ≤ x.toInt.natAbs := Int.natAbs_tdiv_le_natAbs _ _
    exact Int.bmod_eq_of_le (by omega) (by omega)
  have he := Int.tmod_add_mul_tdiv x.toInt m.toInt
  have hl : (x.toInt.tmod m.toInt).natAbs < m.toInt.natAbs := by
    rw [Int.natAbs_tmod]
    exact Nat.mod_lt _ (by omega)
  have hmb := ib_hi m
  have e2 : x.toInt.tdiv m.toInt * m.toInt = x.toInt - x.toInt.tmod m.toInt := by rw [Int.mul_comm]; omega
  have hmul : (x / m.toInt64 * m.toInt64).toInt = x.toInt - x.toInt.tmod m.toInt := by
    rw [jl_mul (by rw [hd, i64_of, e2]; omega) (by rw [hd, i64_of, e2]; omega), hd, i64_of, e2]
  rw [jl_sub (by rw [hmul]; omega) (by rw [hmul]; omega), hmul]
  omega
theorem rem_32 {x : Int64} {m : Int32} (h0 : -1000000000000 ≤ x.toInt) (h1 : x.toInt ≤ 1000000000000) (hm : 0 < m.toInt) : ((x - x / m.toInt64 * m.toInt64).toInt32).toInt64 = x - x / m.toInt64 * m.toInt64 := by
  have h := jl_rem h0 h1 hm
  have hl : (x.toInt.tmod m.toInt).natAbs < m.toInt.natAbs := by
    rw [Int.natAbs_tmod]
    exact Nat.mod_lt _ (by omega)
  have hmb := ib_hi m
  rw [← Int64.toInt_inj, i64_of, Int64.toInt_toInt32, h]
  exact Int.bmod_eq_of_le (by omega) (by omega)
theorem bt_17 (a : Int32) : (((2 : Int32).toInt64 * (2 : Int32).toInt64 + (3 : Int64) * (2 : Int32).toInt64) + a.toInt64) + (7 : Int64) = a.toInt64 + (17 : Int64) := by
  have e : (2 : Int32).toInt64 * (2 : Int32).toInt64 + (3 : Int64) * (2 : Int32).toInt64 = (10 : Int64) := by decide
  rw [e, Int64.add_comm 10, Int64.add_assoc]
  rfl
theorem k_mixed (n : Nat) (m h x : Int32) (hm : 0 < m.toInt) : ws (f_X11_mixed n m h x) (fun r => r = mx m h x) := by
  unfold f_X11_mixed
  exact ws_lt (fun _ => ws_nl (nl_of hm) (ws_s rfl)) (fun e => by rw [lt0] at e; omega)
theorem k_two (n : Nat) (m a b : Int32) (hm : 0 < m.toInt) : ws (f_X11_markOfTwo n m a b) (fun r => r = bt m a b) := by
  have ha := ib_hi a
  have hb := ib_lo a
  have h17 : (a.toInt64 + (17 : Int64)).toInt = a.toInt + 17 := by
    rw [jl_add (by rw [i64_of, show (17 : Int64).toInt = 17 from by decide]; omega) (by rw [i64_of, show (17 : Int64).toInt = 17 from by decide]; omega), i64_of, show (17 : Int64).toInt = 17 from by decide]
  have hr := rem_32 (x := a.toInt64 + (17 : Int64)) (m := m) (by omega) (by omega) hm
  unfold f_X11_markOfTwo
  refine ws_lt (fun _ => ws_nl (nl_of hm) (ws_l (ws_nl (nl_of hm) (ws_s ?_)))) (fun e => by rw [lt0] at e; omega)
  unfold bt
  have e2 : (mx m 2 a).toInt64 = (a.toInt64 + (17 : Int64)) - (a.toInt64 + (17 : Int64)) / m.toInt64 * m.toInt64 := by
    unfold mx
    rw [bt_17]
    exact hr
  unfold mx at e2 ⊢
  rw [e2]
theorem v_mixed (n : Nat) (σ : ms_T) (h x : Int32) : pr (f_X12_mixed n σ h x) (fun r => r = mx (ms_E σ 40 1) h x) := by
  unfold f_X12_mixed
  exact pr_g (fun _ _ => pr_nl (fun _ => pr_s rfl))
theorem v_both (n : Nat) (σ : ms_T) (a b : Int32) : pr (f_X12_both n σ a b) (fun r => r = bt (ms_E σ 40 1) a b) := by
  unfold f_X12_both bt
  refine pr_b (v_mixed n σ 2 a) (fun r hr => pr_b (v_mixed n σ r b) (fun r2 hr2 => pr_s ?_))
  rw [hr2, hr]
/-- a tree of things: split at the greatest power of two below -/
def TR (g : Int32 → Int32 → Int32) : Nat → List Int32 → Int32
  | 0, l => l.headD 0
  | d + 1, l => if l.length ≤ 1 then l.headD 0 else g (TR g d (l.take (p0 l.length))) (TR g d (l.drop (p0 l.length)))
/-- two by two, the odd last one left for later -/
def JN (g : Int32 → Int32 → Int32) : List Int32 → List Int32
  | a :: b :: l => g a b :: JN g l
  | [a] => [a]
  | [] => []
theorem JN_len (g : Int32 → Int32 → Int32) : ∀ (k : Nat) (l : List Int32), l.length ≤ k → (JN g l).length = (l.length + 1) / 2 := by
  intro k
  induction k with
  | zero => intro l h; cases l with
    | nil => rfl
    | cons a l => simp at h
  | succ k ih =>
    intro l h
    match l, h with
    | [], _ => rfl
    | [a], _ => simp [JN]
    | a :: b :: l, h =>
      rw [JN, List.length_cons, ih l (by simp at h; omega)]
      simp only [List.length_cons]
      omega
theorem JN_td (g : Int32 → Int32 → Int32) : ∀ (k : Nat) (l : List Int32), (JN g l).take k = JN g (l.take (2 * k)) ∧ (JN g l).drop k = JN g (l.drop (2 * k)) ∨ l.length < 2 * k := by
  intro k
  induction k with
  | zero => intro l; left; simp [JN]
  | succ k ih =>
    intro l
    match l with
    | [] => right; simp
    | [a] => right; simp; omega
    | a :: b :: l =>
      rcases ih l with ⟨h1, h2⟩ | h
      · left
        rw [show 2 * (k + 1) = 2 * k + 1 + 1 by omega]
        constructor
        · rw [JN, List.take_succ_cons, h1, List.take_succ_cons, List.take_succ_cons, JN]
        · rw [JN, List.drop_succ_cons, h2, List.drop_succ_cons, List.drop_succ_cons]
      · right; simp; omega
theorem p0_half {n : Nat} (h : 3 ≤ n) : p0 n = 2 * p0 ((n + 1) / 2) := by
  have h1 := p0_lt (m := (n + 1) / 2) (by omega)
  have h2 := p0_le (m := (n + 1) / 2)
  have h3 : ∃ e, p0 ((n + 1) / 2) = 2 ^ e := ⟨_, rfl⟩
  obtain ⟨e, he⟩ := h3
  rw [he] at h1 h2 ⊢
  rw [p0_un (m := n) (e := e + 1) (by rw [Nat.pow_succ]; omega) (by rw [Nat.pow_succ]; omega), Nat.pow_succ]
  omega
theorem TR_1 (g : Int32 → Int32 → Int32) (d : Nat) {l : List Int32} (h : l.length ≤ 1) : TR g d l = l.headD 0 := by
  cases d with
  | zero => rfl
  | succ d => rw [TR, if_pos h]
theorem JN_1 (g : Int32 → Int32 → Int32) {l : List Int32} (h : l.length ≤ 1) : JN g l = l := by
  match l, h with
  | [], _ => rfl
  | [a], _ => rfl
  | a :: b :: l, h => simp at h
theorem TR_JN (g : Int32 → Int32 → Int32) : ∀ (d : Nat) (l : List Int32), l.length ≤ 2 ^ (d + 1) → TR g (d + 1) l = TR g d (JN g l) := by
  intro d
  induction d with
  | zero =>
    intro l h
    match l, h with
    | [], _ => rfl
    | [a], _ => rfl
    | [a, b], _ => rfl
    | a :: b :: c :: l, h => simp at h
  | succ d ih =>
    intro l h
    by_cases h1 : l.length ≤ 1
    · rw [JN_1 g h1, TR_1 g _ h1, TR_1 g _ h1]
    · rw [TR, if_neg h1]
      by_cases h2 : l.length = 2
      · match l, h2 with
        | [a, b], _ =>
          have hp : p0 2 = 1 := by decide
          show g (TR g (d + 1) (List.take (p0 2) [a, b])) (TR g (d + 1) (List.drop (p0 2) [a, b])) = TR g (d + 1) [g a b]
          rw [hp, TR_1 g _ (by simp), TR_1 g _ (by simp), TR_1 g _ (by simp)]
          rfl
      · have h3 : 3 ≤ l.length := by omega
        have hl := JN_len g _ l (Nat.le_refl _)
        have hp := p0_half h3
        have hp1 := p0_lt (m := l.length) (by omega)
        have hp2 := p0_le (m := l.length)
        have hp4 := p0_dn (m := l.length) (by omega) h
        have eR : TR g (d + 1) (JN g l) = g (TR g d ((JN g l).take (p0 ((l.length + 1) / 2)))) (TR g d ((JN g l).drop (p0 ((l.length + 1) / 2)))) := by rw [TR, if_neg (by rw [hl]; omega), hl]
        rw [eR]
        rcases JN_td g (p0 ((l.length + 1) / 2)) l with ⟨t1, t2⟩ | t
        · rw [t1, t2, ← hp]
          rw [ih (l.take (p0 l.length)) (by rw [List.length_take]; omega), ih (l.drop (p0 l.length)) (by rw [List.length_drop]; omega)]
        · rw [← hp] at t; omega
