set_option maxRecDepth 100000
/-! ===== load, side by side ===== -/
def ldB (n : Nat) (aI : Int32) (σ : ms_T) : Option (Int32 × ms_T) :=
  ms_b (f_X12_clears n σ) fun σh7 => ms_l (ms_sI σh7 679 (0 : Int32)) fun σh8 => ms_b (f_X12_begins n σh8 aI) fun σh9 => ms_b (f_X12_isWord n σh9 (0 : Int32)) fun rh10 => if rh10 = 0 then f_X12_load_L97 n n σh9 else ms_b (f_X12_reads n σh9) fun σh26 => ms_c (f_X12_takesNumber n σh26 (101 : Int32) (65521 : Int32)) fun rh27 σh27 => ms_g (1 : Int32) 1980 <| ms_l (ms_sE σh27 40 ((1 : Int32)).toNatClampNeg rh27) fun σh29 => ms_b (f_X12_takesEnd n σh29) fun σh30 => f_X12_load_L97 n n σh30
theorem v_ld28 (n : Nat) (aI : Int32) (res : Int32 × ms_T) : ∀ (d k : Nat) (kI : Int32) (σ : ms_T), kI.toInt = (k : Int) → k ≤ 1980 → (∀ j, j < k → ms_E σ 41 j = ms_E σ 40 j) → f_X12_load_L28 n d σ aI kI = some res → ∃ σ', fr [] [41] σ σ' ∧ (∀ j, j < 1980 → ms_E σ' 41 j = ms_E σ' 40 j) ∧ ldB n aI σ' = some res := by
  intro d
  induction d with
  | zero => intro k kI σ _ _ _ e; unfold f_X12_load_L28 at e; cases e
  | succ d ih =>
    intro k kI σ hk hk2 h e
    have t1980 := t_1980
    unfold f_X12_load_L28 at e
    by_cases hc : (1980 : Int32) ≤ kI
    · rw [if_pos hc] at e
      rw [Int32.le_iff_toInt_le] at hc
      exact ⟨σ, fr_rf, fun j hj => h j (by omega), e⟩
    · rw [if_neg hc] at e
      rw [Int32.le_iff_toInt_le] at hc
      replace e := ms_gE e
      obtain ⟨-, e⟩ := e
      replace e := ms_gE e
      obtain ⟨-, e⟩ := e
      replace e := ms_lE rfl (ms_lE rfl e)
      have e2 : kI.toNatClampNeg = k := by show kI.toInt.toNat = _; rw [hk]; omega
      rw [e2] at e
      obtain ⟨σ', s1, s2, s3⟩ := ih (k + 1) _ _ (by rw [ii_add (by rw [lt1]; omega) (by rw [lt1]; omega), lt1, hk]; omega) (by omega) (fun j hj => by
        rw [mE_sE, mE_sE, if_neg (show ¬ (40 = 41 ∧ j = k) from fun h => absurd h.1 (by decide))]
        by_cases ej : j = k
        · rw [if_pos ⟨rfl, ej⟩, ej]
        · rw [if_neg (fun h => ej h.2)]; exact h j (by omega)) e
      exact ⟨σ', fr_tr (fr_sE (by decide)) s1, s2, s3⟩
theorem v_ld138 (n : Nat) (σ0 : ms_T) : ∀ (d k : Nat) (kI : Int32) (σ : ms_T), kI.toInt = (k : Int) → k ≤ 1980 → (∀ j, j < k → ms_E σ 40 j = ms_E σ0 41 j) → fr [] [40] σ0 σ → pr (f_X12_load_L138 n d σ kI) (fun res => res.1 = -1 ∧ (∀ j, j < 1980 → ms_E res.2 40 j = ms_E σ0 41 j) ∧ fr [] [40] σ0 res.2) := by
  intro d
  induction d with
  | zero => intros; exact pr_0
  | succ d ih =>
    intro k kI σ hk hk2 h hf
    have t1980 := t_1980
    unfold f_X12_load_L138
    refine pr_le (fun hc => pr_s ⟨rfl, fun j hj => h j (by omega), hf⟩) (fun hc => pr_g (fun _ _ => pr_g (fun _ _ => pr_l (pr_l ?_))))
    have e2 : kI.toNatClampNeg = k := by show kI.toInt.toNat = _; rw [hk]; omega
    rw [e2, hf.2 41 (by decide) k]
    refine ih (k + 1) _ _ (by rw [ii_add (by rw [lt1]; omega) (by rw [lt1]; omega), lt1, hk]; omega) (by omega) (fun j hj => ?_) (fr_tr hf (fr_sE (by decide)))
    rw [mE_sE]
    by_cases ej : j = k
    · rw [if_pos ⟨rfl, ej⟩, ej]
    · rw [if_neg (fun h => ej h.2)]; exact h j (by omega)
theorem v_ends (n : Nat) (σ : ms_T) : pr (f_X12_ends n σ) (fun τ => ms_I τ 667 = 0 ∧ ms_I τ 668 = ms_I σ 670 ∧ ms_I τ 669 = (if (ms_I σ 670).toInt ≤ 0 then -1 else ms_I σ 671) ∧ ms_I τ 652 = (if (ms_I σ 670).toInt ≤ 0 then 0 else 9) ∧ fr [667, 668, 669, 652] [] σ τ) := by
  have hJ : ∀ υ v, fr [667, 668] [] σ υ → ms_I υ 667 = 0 → ms_I υ 668 = ms_I σ 670 → v = (if (ms_I σ 670).toInt ≤ 0 then -1 else ms_I σ 671) → pr (f_X12_ends_J29 n υ v) (fun τ => ms_I τ 667 = 0 ∧ ms_I τ 668 = ms_I σ 670 ∧ ms_I τ 669 = (if (ms_I σ 670).toInt ≤ 0 then -1 else ms_I σ 671) ∧ ms_I τ 652 = (if (ms_I σ 670).toInt ≤ 0 then 0 else 9) ∧ fr [667, 668, 669, 652] [] σ τ) := by
    intro υ v hf h7 h8 hv
    unfold f_X12_ends_J29
    have h670 : ms_I (ms_sI υ 669 v) 670 = ms_I σ 670 := hf.1 670 (by decide)
    have hf2 : ∀ u : Int32, fr [667, 668, 669, 652] [] σ (ms_sI (ms_sI υ 669 v) 652 u) := fun u => fr_tr (fr_tr (fr_sb hf (by decide) (by decide)) (fr_sI (by decide))) (fr_sI (by decide))
    refine pr_l ?_
    rw [h670]
    refine pr_le (fun hc => pr_l (pr_s ⟨h7, h8, hv, ?_, hf2 0⟩)) (fun hc => pr_l (pr_s ⟨h7, h8, hv, ?_, hf2 9⟩))
    · rw [lt0] at hc
      rw [if_pos hc]; rfl
    · rw [lt0] at hc
      rw [if_neg (by omega)]; rfl
  unfold f_X12_ends
  refine pr_l (pr_l ?_)
  have h670 : ms_I (ms_sI (ms_sI σ 667 0) 668 (ms_I (ms_sI σ 667 0) 670)) 670 = ms_I σ 670 := rfl
  have hf : fr [667, 668] [] σ (ms_sI (ms_sI σ 667 0) 668 (ms_I (ms_sI σ 667 0) 670)) := fr_tr (fr_sI (by decide)) (fr_sI (by decide))
  rw [h670]
  refine pr_le (fun hc => hJ _ _ hf rfl rfl ?_) (fun hc => hJ _ _ hf rfl rfl ?_)
  · rw [lt0] at hc
    rw [if_pos hc]
  · rw [lt0] at hc
    rw [if_neg (by omega)]; rfl
theorem v_ld118 (n : Nat) (τ : ms_T) : pr (f_X12_load_J118 n τ) (fun res => (ms_I τ 670 = 0 → res.1 = ms_E τ 40 0 ∧ ms_E res.2 40 = ms_E τ 40 ∧ ms_I res.2 668 = 0 ∧ ms_I res.2 669 = -1 ∧ ms_I res.2 652 = 0) ∧ (0 < (ms_I τ 670).toInt → res.1 = -1 ∧ (∀ j, j < 1980 → ms_E res.2 40 j = ms_E τ 41 j) ∧ ms_I res.2 668 = ms_I τ 670 ∧ ms_I res.2 669 = ms_I τ 671 ∧ ms_I res.2 652 = 9) ∧ ms_I res.2 667 = 0 ∧ fr [667, 668, 669, 652] [40] τ res.2) := by
  unfold f_X12_load_J118
  refine pr_b (v_ends n τ) (fun υ hυ => ?_)
  obtain ⟨h7, h8, h9, h2, hf⟩ := hυ
  have e670 : ms_I υ 670 = ms_I τ 670 := hf.1 670 (by decide)
  rw [e670]
  refine pr_i (fun e => pr_g (fun _ _ => pr_s ⟨fun _ => ⟨?_, ?_, by rw [h8]; exact e, ?_, ?_⟩, fun h => ?_, h7, fr_sb hf (by decide) (by decide)⟩)) (fun e => ?_)
  · exact hf.2 40 (by decide) 0
  · funext j; exact hf.2 40 (by decide) j
  · show ms_I υ 669 = -1
    rw [h9, if_pos (by rw [e]; decide)]
  · show ms_I υ 652 = 0
    rw [h2, if_pos (by rw [e]; decide)]
  · rw [e, lt0] at h; omega
  · refine pr_m (v_ld138 n υ n 0 0 υ (by decide) (by omega) (fun j hj => by omega) fr_rf) (fun res hr => ?_)
    obtain ⟨r1, r2, r3⟩ := hr
    refine ⟨fun h => absurd h e, fun h => ⟨r1, fun j hj => by rw [r2 j hj]; exact hf.2 41 (by decide) j, by rw [r3.1 668 (by decide)]; exact h8, ?_, ?_⟩, by rw [r3.1 667 (by decide)]; exact h7, fr_tr (fr_sb hf (by decide) (by decide)) (fr_sb r3 (by decide) (by decide))⟩
    · rw [r3.1 669 (by decide), h9, if_neg (by omega)]
    · rw [r3.1 652 (by decide), h2, if_neg (by omega)]
def XSH (α : hp_T) (x : Nat) : Prop := hp_R α 603 x = x + 919 ∧ hp_R α 300 (x + 919) = x + 920 ∧ hp_R α 604 x = x + 921 ∧ hp_K α (x + 921) = 24 ∧ hp_R α 616 x = x + 944 ∧ RS α (x + 944)
def TPX (α : hp_T) (x : Nat) (σ : ms_T) : Prop := hp_I α 605 x = ms_I σ 667 ∧ ∀ j : Nat, (j : Int) < (ms_I σ 667).toInt → hp_E α 24 (x + 921) j = ms_E σ 47 j
def FLX (α : hp_T) (x : Nat) (σ : ms_T) : Prop := hp_I α 204 (x + 944) = ms_I σ 668 ∧ hp_I α 205 (x + 944) = ms_I σ 669
def pdl (f : Nat → Int32) : List Int32 := (List.range (f 2).toInt.toNat).map (fun k => f (8 + k))
def LXW (α : hp_T) (x : Nat) (σ : ms_T) : Prop := XSH α x ∧ RWX α x (ms_E σ 40) ∧ AL01 (ms_E σ 40) ∧ TPX α x σ ∧ (flP → FLX α x σ) ∧ (pdP → RWL α (x + 919) (pdl (ms_E σ 40)))
def ldf (x : Nat) (α β : hp_T) : Prop := (∀ φ b, ¬ (b = x ∧ (φ = 601 ∨ φ = 602)) → ¬ (b = x + 945 ∧ φ = 350) → hp_R β φ b = hp_R α φ b) ∧ hp_K β = hp_K α ∧ hp_Q β = hp_Q α ∧ hp_N β = hp_N α ∧ (∀ φ b, b < x ∨ x + 919 < b → b < x + 944 ∨ x + 955 ≤ b → hp_I β φ b = hp_I α φ b) ∧ (∀ φ, φ ≠ 600 → φ ≠ 605 → hp_I β φ x = hp_I α φ x) ∧ ∀ κ b j, b ≤ x ∨ x + 919 ≤ b → b < x + 944 ∨ x + 955 ≤ b → b ≠ x + 920 → hp_E β κ b j = hp_E α κ b j
theorem pdl_cg {f g : Nat → Int32} (h : rC f) (e : ∀ j, j < 1980 → g j = f j) : pdl g = pdl f := by
  unfold pdl
  have := h.2.2.1
  rw [e 2 (by omega)]
  refine List.map_congr_left (fun k hk => ?_)
  rw [List.mem_range] at hk
  exact e _ (by omega)
theorem nwM_rC {g : Nat → Int32} (h0 : g 0 = 1) (h1 : 101 ≤ (g 1).toInt ∧ (g 1).toInt ≤ 65521) (h2 : ∀ j, 2 ≤ j → j < 1980 → g j = 0) : rC g := by
  have z : ∀ j, 2 ≤ j → j < 1980 → (g j).toInt = 0 := fun j a b => by rw [h2 j a b]; decide
  refine ⟨by rw [h0]; decide, h1, by rw [z 2 (by omega) (by omega)]; omega, by rw [z 3 (by omega) (by omega)]; omega, fun r hr => by rw [z _ (by omega) (by omega)]; omega, fun r hr => by rw [z _ (by omega) (by omega)]; omega, fun r hr => by rw [z _ (by omega) (by omega)]; omega, fun r hr => by rw [z _ (by omega) (by omega)]; omega, fun r hr => by rw [z _ (by omega) (by omega)]; omega⟩
theorem k_rshort0 (n : Nat) (α : hp_T) (a : Nat) : ws (f_X5_shorten n α a 0) (fun β => (∀ l, RWL α a l → RWL β a []) ∧ ef a α β) := by
  unfold f_X5_shorten
  refine ws_lt (fun e => absurd e (by decide)) (fun _ => ws_l (ws_le (fun e => ws_s ⟨fun l h => ?_, ef_rf⟩) (fun e => ws_l (ws_s ⟨fun l _ => ⟨by decide, ?_, fun k hk => absurd hk (by simp)⟩, ef_sI⟩))))
  · rw [lt0] at e
    have h2 := h.2.1
    have : l = [] := List.length_eq_zero_iff.mp (by omega)
    rw [this] at h; exact h
  · rw [hI_sI, if_pos ⟨rfl, rfl⟩]; rfl
/-! ===== the call load ===== -/
/-- the modulus of a new world -/
theorem WR_mod {α : hp_T} {w : Nat} {g : Nat → Int32} (hS : ∀ g, nwF g → WR α w g) (m : Int32) (h0 : g 0 = 1) (h1 : g 1 = m) (h2 : ∀ j, 2 ≤ j → j < 1980 → g j = 0) : WR (hp_sI α 550 w m) w g := by
  have hn : nwF (fun j => if j = 1 then 65521 else g j) := ⟨by simp [h0], by simp, fun j a b => by show (if j = 1 then 65521 else g j) = 0; rw [if_neg (by omega)]; exact h2 j a b⟩
  obtain ⟨a1, a2, a3, a4, a5, a6⟩ := hS _ hn
  have hx : ∀ φ b, φ ≠ 550 → hp_I (hp_sI α 550 w m) φ b = hp_I α φ b := fun φ b hφ => by rw [hI_sI, if_neg (fun h => hφ h.1)]
  refine ⟨a1, ⟨by rw [hI_sI, if_pos ⟨rfl, rfl⟩, h1], ?_, ?_, ?_⟩, fun r hr => ?_, fun i hi => ?_, fun i hi => ?_, fun i hi => by rw [hx 301 _ (by decide)]; exact a6 i hi⟩
  · rw [hx 552 w (by decide)]; exact a2.2.1
  · rw [hx 554 w (by decide)]; exact a2.2.2.1
  · rw [hx 556 w (by decide)]; exact a2.2.2.2
  · have hr1 : r = 0 := by
      rw [h0] at hr
      have h9 : ((1 : Int32).toInt).toNat = 1 := by decide
      rw [h9] at hr
      omega
    subst hr1
    have := a3 0 (by show 0 < (g 0).toInt.toNat; rw [h0]; decide)
    refine ⟨by rw [hx 152 _ (by decide)]; exact this.1, fun i hi => ?_⟩
    rw [h2 (72 + 0) (by omega) (by omega), lt0] at hi
    exact absurd hi (by simp)
  · rw [h2 3 (by omega) (by omega), lt0] at hi
    exact absurd hi (by simp)
  · obtain ⟨b1, b2, b3, b4⟩ := a5 i hi
    simp only [if_neg (show ¬ 76 + 4 * i = 1 by omega), if_neg (show ¬ 77 + 4 * i = 1 by omega), if_neg (show ¬ 78 + 4 * i = 1 by omega), if_neg (show ¬ 79 + 4 * i = 1 by omega)] at b1 b2 b3 b4
    exact ⟨by rw [hx 400 _ (by decide)]; exact b1, by rw [hx 401 _ (by decide)]; exact b2, by rw [hx 403 _ (by decide)]; exact b3, by rw [hx 402 _ (by decide)]; exact b4⟩
def ldw : List Nat := [652, 653, 657, 658, 659, 660, 665, 667, 668, 669, 670, 671, 672, 673, 674, 675, 676, 679]
theorem r_load (n : Nat) (hn : 70000 ≤ n) (α : hp_T) (x : Nat) (σ : ms_T) (hR : RI σ) (h : LXW α x σ) (a : Int32) (res : Int32 × ms_T) (e : f_X12_load n σ a = some res) :
    ws (f_X11_load n α x a) (fun r => r.1 = res.1 ∧ LXW r.2 x res.2 ∧ ldf x α r.2 ∧ fr ldw [40, 41, 42, 43, 44, 46] σ res.2) := by
  obtain ⟨⟨s1, s2, s3, s4, s5, s6⟩, hRW, hA, ⟨tp1, tp2⟩, hFL, hP⟩ := id h
  have hC := hR.2
  have h667 := hR.1.2.1
  unfold f_X12_load at e
  replace e := ms_bE e
  obtain ⟨x1, ex1, e⟩ := e
  have hin := v_isIn n a 0 (ms_I σ 667) x1 ex1
  rw [lt0] at hin
  have hsI : ∀ v : Int32, ldf x α (hp_sI α 600 x v) := fun v => ⟨fun _ _ _ _ => rfl, rfl, rfl, rfl, fun φ b hb _ => by rw [hI_sI, if_neg (fun h => by omega)], fun φ h1 _ => by rw [hI_sI, if_neg (fun h => h1 h.1)], fun _ _ _ _ _ _ => rfl⟩
  have hrefuse : ¬ (0 ≤ a.toInt ∧ a.toInt ≤ (ms_I σ 667).toInt) → ws (f_X11_load_J12 n x α) (fun r => r.1 = res.1 ∧ LXW r.2 x res.2 ∧ ldf x α r.2 ∧ fr ldw [40, 41, 42, 43, 44, 46] σ res.2) := by
    intro hno
    have hx1 : x1 = 0 := by
      rcases hin with ⟨-, g⟩ | ⟨g, -⟩
      · exact absurd g hno
      · exact g
    rw [if_pos hx1] at e
    unfold f_X12_load_J18 at e
    have he := v_is1 n σ 1 (by decide) (k := fun τ => some ((-1 : Int32), τ)) (l := fun τ => f_X12_load_L28 n n τ a 0) (P := fun r => r = (-1, ms_sI (ms_sI σ 653 0) 652 1)) (pr_s rfl) res e
    subst he
    unfold f_X11_load_J12
    refine ws_hc (k_refuse n α x 1) (fun v β hv => ws_s ?_)
    obtain ⟨rfl, hβ⟩ := hv
    dsimp only at hβ
    subst hβ
    exact ⟨rfl, ⟨⟨s1, s2, s3, s4, s5, s6⟩, RWX_st hC hRW 1, hA, ⟨tp1, tp2⟩, fun p => ⟨(hFL p).1, (hFL p).2⟩, fun p => hP p⟩, hsI 1, fr_tr (fr_sI (by decide)) (fr_sI (by decide))⟩
  unfold f_X11_load
  refine ws_lt (fun hneg => hrefuse (by rw [lt0] at hneg; omega)) (fun hpos => ws_l ?_)
  rw [lt0] at hpos
  rw [tp1]
  refine ws_le (fun hle => ?_) (fun hgt => hrefuse (by omega))
  have hx1 : x1 = 1 := by
    rcases hin with ⟨g, -⟩ | ⟨-, g⟩
    · exact g
    · exact absurd ⟨by omega, hle⟩ g
  rw [if_neg (by rw [hx1]; decide)] at e
  unfold f_X12_load_J18 at e
  replace e := v_is0 n σ (k := fun τ => some ((-1 : Int32), τ)) (l := fun τ => f_X12_load_L28 n n τ a 0) (P := fun r => f_X12_load_L28 n n (ms_sI (ms_sI σ 653 0) 652 0) a 0 = some r) (fun r hr => hr) res e
  obtain ⟨σ1, f1, sv, e⟩ := v_ld28 n a res n 0 0 _ (by decide) (by omega) (fun j hj => by omega) e
  unfold ldB at e
  replace e := ms_bE e
  obtain ⟨σ2, ec, e⟩ := e
  obtain ⟨τc, ec', hcl⟩ := s_clears n (by omega) σ1
  have : τc = σ2 := by rw [ec] at ec'; cases ec'; rfl
  subst this
  obtain ⟨c1, c2, c3, c4, c5⟩ := hcl
  replace e := ms_lE rfl e
  replace e := ms_bE e
  obtain ⟨σ3, eb, e⟩ := e
  obtain ⟨w, u, h1, h2, h3, h4, h5, h6, h7, h8⟩ := id hRW
  refine ws_l ?_
  rw [h2]
  refine ws_b (k_renew n hn α u h6 h8) (fun β hβ => ?_)
  obtain ⟨b1, b2, b3⟩ := hβ
  have hSβ : RS β (x + 944) := RS_R s6 b2.1
  obtain ⟨t, ht⟩ : ∃ t : Nat → Int32, t = fun j => ms_E σ 47 j := ⟨_, rfl⟩
  obtain ⟨N, hNN⟩ : ∃ N : Nat, a.toInt = (N : Int) := ⟨a.toInt.toNat, by omega⟩
  -- the class reads
  have t1 : ∀ j, j < N → hp_E β 24 (x + 921) j = t j := fun j hj => by
    rw [b2.2.2.2.2.2 24 (x + 921) j (by omega), ht]
    exact tp2 j (by omega)
  have t2 : ∀ j, j < N → ms_E (ms_sI τc 679 0) 47 j = t j := fun j hj => by
    rw [mE_sI, c2 47 j (by decide), f1.2 47 (by decide) j, ht]; rfl
  have z40 : ms_E σ3 40 0 = 1 ∧ ms_E σ3 40 1 = 65521 ∧ ∀ j, 2 ≤ j → j < 1980 → ms_E σ3 40 j = 0 := by
    obtain ⟨υ, eυ, hυ⟩ := s_begins n hn (σ := ms_sI τc 679 0) a (by omega) (by omega)
    have : υ = σ3 := by rw [eb] at eυ; cases eυ; rfl
    subst this
    have hz := hυ.1.2 40 (by decide)
    exact ⟨by rw [hz]; exact c3, by rw [hz]; exact c4, fun j q r => by rw [hz]; exact c5 j q r⟩
  have hread : ws (f_X11_loadLines n β x a) (fun r => ∃ τ, fr FW [40, 42, 43, 44, 46] σ3 τ ∧ f_X12_load_J118 n τ = some res ∧ ((∀ φ b, ¬ (b = x + 945 ∧ φ = 350) → hp_R r.2 φ b = hp_R β φ b) ∧ hp_K r.2 = hp_K β ∧ hp_Q r.2 = hp_Q β ∧ hp_N r.2 = hp_N β ∧ (∀ φ b, b < u ∨ u + 459 ≤ b → b < x + 944 ∨ x + 955 ≤ b → hp_I r.2 φ b = hp_I β φ b) ∧ ∀ κ b j, b < u ∨ u + 459 ≤ b → b < x + 944 ∨ x + 955 ≤ b → hp_E r.2 κ b j = hp_E β κ b j) ∧ ((r.1 = 0 ∧ BAD r.2 (x + 944) τ ∧ UOK r.2 u) ∨ (r.1 = 1 ∧ ms_I τ 670 = 0 ∧ (WR r.2 u (ms_E τ 40) ∧ rC (ms_E τ 40) ∧ AL01 (ms_E τ 40) ∧ rG r.2 u) ∧ hp_I r.2 204 (x + 944) = 0 ∧ hp_I r.2 205 (x + 944) = -1 ∧ ms_E τ 40 2 = 0))) := by
    unfold f_X11_loadLines
    refine ws_l (ws_l ?_)
    have e616 : hp_R β 616 x = x + 944 := by rw [b2.1]; exact s5
    have e604 : hp_R β 604 x = x + 921 := by rw [b2.1]; exact s3
    have e602 : hp_R β 602 x = u := by rw [b2.1]; exact h2
    rw [e616, e604]
    refine ws_b (r_begin n hn (t := t) (N := N) hSβ.1 (by rw [b2.2.1]; exact s4) (by omega) a hNN t1) (fun γ hγ => ?_)
    obtain ⟨g1, g2, g3, gR, gR2, gK, gQ, gN, gI, gE⟩ := hγ
    obtain ⟨hT, hfb⟩ := g1 (ms_sI τc 679 0) σ3 t2 eb
    have hSγ : RS γ (x + 944) := by
      refine ⟨?_, ?_, ?_⟩
      · rw [gR 200 _ (fun h => absurd h.1 (by decide))]; exact hSβ.1
      · rw [gR 207 _ (fun h => absurd h.1 (by decide))]; exact hSβ.2.1
      · rw [gR 500 _ (fun h => absurd h.1 (by decide))]; exact hSβ.2.2
    have k616 : hp_R γ 616 x = x + 944 := by rw [gR 616 _ (fun h => absurd h.1 (by decide))]; exact e616
    have k602 : hp_R γ 602 x = u := by rw [gR 602 _ (fun h => absurd h.1 (by decide))]; exact e602
    refine ws_l (ws_l ?_)
    rw [k616, k602]
    have hWγ : ∀ g, nwF g → WR γ u g := fun g hg => WR_x (b1 g hg) (nwM_rC hg.1 (by rw [hg.2.1]; decide) hg.2.2) (fun φ b _ hb => gR φ b (by omega)) gQ (fun φ b _ hb => gI φ b (by omega)) (fun κ b j _ _ => gE κ b j)
    have hnw : nwF (ms_E σ3 40) := z40
    have h679 : ms_I σ3 679 = 0 := by rw [hfb.1 679 (by decide), mI_sI, if_pos rfl]
    have hGγ : rG γ u := by unfold rG; rw [gI 301 (u + 5) (by omega), b3]; exact h7
    refine ws_hc (r_modulus n hn hSγ hT (w := u) ⟨by omega, by omega⟩ res e) (fun v δ hδ => ?_)
    obtain ⟨τ, eτ, fτ, n679, hc⟩ := hδ
    rcases hc with ⟨hv, hF, hB⟩ | ⟨hv, hKF, ⟨q', hT'⟩, hm⟩
    · refine ws_i (fun _ => ws_s ⟨τ, fr_sb fτ (by decide) (by decide), ?_, ⟨fun φ b hb => ?_, by rw [hF.2.1]; exact gK, by rw [hF.2.2.1]; exact gQ, by rw [hF.2.2.2.1]; exact gN, fun φ b _ hb => ?_, fun κ b j _ hb => ?_⟩, Or.inl ⟨rfl, hB, ?_⟩⟩) (fun h => absurd hv h)
      · cases n with
        | zero => omega
        | succ n =>
          unfold f_X12_load_L97 at eτ
          rw [if_neg (BAD_p hB)] at eτ
          exact eτ
      · show hp_R δ φ b = _
        rw [hF.1]; exact gR φ b (fun h => hb ⟨h.2, h.1⟩)
      · show hp_I δ φ b = _
        rw [hF.2.2.2.2.1 φ b hb]; exact gI φ b hb
      · show hp_E δ κ b j = _
        rw [hF.2.2.2.2.2 κ b j hb]; exact gE κ b j
      · have hW0 := hWγ _ hnw
        have hC0 : rC (ms_E σ3 40) := nwM_rC hnw.1 (by rw [hnw.2.1]; decide) hnw.2.2
        have hW1 : WR δ u (ms_E σ3 40) := WR_rfr hW0 hC0 (by omega) hF
        exact ⟨hW1.1, by unfold rG; rw [hF.2.2.2.2.1 301 (u + 5) (by omega)]; exact hGγ, hW1.2.2.2.2.2⟩
    · refine ws_i (fun h => absurd (hv.symm.trans h) (by decide)) (fun _ => ?_)
      -- the new world, with its modulus
      have hnew : (WR δ u (ms_E τ 40) ∧ rC (ms_E τ 40) ∧ AL01 (ms_E τ 40) ∧ rG δ u) ∧ ms_E τ 40 0 = 1 ∧ ms_E τ 40 2 = 0 ∧ (hp_R δ = hp_R γ ∧ hp_K δ = hp_K γ ∧ hp_Q δ = hp_Q γ ∧ hp_N δ = hp_N γ ∧ (∀ φ b, b < u ∨ u + 459 ≤ b → b < x + 944 ∨ x + 955 ≤ b → hp_I δ φ b = hp_I γ φ b) ∧ ∀ κ b j, b < u ∨ u + 459 ≤ b → b < x + 944 ∨ x + 955 ≤ b → hp_E δ κ b j = hp_E γ κ b j) := by
        rcases hm with ⟨rfl, rfl⟩ | ⟨m, hm, hF, m1, m2⟩
        · refine ⟨⟨hWγ _ hnw, nwM_rC hnw.1 (by rw [hnw.2.1]; decide) hnw.2.2, ⟨fun v hv => Or.inl (hnw.2.2 _ (by omega) (by omega)), fun i hi => by rw [hnw.2.2 3 (by omega) (by omega), lt0] at hi; omega⟩, hGγ⟩, hnw.1, hnw.2.2 2 (by omega) (by omega), rfl, rfl, rfl, rfl, fun _ _ _ _ => rfl, fun _ _ _ _ _ => rfl⟩
        · have m0 : ms_E τ 40 0 = 1 := by rw [m2 0 (by omega)]; exact hnw.1
          have m3 : ∀ j, 2 ≤ j → j < 1980 → ms_E τ 40 j = 0 := fun j p q => by rw [m2 j (by omega)]; exact hnw.2.2 j p q
          have hCm : rC (ms_E τ 40) := nwM_rC m0 (by rw [m1]; exact hm) m3
          refine ⟨⟨WR_rfr (WR_mod hWγ m m0 m1 m3) hCm (by omega) hF, hCm, ⟨fun v hv => Or.inl (m3 _ (by omega) (by omega)), fun i hi => by rw [m3 3 (by omega) (by omega), lt0] at hi; omega⟩, ?_⟩, m0, m3 2 (by omega) (by omega), hF.1, hF.2.1, hF.2.2.1, hF.2.2.2.1, fun φ b hb1 hb2 => ?_, fun κ b j _ hb2 => hF.2.2.2.2.2 κ b j hb2⟩
          · unfold rG
            rw [hF.2.2.2.2.1 301 (u + 5) (by omega), hI_sI, if_neg (fun h => absurd h.1 (by decide))]
            exact hGγ
          · rw [hF.2.2.2.2.1 φ b hb2, hI_sI, if_neg (fun h => by omega)]
      obtain ⟨⟨w1, w2, w3, w4⟩, y0, y2, dR, dK, dQ, dN, dI, dE⟩ := hnew
      have hT0 : ms_I τ 679 = 0 := n679.trans h679
      have hLDI : LDI x u (x + 944) t N δ τ 0 q' := ⟨⟨RS_R hSγ dR, by rw [dR]; exact k616, by rw [dR]; exact k602, by omega, by rw [dR]; have : hp_R γ 350 (x + 944 + 1) = x + 921 := gR2; omega⟩, hT', ⟨w1, w2, w3, w4⟩, by rw [y0]; decide, by rw [hT0]; decide⟩
      have hlp := r_loop n hn x u (x + 944) t N res n δ τ 0 q' 0 0 n hLDI (by decide) (by omega) (by omega) eτ
      rw [hT0] at hlp
      refine ws_m hlp (fun r hr => ?_)
      obtain ⟨⟨lR, lK, lQ, lN, lI, lE⟩, τ2, fτ2, eτ2, hc⟩ := hr
      refine ⟨τ2, fr_tr (fr_sb fτ (by decide) (by decide)) (fr_sb fτ2 (by decide) (by decide)), eτ2, ⟨fun φ b hb => ?_, by rw [lK, dK]; exact gK, by rw [lQ, dQ]; exact gQ, by rw [lN, dN]; exact gN, fun φ b hb1 hb2 => ?_, fun κ b j hb1 hb2 => ?_⟩, ?_⟩
      · rw [lR, dR]; exact gR φ b (fun h => hb ⟨h.2, h.1⟩)
      · rw [lI φ b hb1 hb2, dI φ b hb1 hb2]; exact gI φ b hb2
      · rw [lE κ b j hb1 hb2, dE κ b j hb1 hb2]; exact gE κ b j
      · rcases hc with hc | ⟨z1, z2, z3, z4, z5⟩
        · exact Or.inl hc
        · exact Or.inr ⟨z1, z2, z3, by rw [z4.1, hKF.1]; exact g2, by rw [z4.2, hKF.2]; exact g3, z5.trans y2⟩
  -- what reading leaves of the rest
  have fσ3 : fr [652, 653, 670, 672, 673, 674, 675, 676, 679] [40, 41] σ σ3 := by
    obtain ⟨υ, eυ, hυ⟩ := s_begins n hn (σ := ms_sI τc 679 0) a (by omega) (by omega)
    have : υ = σ3 := by rw [eb] at eυ; cases eυ; rfl
    subst this
    have k1 : fr [652, 653, 670, 672, 673, 674, 675, 676, 679] [40, 41] σ σ1 := fr_tr (fr_tr (fr_sI (by decide)) (fr_sI (by decide))) (fr_sb f1 (by decide) (by decide))
    have k2 : fr [652, 653, 670, 672, 673, 674, 675, 676, 679] [40, 41] σ1 τc := ⟨fun φ _ => c1 φ, fun κ hκ j => c2 κ j (fun h => hκ (by rw [h]; decide))⟩
    exact fr_tr (fr_tr (fr_tr k1 k2) (fr_sI (by decide))) (fr_sb hυ.1 (by decide) (by decide))
  have f41 : ∀ j, j < 1980 → ms_E σ3 41 j = ms_E σ 40 j := fun j hj => by
    obtain ⟨υ, eυ, hυ⟩ := s_begins n hn (σ := ms_sI τc 679 0) a (by omega) (by omega)
    have : υ = σ3 := by rw [eb] at eυ; cases eυ; rfl
    subst this
    rw [hυ.1.2 41 (by decide) j, mE_sI, c2 41 j (by decide), sv j hj, f1.2 40 (by decide) j]; rfl
  refine ws_hc hread (fun v γ hγ => ws_l ?_)
  obtain ⟨τ, fτ, eτ, ⟨gR, gK, gQ, gN, gI, gE⟩, hc⟩ := hγ
  replace gR : ∀ φ b, ¬ (b = x + 945 ∧ φ = 350) → hp_R γ φ b = hp_R β φ b := gR
  replace gI : ∀ φ b, b < u ∨ u + 459 ≤ b → b < x + 944 ∨ x + 955 ≤ b → hp_I γ φ b = hp_I β φ b := gI
  replace gE : ∀ κ b j, b < u ∨ u + 459 ≤ b → b < x + 944 ∨ x + 955 ≤ b → hp_E γ κ b j = hp_E β κ b j := gE
  obtain ⟨r1, r2, r3, r4⟩ := v_ld118 n τ res eτ
  have hfr : fr ldw [40, 41, 42, 43, 44, 46] σ res.2 := fr_tr (fr_tr (fr_sb fσ3 (by decide) (by decide)) (fr_sb fτ (by decide) (by decide))) (fr_sb r4 (by decide) (by decide))
  -- the old world, as it was
  have hWw : WR γ w (ms_E σ 40) := WR_x h4 hC (fun φ b p q => by rw [gR φ b (by omega), b2.1]) (gQ.trans b2.2.2.1) (fun φ b p q => by rw [gI φ b (by omega) (by omega)]; exact b2.2.2.2.2.1 φ b (by omega)) (fun κ b j p q => by rw [gE κ b j (by omega) (by omega)]; exact b2.2.2.2.2.2 κ b j (by omega))
  have hGw : rG γ w := by unfold rG; rw [gI 301 (w + 5) (by omega) (by omega), b2.2.2.2.2.1 301 (w + 5) (by omega)]; exact h5
  have gRx : ∀ φ b, ¬ (b = x + 945 ∧ φ = 350) → hp_R γ φ b = hp_R α φ b := fun φ b hb => by rw [gR φ b hb, b2.1]
  have gIx : ∀ φ b, b < u ∨ u + 459 ≤ b → b < x + 944 ∨ x + 955 ≤ b → hp_I γ φ b = hp_I α φ b := fun φ b p q => by rw [gI φ b p q]; exact b2.2.2.2.2.1 φ b p
  have gEx : ∀ κ b j, b < u ∨ u + 459 ≤ b → b < x + 944 ∨ x + 955 ≤ b → hp_E γ κ b j = hp_E α κ b j := fun κ b j p q => by rw [gE κ b j p q]; exact b2.2.2.2.2.2 κ b j p
  have gKx : hp_K γ = hp_K α := gK.trans b2.2.1
  have hXS : XSH γ x := by
    refine ⟨by rw [gRx 603 x (by omega)]; exact s1, by rw [gRx 300 _ (by omega)]; exact s2, by rw [gRx 604 x (by omega)]; exact s3, by rw [gKx]; exact s4, by rw [gRx 616 x (by omega)]; exact s5, ?_⟩
    exact ⟨by rw [gRx 200 _ (by omega)]; exact s6.1, by rw [gRx 207 _ (by omega)]; exact s6.2.1, by rw [gRx 500 _ (by omega)]; exact s6.2.2⟩
  rcases hc with ⟨hv, hB, hU⟩ | ⟨hv, h0, ⟨w1, w2, w3, w4⟩, y1, y2, y3⟩
  · replace hv : v = 0 := hv
    replace hB : BAD γ (x + 944) τ := hB
    replace hU : UOK γ u := hU
    subst hv
    refine ws_i (fun _ => ?_) (fun h => absurd rfl h)
    refine ws_hc (k_refuse n _ x 9) (fun v2 δ hδ => ws_s ?_)
    obtain ⟨hv2, hδ⟩ := hδ
    replace hδ : δ = hp_sI (hp_sI γ 605 x 0) 600 x 9 := hδ
    obtain ⟨p1, p2, p3, p4, p5⟩ := r2 hB.1
    have hcg : ∀ j, j < 1980 → ms_E res.2 40 j = ms_E σ 40 j := fun j hj => by rw [p2 j hj, fτ.2 41 (by decide) j]; exact f41 j hj
    have dI : ∀ φ b, hp_I δ φ b = if φ = 600 ∧ b = x then 9 else if φ = 605 ∧ b = x then 0 else hp_I γ φ b := fun φ b => by rw [hδ]; rfl
    have dIn : ∀ φ b, b ≠ x → hp_I δ φ b = hp_I γ φ b := fun φ b hb => by rw [dI, if_neg (fun h => hb h.2), if_neg (fun h => hb h.2)]
    have dR : hp_R δ = hp_R γ := by rw [hδ]; rfl
    have dQ : hp_Q δ = hp_Q γ := by rw [hδ]; rfl
    have dE : hp_E δ = hp_E γ := by rw [hδ]; rfl
    have dK : hp_K δ = hp_K γ := by rw [hδ]; rfl
    have dN : hp_N δ = hp_N γ := by rw [hδ]; rfl
    have hWδ : WR δ w (ms_E res.2 40) := WR_cg (WR_x hWw hC (fun _ _ _ _ => by rw [dR]) dQ (fun φ b p q => dIn φ b (by omega)) (fun κ b j _ _ => by rw [dE])) hC hcg
    refine ⟨hv2.trans p1.symm, ⟨?_, ⟨w, u, by rw [dR, gRx 601 x (by omega)]; exact h1, by rw [dR, gRx 602 x (by omega)]; exact h2, h3, hWδ, ?_, ?_, ?_, ?_⟩, AL_eq hC hA (hcg 0 (by omega)) (hcg 3 (by omega)) (fun j _ q => hcg j (by omega)), ⟨?_, fun j hj => ?_⟩, fun _ => ⟨?_, ?_⟩, fun hp => ?_⟩, ?_, hfr⟩
    · obtain ⟨z1, z2, z3, z4, z5, z6⟩ := hXS
      exact ⟨by rw [dR]; exact z1, by rw [dR]; exact z2, by rw [dR]; exact z3, by rw [dK]; exact z4, by rw [dR]; exact z5, RS_R z6 dR⟩
    · unfold rG; rw [dIn _ _ (by omega)]; exact hGw
    · exact SHW_x hU.1 (fun _ _ _ _ => by rw [dR]) dQ
    · unfold rG; rw [dIn _ _ (by omega)]; exact hU.2.1
    · intro i hi; rw [dIn _ _ (by unfold fzA; omega)]; exact hU.2.2 i hi
    · rw [dI, if_neg (fun h => absurd h.1 (by decide)), if_pos ⟨rfl, rfl⟩]; exact r3.symm
    · have hj' : (j : Int) < (ms_I res.2 667).toInt := hj
      rw [r3, lt0] at hj'
      omega
    · rw [dIn _ _ (by omega), p3]; exact hB.2.1
    · rw [dIn _ _ (by omega), p4]; exact hB.2.2
    · rw [pdl_cg hC hcg]
      exact ⟨(hP hp).1, by rw [dIn _ _ (by omega), gIx _ _ (by omega) (by omega)]; exact (hP hp).2.1, fun k hk => by rw [dR, dE, gRx 300 _ (by omega), s2, gEx 20 _ _ (by omega) (by omega), ← s2]; exact (hP hp).2.2 k hk⟩
    · exact ⟨fun φ b _ hb => by rw [dR]; exact gRx φ b hb, dK.trans gKx, dQ.trans (gQ.trans b2.2.2.1), dN.trans (gN.trans b2.2.2.2.1), fun φ b p q => by rw [dIn φ b (by omega)]; exact gIx φ b (by omega) q, fun φ p q => by rw [dI, if_neg (fun h => p h.1), if_neg (fun h => q h.1)]; exact gIx φ x (by omega) (by omega), fun κ b j p q _ => by rw [dE]; exact gEx κ b j (by omega) q⟩
  · replace hv : v = 1 := hv
    replace w1 : WR γ u (ms_E τ 40) := w1
    replace w4 : rG γ u := w4
    replace y1 : hp_I γ 204 (x + 944) = 0 := y1
    replace y2 : hp_I γ 205 (x + 944) = -1 := y2
    subst hv
    refine ws_i (fun h => absurd h (by decide)) (fun _ => ws_l (ws_l (ws_l (ws_l (ws_l ?_)))))
    obtain ⟨p1, p2, p3, p4, p5⟩ := r1 h0
    have q601 : hp_R (hp_sI γ 605 x 0) 601 x = w := by show hp_R γ 601 x = w; rw [gRx 601 x (by omega)]; exact h1
    have q602 : hp_R (hp_sI γ 605 x 0) 602 x = u := by show hp_R γ 602 x = u; rw [gRx 602 x (by omega)]; exact h2
    rw [q601, q602]
    obtain ⟨ε, hε⟩ : ∃ ε, ε = hp_sR (hp_sR (hp_sI γ 605 x 0) 601 x u) 602 x w := ⟨_, rfl⟩
    rw [← hε]
    have eI : ∀ φ b, hp_I ε φ b = if φ = 605 ∧ b = x then 0 else hp_I γ φ b := fun φ b => by rw [hε]; rfl
    have eR : ∀ φ b, hp_R ε φ b = if φ = 602 ∧ b = x then w else if φ = 601 ∧ b = x then u else hp_R γ φ b := fun φ b => by rw [hε]; rw [hR_sR, hR_sR]; rfl
    have eRn : ∀ φ b, ¬ (b = x ∧ (φ = 601 ∨ φ = 602)) → hp_R ε φ b = hp_R γ φ b := fun φ b hb => by rw [eR, if_neg (fun h => hb ⟨h.2, Or.inr h.1⟩), if_neg (fun h => hb ⟨h.2, Or.inl h.1⟩)]
    have eE : hp_E ε = hp_E γ := by rw [hε]; rfl
    have eQ : hp_Q ε = hp_Q γ := by rw [hε]; rfl
    have eK : hp_K ε = hp_K γ := by rw [hε]; rfl
    have eN : hp_N ε = hp_N γ := by rw [hε]; rfl
    have e603 : hp_R ε 603 x = x + 919 := by rw [eRn _ _ (by omega)]; exact hXS.1
    rw [e603]
    have hPε : pdP → RWL ε (x + 919) (pdl (ms_E σ 40)) := fun hp => ⟨(hP hp).1, by rw [eI, if_neg (fun h => absurd h.1 (by decide)), gIx _ _ (by omega) (by omega)]; exact (hP hp).2.1, fun k hk => by rw [eRn _ _ (by omega), eE, gRx 300 _ (by omega), s2, gEx 20 _ _ (by omega) (by omega), ← s2]; exact (hP hp).2.2 k hk⟩
    refine ws_b (k_rshort0 n ε (x + 919)) (fun ζ hζ => ws_l (ws_l ?_))
    obtain ⟨hPζ, ef1⟩ := hζ
    obtain ⟨zR, zK, zQ, zN, zI, zE⟩ := ef1
    have z601 : hp_R ζ 601 x = u := by rw [zR, eR, if_neg (fun h => absurd h.1 (by decide)), if_pos ⟨rfl, rfl⟩]
    rw [z601]
    refine ws_hc (k_answer n ζ x _) (fun v2 δ hδ => ws_s ?_)
    obtain ⟨hv2, hδ⟩ := hδ
    replace hv2 : v2 = hp_I ζ 552 u := hv2
    replace hδ : δ = hp_sI ζ 600 x 0 := hδ
    have dI : ∀ φ b, b ≠ x → ¬ (b = x + 919 ∧ φ = 301) → hp_I δ φ b = hp_I γ φ b := fun φ b hb hc => by
      rw [hδ, hI_sI, if_neg (fun h => hb h.2), zI φ b hc, eI, if_neg (fun h => hb h.2)]
    have dR : ∀ φ b, hp_R δ φ b = hp_R ε φ b := fun φ b => by rw [hδ]; show hp_R ζ φ b = _; rw [zR]
    have dE : ∀ κ b j, b ≠ x + 920 → hp_E δ κ b j = hp_E γ κ b j := fun κ b j hb => by
      rw [hδ]; show hp_E ζ κ b j = _
      rw [zE κ b j (fun h => hb (by rw [h.2, eRn _ _ (by omega)]; exact hXS.2.1)), eE]
    have dQ : hp_Q δ = hp_Q γ := by rw [hδ]; show hp_Q ζ = _; rw [zQ, eQ]
    have dK : hp_K δ = hp_K γ := by rw [hδ]; show hp_K ζ = _; rw [zK, eK]
    have dN : hp_N δ = hp_N γ := by rw [hδ]; show hp_N ζ = _; rw [zN, eN]
    have hWu : WR δ u (ms_E res.2 40) := by
      rw [p2]
      exact WR_x w1 w2 (fun φ b p q => by rw [dR, eRn φ b (by omega)]) dQ (fun φ b p q => dI φ b (by omega) (by omega)) (fun κ b j p q => dE κ b j (by omega))
    have hWw2 : WR δ w (ms_E σ 40) := WR_x hWw hC (fun φ b p q => by rw [dR, eRn φ b (by omega)]) dQ (fun φ b p q => dI φ b (by omega) (by omega)) (fun κ b j p q => dE κ b j (by omega))
    have h552 : hp_I ζ 552 u = ms_E τ 40 0 := by rw [zI _ _ (by omega), eI, if_neg (fun h => absurd h.1 (by decide))]; exact w1.2.1.2.1
    refine ⟨by rw [p1]; exact hv2.trans h552, ⟨?_, ⟨u, w, ?_, ?_, by omega, hWu, ?_, hWw2.1, ?_, hWw2.2.2.2.2.2⟩, by rw [p2]; exact w3, ⟨?_, fun j hj => ?_⟩, fun _ => ⟨?_, ?_⟩, fun hp => ?_⟩, ?_, hfr⟩
    · obtain ⟨z1, z2, z3, z4, z5, z6⟩ := hXS
      exact ⟨by rw [dR, eRn _ _ (by omega)]; exact z1, by rw [dR, eRn _ _ (by omega)]; exact z2, by rw [dR, eRn _ _ (by omega)]; exact z3, by rw [dK]; exact z4, by rw [dR, eRn _ _ (by omega)]; exact z5, by rw [dR, eRn _ _ (by omega)]; exact z6.1, by rw [dR, eRn _ _ (by omega)]; exact z6.2.1, by rw [dR, eRn _ _ (by omega)]; exact z6.2.2⟩
    · rw [dR, eR, if_neg (fun h => absurd h.1 (by decide)), if_pos ⟨rfl, rfl⟩]
    · rw [dR, eR, if_pos ⟨rfl, rfl⟩]
    · unfold rG; rw [dI _ _ (by omega) (by omega)]; exact w4
    · unfold rG; rw [dI _ _ (by omega) (by omega)]; exact hGw
    · rw [hδ, hI_sI, if_neg (fun h => absurd h.1 (by decide)), zI _ _ (by omega), eI, if_pos ⟨rfl, rfl⟩]; exact r3.symm
    · have hj' : (j : Int) < (ms_I res.2 667).toInt := hj
      rw [r3, lt0] at hj'
      omega
    · rw [dI _ _ (by omega) (by omega), y1]; exact p3.symm
    · rw [dI _ _ (by omega) (by omega), y2]; exact p4.symm
    · have hpd : pdl (ms_E res.2 40) = [] := by unfold pdl; rw [p2, y3]; rfl
      rw [hpd]
      refine ⟨by decide, ?_, fun k hk => absurd hk (by simp)⟩
      rw [hδ, hI_sI, if_neg (fun h => absurd h.1 (by decide))]
      exact (hPζ _ (hPε hp)).2.1
    · exact ⟨fun φ b p q => by rw [dR, eRn φ b p]; exact gRx φ b q, dK.trans gKx, dQ.trans (gQ.trans b2.2.2.1), dN.trans (gN.trans b2.2.2.2.1), fun φ b p q => by rw [dI φ b (by omega) (by omega)]; exact gIx φ b (by omega) q, fun φ p q => by rw [hδ, hI_sI, if_neg (fun h => p h.1), zI φ x (by omega), eI, if_neg (fun h => q h.1)]; exact gIx φ x (by omega) (by omega), fun κ b j p q hb => by rw [dE κ b j hb]; exact gEx κ b j (by omega) q⟩
