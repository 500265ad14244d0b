/-! ===== words taken, lines ===== -/
theorem PI_w {σ τ : ms_T} (h : PI σ) (f : fr [670, 671] [] σ τ) (h0 : 0 ≤ (ms_I τ 670).toInt) : PI τ := by
  obtain ⟨h1, h2, h3, h4, h5⟩ := h
  unfold PI
  rw [f.1 676 (by decide), f.1 672 (by decide), f.1 673 (by decide), f.1 674 (by decide)]
  exact ⟨h1, h2, h3, h4, h0⟩
theorem PI_rd {σ τ : ms_T} (h : PI σ) (f : rd σ τ) : PI τ := by
  obtain ⟨h1, h2, h3, h4, h5⟩ := h
  obtain ⟨g1, g2, g3, g4⟩ := f
  unfold PI
  rw [g1.1 676 (by decide), g1.1 670 (by decide)]
  exact ⟨h1, g2, g3, g4, h5⟩
theorem PI_fr {wI wE : List Nat} {σ τ : ms_T} (h : PI σ) (f : fr wI wE σ τ) (k1 : 676 ∉ wI) (k2 : 672 ∉ wI) (k3 : 673 ∉ wI) (k4 : 674 ∉ wI) (k5 : 670 ∉ wI) : PI τ := by
  unfold PI
  rw [f.1 676 k1, f.1 672 k2, f.1 673 k3, f.1 674 k4, f.1 670 k5]
  exact h
/-- a word taken -/
def T (σ τ : ms_T) : Prop := fr [670, 671, 672, 673, 674, 675] [] σ τ ∧ PI τ ∧ ((ms_I τ 670).toInt = 0 → (ms_I σ 670).toInt = 0 ∧ (ms_I σ 673).toInt < (ms_I τ 673).toInt)
theorem T_tr {σ τ υ : ms_T} (h : T σ τ) (g : T τ υ) : T σ υ := by
  refine ⟨fr_tr h.1 g.1, g.2.1, fun e => ?_⟩
  have a := g.2.2 e
  have b := h.2.2 a.1
  exact ⟨b.1, by omega⟩
theorem s_reads1 (n : Nat) (hn : 70000 ≤ n) {σ : ms_T} (h : PI σ) (h4 : ¬ (ms_I σ 674).toInt = 0) : ws (f_X12_reads n σ) (fun τ => rd σ τ ∧ PI τ ∧ (ms_I σ 673).toInt < (ms_I τ 673).toInt) := by
  have h' := h
  obtain ⟨h1, h2, h3, h5, h6⟩ := h'
  exact ws_m (s_reads n hn σ h1.2 (by omega) (h5 h4)) (fun τ hτ => ⟨hτ.1, PI_rd h hτ.1, hτ.2⟩)
theorem T_rd {σ τ υ : ms_T} (f : fr [670, 671] [] σ τ) (h0 : (ms_I σ 670).toInt = 0) (hτ : rd τ υ ∧ PI υ ∧ (ms_I τ 673).toInt < (ms_I υ 673).toInt) : T σ υ := by
  refine ⟨fr_tr (fr_sb f (by decide) (by decide)) (fr_sb hτ.1.1 (by decide) (by decide)), hτ.2.1, fun _ => ⟨h0, ?_⟩⟩
  have := hτ.2.2
  rw [f.1 673 (by decide)] at this
  exact this
theorem s_tk (n : Nat) (hn : 70000 ≤ n) {σ τ : ms_T} (h : PI σ) (f : fr [670, 671] [] σ τ) (h0 : 0 ≤ (ms_I τ 670).toInt) (h1 : (ms_I τ 670).toInt = 0 → (ms_I σ 670).toInt = 0 ∧ ¬ (ms_I σ 674).toInt = 0) : ws (if ms_I τ 670 = 0 then ms_b (f_X12_reads n τ) fun υ => some υ else some τ) (T σ) := by
  have l0 := lt0
  refine ws_ee (fun _ e => ?_) (fun e => ws_s ⟨fr_sb f (by decide) (by decide), PI_w h f h0, fun q => by omega⟩)
  obtain ⟨q1, q2⟩ := h1 (by omega)
  exact ws_b (s_reads1 n hn (PI_w h f h0) (by rw [f.1 674 (by decide)]; exact q2)) (fun υ hυ => ws_s (T_rd f q1 hυ))
theorem s_takes (n : Nat) (hn : 70000 ≤ n) {σ : ms_T} (h : PI σ) (a : Int32) (h0 : 0 ≤ a.toInt) (h1 : a.toInt ≤ 11) : ws (f_X12_takes n σ a) (T σ) := by
  unfold f_X12_takes
  refine ws_b (s_isWord n σ a h0 h1) (fun r hr => ws_b (s_must n σ r 2 h.2.2.2.2 (by decide)) (fun τ hτ => s_tk n hn h hτ.1 hτ.2.1 (fun e => ?_)))
  have q := hτ.2.2 e
  have p := hr q.1
  exact ⟨q.2, by omega⟩
theorem s_takesEnd (n : Nat) (hn : 70000 ≤ n) {σ : ms_T} (h : PI σ) : ws (f_X12_takesEnd n σ) (T σ) := by
  have t3 := t_3
  unfold f_X12_takesEnd f_X12_takesEnd_J14
  refine ws_ee (fun _ g => ?_) (fun g => ?_)
  · exact ws_b (s_must n σ 1 2 h.2.2.2.2 (by decide)) (fun τ hτ => s_tk n hn h hτ.1 hτ.2.1 (fun e => ⟨(hτ.2.2 e).2, by omega⟩))
  · exact ws_b (s_must n σ 0 2 h.2.2.2.2 (by decide)) (fun τ hτ => s_tk n hn h hτ.1 hτ.2.1 (fun e => absurd rfl (hτ.2.2 e).1))
theorem s_takesNumber (n : Nat) (hn : 70000 ≤ n) {σ : ms_T} (h : PI σ) (a b : Int32) : ws (f_X12_takesNumber n σ a b) (fun q => T σ q.2 ∧ ((ms_I q.2 670).toInt = 0 → a.toInt ≤ q.1.toInt ∧ q.1.toInt ≤ b.toInt)) := by
  have l0 := lt0
  have t2 := t_2
  have hJ : ∀ w : Int32, (¬ w = 0 → ¬ (ms_I σ 674).toInt = 0) → ws (f_X12_takesNumber_J14 n σ a b w) (fun q => T σ q.2 ∧ ((ms_I q.2 670).toInt = 0 → a.toInt ≤ q.1.toInt ∧ q.1.toInt ≤ b.toInt)) := by
    intro w hw
    unfold f_X12_takesNumber_J14
    refine ws_b (s_must n σ w 2 h.2.2.2.2 (by decide)) (fun τ hτ => ws_b (s_isIn n _ _ _) (fun r hr => ws_b (s_must n τ r 3 hτ.2.1 (by decide)) (fun υ hυ => ws_l ?_)))
    have f2 : fr [670, 671] [] σ υ := fr_tr hτ.1 hυ.1
    refine ws_ee (fun _ e => ?_) (fun e => ws_s ⟨⟨fr_sb f2 (by decide) (by decide), PI_w h f2 hυ.2.1, fun q => by have q : (ms_I υ 670).toInt = 0 := q; omega⟩, fun q => by have q : (ms_I υ 670).toInt = 0 := q; omega⟩)
    have q1 := hυ.2.2 (by omega)
    have q2 := hτ.2.2 q1.2
    have hr1 := bo_1 hr (fun x => q1.1 (Int32.toInt_inj.mp x))
    have q3 := hw q2.1
    refine ws_b (s_reads1 n hn (PI_w h f2 hυ.2.1) (by rw [f2.1 674 (by decide)]; exact q3)) (fun ρ hρ => ws_s ⟨T_rd f2 q2.2 hρ, fun _ => ?_⟩)
    show a.toInt ≤ (ms_I υ 675).toInt ∧ (ms_I υ 675).toInt ≤ b.toInt
    rw [hυ.1.1 675 (by decide)]
    exact hr1
  unfold f_X12_takesNumber
  exact ws_ee (fun _ g => hJ _ (fun _ => by omega)) (fun _ => hJ _ (fun q => absurd rfl q))
theorem s_takesMark (n : Nat) (hn : 70000 ≤ n) {σ : ms_T} (h : PI σ) : ws (f_X12_takesMark n σ) (fun q => T σ q.2) := by
  unfold f_X12_takesMark
  exact ws_g (by decide) (by decide) (ws_c (s_takesNumber n hn h _ _) (fun x τ hτ => ws_s hτ.1))
/-! lines -/
def LI (σ : ms_T) : Prop := PI σ ∧ rC (ms_E σ 40) ∧ 0 ≤ (ms_I σ 679).toInt ∧ (ms_I σ 679).toInt ≤ 3
def FW : List Nat := [652, 653, 657, 658, 659, 660, 665, 670, 671, 672, 673, 674, 675, 679]
def FE : List Nat := [40, 42, 43, 44, 46]
def lnP (σ τ : ms_T) : Prop := fr FW FE σ τ ∧ LI τ ∧ ((ms_I τ 670).toInt = 0 → (ms_I σ 673).toInt < (ms_I τ 673).toInt)
theorem LI_T {σ τ : ms_T} (h : LI σ) (t : T σ τ) : LI τ := ⟨t.2.1, rC_fr h.2.1 t.1 (by decide), by rw [t.1.1 679 (by decide)]; exact h.2.2⟩
theorem s_addLine_J134 (n : Nat) (hn : 70000 ≤ n) {σ0 σ : ms_T} (hf : fr FW FE σ0 σ) (hL : LI σ) (hp : (ms_I σ0 673).toInt < (ms_I σ 673).toInt) (h0 : 0 ≤ (ms_I σ 665).toInt) (h1 : (ms_I σ 665).toInt ≤ 8) : ws (f_X12_addLine_J134 n σ) (lnP σ0) := by
  have l0 := lt0
  unfold f_X12_addLine_J134
  refine ws_b (s_takesEnd n hn hL.1) (fun τ hτ => ?_)
  have hLτ := LI_T hL hτ
  have fτ : fr FW FE σ0 τ := fr_tr hf (fr_sb hτ.1 (by decide) (by decide))
  refine ws_ee (fun _ e => ?_) (fun e => ws_s ⟨fτ, hLτ, fun q => by omega⟩)
  have hpr := (hτ.2.2 (by omega)).2
  refine ws_c (s_adds n hn τ hLτ.2.1 (by rw [hτ.1.1 665 (by decide)]; exact h0) (by rw [hτ.1.1 665 (by decide)]; exact h1) _ hLτ.2.2.1 hLτ.2.2.2) (fun x ρ hρ => ws_s ?_)
  have fρ : fr [652, 653] [40] τ ρ := hρ.1
  refine ⟨fr_tr fτ (fr_sb fρ (by decide) (by decide)), ⟨PI_fr hLτ.1 fρ (by decide) (by decide) (by decide) (by decide) (by decide), hρ.2, by rw [fρ.1 679 (by decide)]; exact hLτ.2.2⟩, fun _ => ?_⟩
  rw [fρ.1 673 (by decide)]
  omega
theorem s_addLine_L (n : Nat) (hn : 70000 ≤ n) : ∀ (k : Nat) (σ0 σ : ms_T) (v : Int32), fr FW FE σ0 σ → LI σ → (ms_I σ0 673).toInt < (ms_I σ 673).toInt → (ms_I σ 665).toInt = (ms_I σ 673).toInt - (ms_I σ 672).toInt → (ms_I σ 665).toInt ≤ 8 → ¬ (ms_I σ 674).toInt = 0 → 0 ≤ v.toInt → v.toInt ≤ 8 → 9 - v.toInt ≤ (k : Int) → ws (f_X12_addLine_L96 n k σ v) (lnP σ0) := by
  intro k
  induction k with
  | zero => intro σ0 σ v hf hL hp h5 h8 h4 g0 g1 g2; omega
  | succ k ih =>
    intro σ0 σ v hf hL hp h5 h8 h4 g0 g1 g2
    rw [f_X12_addLine_L96.eq_2]
    have hP := hL.1
    unfold PI at hP
    have hend := hP.2.2.2.1 h4
    refine ws_le (fun _ => ?_) (fun g => ?_)
    · refine ws_b (s_reads1 n hn hL.1 h4) (fun τ hτ => ?_)
      have e5 : ms_I τ 665 = ms_I σ 665 := hτ.1.1.1 665 (by decide)
      refine s_addLine_J134 n hn (fr_tr hf (fr_sb hτ.1.1 (by decide) (by decide))) ⟨hτ.2.1, rC_fr hL.2.1 hτ.1.1 (by decide), by rw [hτ.1.1.1 679 (by decide)]; exact hL.2.2⟩ (by have := hτ.2.2; omega) (by rw [e5]; omega) (by rw [e5]; omega)
    · have e1 : (ms_I σ 672 + v).toInt = (ms_I σ 672).toInt + v.toInt := by rw [iw_add]; omega
      have ff : fr [] [46] σ (ms_sE σ 46 v.toNatClampNeg (ms_E σ 47 (ms_I σ 672 + v).toNatClampNeg - 96)) := fr_sE (by decide)
      refine ws_g (by omega) (by omega) (ws_g g0 (by omega) (ws_l (ws_l (ih σ0 _ (v + 1) (fr_tr hf (fr_sE (by decide))) ⟨PI_fr hL.1 ff (by decide) (by decide) (by decide) (by decide) (by decide), rC_fr hL.2.1 ff (by decide), hL.2.2⟩ hp h5 h8 h4 (by (try simp only [iw_add, iw_sub, iw_mul, t_m1, lt0, lt1, t_2, t_3, t_4, t_5, t_6, t_8, t_9, t_10, t_16, t_20, t_24, t_26, t_30, t_31, t_48, t_64, t_72, t_76, t_92, t_101, t_252, t_444, t_512, t_900, t_1980, t_65521, t_99999, t_mil]) <;> omega) (by (try simp only [iw_add, iw_sub, iw_mul, t_m1, lt0, lt1, t_2, t_3, t_4, t_5, t_6, t_8, t_9, t_10, t_16, t_20, t_24, t_26, t_30, t_31, t_48, t_64, t_72, t_76, t_92, t_101, t_252, t_444, t_512, t_900, t_1980, t_65521, t_99999, t_mil]) <;> omega) (by (try simp only [iw_add, iw_sub, iw_mul, t_m1, lt0, lt1, t_2, t_3, t_4, t_5, t_6, t_8, t_9, t_10, t_16, t_20, t_24, t_26, t_30, t_31, t_48, t_64, t_72, t_76, t_92, t_101, t_252, t_444, t_512, t_900, t_1980, t_65521, t_99999, t_mil]) <;> omega)))))
theorem s_addLine (n : Nat) (hn : 70000 ≤ n) {σ : ms_T} (hL : LI σ) (h4 : ¬ (ms_I σ 674).toInt = 0) : ws (f_X12_addLine n σ) (lnP σ) := by
  have l0 := lt0
  have t8 := t_8
  have l1 := lt1
  have hJ : ∀ w : Int32, ws (f_X12_addLine_J19 n σ w) (lnP σ) := by
    intro w
    unfold f_X12_addLine_J19
    refine ws_b (s_must n σ w 6 hL.1.2.2.2.2 (by decide)) (fun τ hτ => ?_)
    have hPτ := PI_w hL.1 hτ.1 hτ.2.1
    have hLτ : LI τ := ⟨hPτ, rC_fr hL.2.1 hτ.1 (by decide), by rw [hτ.1.1 679 (by decide)]; exact hL.2.2⟩
    have fτ : fr FW FE σ τ := fr_sb hτ.1 (by decide) (by decide)
    refine ws_le (fun e => ?_) (fun e => ws_s ⟨fτ, hLτ, fun q => by omega⟩)
    refine ws_b (s_reads1 n hn hPτ (by rw [hτ.1.1 674 (by decide)]; exact h4)) (fun υ hυ => ?_)
    have f5 : fr [672, 673, 674, 675, 665] [] τ (ms_sI υ 665 0) := fr_tr (fr_sb hυ.1.1 (by decide) (by decide)) (fr_sI (by decide))
    have g5 : fr [665] [] υ (ms_sI υ 665 0) := fr_sI (by decide)
    have hL6 : LI (ms_sI υ 665 0) := ⟨PI_fr hυ.2.1 g5 (by decide) (by decide) (by decide) (by decide) (by decide), rC_fr hLτ.2.1 f5 (by decide), by rw [f5.1 679 (by decide)]; exact hLτ.2.2⟩
    have fσ : fr FW FE σ (ms_sI υ 665 0) := fr_tr fτ (fr_sb f5 (by decide) (by decide))
    have hpr : (ms_I σ 673).toInt < (ms_I (ms_sI υ 665 0) 673).toInt := by
      rw [mI_sI, if_neg (by decide)]
      have := hυ.2.2
      rw [hτ.1.1 673 (by decide)] at this
      exact this
    have z5 : ms_I (ms_sI υ 665 0) 665 = 0 := by rw [mI_sI, if_pos rfl]
    refine ws_l ?_
    generalize ms_sI υ 665 0 = φ at hL6 fσ hpr z5 ⊢
    refine ws_ee (fun _ g4 => ?_) (fun _ => ?_)
    · have hJ6 : ∀ w : Int32, (¬ w = 0 → (ms_I φ 673 - ms_I φ 672).toInt ≤ 8) → ws (f_X12_addLine_J69 n φ w) (lnP σ) := by
        intro w hw
        unfold f_X12_addLine_J69
        refine ws_b (s_must n φ w 4 hL6.1.2.2.2.2 (by decide)) (fun ρ hρ => ?_)
        have hPρ := PI_w hL6.1 hρ.1 hρ.2.1
        have hLρ : LI ρ := ⟨hPρ, rC_fr hL6.2.1 hρ.1 (by decide), by rw [hρ.1.1 679 (by decide)]; exact hL6.2.2⟩
        have fρ : fr FW FE σ ρ := fr_tr fσ (fr_sb hρ.1 (by decide) (by decide))
        refine ws_le (fun e => ws_l ?_) (fun e => ws_s ⟨fρ, hLρ, fun q => by omega⟩)
        have hq := hρ.2.1
        have hle := hw (hρ.2.2 (by omega)).1
        have hPP := hPρ
        unfold PI at hPP
        have k4 : ¬ (ms_I ρ 674).toInt = 0 := by rw [hρ.1.1 674 (by decide)]; omega
        have k5 := hPP.2.2.2.1 k4
        have e7 : (ms_I ρ 673 - ms_I ρ 672).toInt = (ms_I ρ 673).toInt - (ms_I ρ 672).toInt := by rw [iw_sub]; omega
        rw [← hρ.1.1 673 (by decide), ← hρ.1.1 672 (by decide)] at hle
        have gg : fr [665] [] ρ (ms_sI ρ 665 (ms_I ρ 673 - ms_I ρ 672)) := fr_sI (by decide)
        refine s_addLine_L n hn n σ _ 0 (fr_tr fρ (fr_sb gg (by decide) (by decide))) ⟨PI_fr hPρ gg (by decide) (by decide) (by decide) (by decide) (by decide), rC_fr hLρ.2.1 gg (by decide), by rw [gg.1 679 (by decide)]; exact hLρ.2.2⟩ ?_ ?_ ?_ ?_ (by decide) (by decide) (by rw [lt0]; omega)
        · rw [gg.1 673 (by decide), hρ.1.1 673 (by decide)]; exact hpr
        · rw [gg.1 673 (by decide), gg.1 672 (by decide), mI_sI, if_pos rfl]; exact e7
        · rw [mI_sI, if_pos rfl]; exact hle
        · rw [gg.1 674 (by decide)]; exact k4
      exact ws_lt (fun _ => hJ6 _ (fun q => absurd rfl q)) (fun g => hJ6 _ (fun _ => by omega))
    · exact s_addLine_J134 n hn fσ hL6 hpr (by rw [z5]; decide) (by rw [z5]; decide)
  unfold f_X12_addLine
  exact ws_b (s_sizeOf hL.2.1 _ hL.2.2.1 hL.2.2.2) (fun _ _ => ws_i (fun _ => hJ _) (fun _ => hJ _))
