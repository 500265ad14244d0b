set_option maxRecDepth 100000
/-! of the reference -/
def RB (σ : ms_T) (t : Nat → Int32) (N : Nat) : Prop := N ≤ 900 ∧ (ms_I σ 676).toInt = (N : Int) ∧ ∀ j, j < N → ms_E σ 47 j = t j
def RST (τ : ms_T) (t : Nat → Int32) (N q : Nat) : Prop := (ms_I τ 672).toInt = (q : Int) ∧ ms_I τ 674 = tkS t N q ∧ (ms_I τ 673).toInt = (tkN t N q : Int) ∧ (tkS t N q = 2 → ms_I τ 675 = vl t q (tkN t N q - q)) ∧ (tkK t N q = 1 → ms_J τ = lv8 t q (min 8 (tkN t N q - q)))
/-- what reading may change -/
def rf (σ τ : ms_T) : Prop := fr [672, 673, 674, 675] [] σ τ
theorem rf_rf {σ : ms_T} : rf σ σ := fr_rf
theorem rf_tr {σ τ υ : ms_T} (h : rf σ τ) (g : rf τ υ) : rf σ υ := fr_tr h g
theorem RB_rf {σ τ : ms_T} {t : Nat → Int32} {N : Nat} (h : RB σ t N) (f : rf σ τ) : RB τ t N :=
  ⟨h.1, by rw [f.1 676 (by decide)]; exact h.2.1, fun j hj => by rw [f.2 47 (by decide)]; exact h.2.2 j hj⟩
theorem v_isOf (n : Nat) {σ : ms_T} {t : Nat → Int32} {N : Nat} (h : RB σ t N) (p : Nat) (pI lo hi : Int32) (hp : pI.toInt = (p : Int)) : pr (f_X12_isOf n σ pI lo hi) (fun r => bo r (p < N ∧ lo.toInt ≤ (t p).toInt ∧ (t p).toInt ≤ hi.toInt)) := by
  unfold f_X12_isOf
  refine pr_le (fun e => pr_s (Or.inr ⟨rfl, ?_⟩)) (fun e => pr_g (fun g0 g1 => ?_))
  · rw [h.2.1] at e; omega
  · rw [h.2.1] at e
    have hpN : p < N := by omega
    rw [cl_n hp, h.2.2 p hpN]
    exact pr_bo (v_isIn n (t p) lo hi) (fun hn => pr_s (Or.inr ⟨rfl, fun q => hn q.2⟩)) (fun hy => pr_s (Or.inl ⟨rfl, hpN, hy⟩))
theorem v_reads_L245 (n : Nat) {t : Nat → Int32} {N q : Nat} (hq : q < N) (hk : tkK t N q = 2) : ∀ (d m : Nat) (σ : ms_T), RB σ t N → (ms_I σ 672).toInt = (q : Int) → (ms_I σ 673).toInt = ((q + m : Nat) : Int) → q + m ≤ N → tkN t N q = ru isD t (N - (q + m)) (q + m) → ms_I σ 675 = vl t q (min 5 m) → pr (f_X12_reads_L245 n d σ) (fun τ => RST τ t N q ∧ rf σ τ) := by
  intro d
  induction d with
  | zero => intro m σ hB h1 h2 h3 h4 h5; rw [f_X12_reads_L245.eq_1]; exact pr_0
  | succ d ih =>
    intro m σ hB h1 h2 h3 h4 h5
    have hN := hB.1
    have L5 := t_5
    have l48 : (48 : Int32).toInt = 48 := by decide
    have l57 : (57 : Int32).toInt = 57 := by decide
    have hsub : (ms_I σ 673 - ms_I σ 672).toInt = (m : Int) := by rw [ii_sub (by omega) (by omega), h1, h2]; omega
    rw [f_X12_reads_L245.eq_2]
    refine pr_bo (v_isOf n hB (q + m) _ _ _ h2) (fun hno => ?_) (fun hy => ?_)
    · rw [l48, l57] at hno
      have hm : tkN t N q = q + m := by
        rw [h4]
        by_cases hp : q + m < N
        · rw [show N - (q + m) = (N - (q + m) - 1) + 1 by omega, ru, if_neg]
          intro hd
          unfold isD at hd
          simp at hd
          exact hno ⟨hp, hd⟩
        · rw [show N - (q + m) = 0 by omega, ru]
      have hf : ∀ v, rf σ (ms_sI σ 674 v) := fun v => fr_sI (by decide)
      refine pr_le (fun e => pr_l (pr_s ⟨⟨?_, ?_, ?_, fun _ => ?_, fun h => ?_⟩, hf _⟩)) (fun e => pr_l (pr_s ⟨⟨?_, ?_, ?_, fun h => ?_, fun h => ?_⟩, hf _⟩))
      · rw [mI_sI, if_neg (by decide)]; exact h1
      · rw [mI_sI, if_pos rfl]
        unfold tkS
        rw [if_neg (fun h => by omega)]; exact hk.symm
      · rw [mI_sI, if_neg (by decide), hm]; exact h2
      · rw [mI_sI, if_neg (by decide), h5, hm, show min 5 m = q + m - q by omega]
      · rw [hk] at h; exact absurd h (by decide)
      · rw [mI_sI, if_neg (by decide)]; exact h1
      · rw [mI_sI, if_pos rfl]
        unfold tkS
        rw [if_pos ⟨hk, by omega⟩]
      · rw [mI_sI, if_neg (by decide), hm]; exact h2
      · unfold tkS at h
        rw [if_pos ⟨hk, by omega⟩] at h
        exact absurd h (by decide)
      · rw [hk] at h; exact absurd h (by decide)
    · rw [l48, l57] at hy
      have hst : tkN t N q = ru isD t (N - (q + (m + 1))) (q + (m + 1)) := by
        rw [h4, show N - (q + m) = (N - (q + (m + 1))) + 1 by omega, ru, if_pos (by unfold isD; simp; exact hy.2), Nat.add_assoc]
      have hJ : ∀ w, w = vl t q (min 5 (m + 1)) → pr (f_X12_reads_J301 n (f_X12_reads_L245 n d) σ w) (fun τ => RST τ t N q ∧ rf σ τ) := by
        intro w hw
        unfold f_X12_reads_J301
        have f1 : rf σ (ms_sI σ 675 w) := fr_sI (by decide)
        have f2 : rf (ms_sI σ 675 w) (ms_sI (ms_sI σ 675 w) 673 (ms_I (ms_sI σ 675 w) 673 + (1 : Int32))) := fr_sI (by decide)
        refine pr_l (pr_l (pr_m (ih (m + 1) _ (RB_rf (RB_rf hB f1) f2) ?_ ?_ (by omega) hst ?_) (fun τ hτ => ⟨hτ.1, rf_tr (rf_tr f1 f2) hτ.2⟩)))
        · rw [mI_sI, if_neg (by decide), mI_sI, if_neg (by decide)]; exact h1
        · rw [mI_sI, if_pos rfl, mI_sI, if_neg (by decide), ii_add (by rw [lt1]; omega) (by rw [lt1]; omega), h2, lt1]; omega
        · rw [mI_sI, if_neg (by decide), mI_sI, if_pos rfl]; exact hw
      refine pr_le (fun e => hJ _ ?_) (fun e => pr_g (fun _ _ => hJ _ ?_))
      · rw [h5, show min 5 m = 5 by omega, show min 5 (m + 1) = 5 by omega]
      · rw [cl_n h2, hB.2.2 _ hy.1, h5, show min 5 m = m by omega, show min 5 (m + 1) = m + 1 by omega, vl]
theorem v_reads_L141 (n : Nat) {t : Nat → Int32} {N q : Nat} (hq : q < N) (hk : tkK t N q = 1) : ∀ (d m : Nat) (σ : ms_T), RB σ t N → (ms_I σ 672).toInt = (q : Int) → ms_I σ 674 = 1 → (ms_I σ 673).toInt = ((q + m : Nat) : Int) → q + m ≤ N → tkN t N q = ru isL t (N - (q + m)) (q + m) → ms_J σ = lv8 t q (min 8 m) → pr (f_X12_reads_L141 n d σ) (fun τ => RST τ t N q ∧ rf σ τ) := by
  intro d
  induction d with
  | zero => intro m σ hB h1 hk1 h2 h3 h4 h5; rw [f_X12_reads_L141.eq_1]; exact pr_0
  | succ d ih =>
    intro m σ hB h1 hk1 h2 h3 h4 h5
    have hN := hB.1
    have L8 := t_8
    have l97 : (97 : Int32).toInt = 97 := by decide
    have l122 : (122 : Int32).toInt = 122 := by decide
    have hsub : (ms_I σ 673 - ms_I σ 672).toInt = (m : Int) := by rw [ii_sub (by omega) (by omega), h1, h2]; omega
    rw [f_X12_reads_L141.eq_2]
    refine pr_bo (v_isOf n hB (q + m) _ _ _ h2) (fun hno => pr_s ?_) (fun hy => ?_)
    · rw [l97, l122] at hno
      have hm : tkN t N q = q + m := by
        rw [h4]
        by_cases hp : q + m < N
        · rw [show N - (q + m) = (N - (q + m) - 1) + 1 by omega, ru, if_neg]
          intro hd
          unfold isL at hd
          simp at hd
          exact hno ⟨hp, hd⟩
        · rw [show N - (q + m) = 0 by omega, ru]
      have hs : tkS t N q = 1 := by unfold tkS; rw [if_neg (fun h => by rw [hk] at h; exact absurd h.1 (by decide))]; exact hk
      refine ⟨⟨h1, by rw [hs]; exact hk1, by rw [hm]; exact h2, fun h => ?_, fun _ => ?_⟩, rf_rf⟩
      · rw [hs] at h; exact absurd h (by decide)
      · rw [h5, hm, show q + m - q = m by omega]
    · rw [l97, l122] at hy
      have hst : tkN t N q = ru isL t (N - (q + (m + 1))) (q + (m + 1)) := by
        rw [h4, show N - (q + m) = (N - (q + (m + 1))) + 1 by omega, ru, if_pos (by unfold isL; simp; exact hy.2), Nat.add_assoc]
      have hJ : ∀ w, w = lv8 t q (min 8 (m + 1)) → pr (f_X12_reads_J201 n (f_X12_reads_L141 n d) σ w) (fun τ => RST τ t N q ∧ rf σ τ) := by
        intro w hw
        unfold f_X12_reads_J201
        have f1 : rf σ (ms_sJ σ w) := fr_sJ
        have f2 : rf (ms_sJ σ w) (ms_sI (ms_sJ σ w) 673 (ms_I (ms_sJ σ w) 673 + (1 : Int32))) := fr_sI (by decide)
        refine pr_l (pr_l (pr_m (ih (m + 1) _ (RB_rf (RB_rf hB f1) f2) ?_ ?_ ?_ (by omega) hst ?_) (fun τ hτ => ⟨hτ.1, rf_tr (rf_tr f1 f2) hτ.2⟩)))
        · rw [mI_sI, if_neg (by decide), mI_sJ]; exact h1
        · rw [mI_sI, if_neg (by decide), mI_sJ]; exact hk1
        · rw [mI_sI, if_pos rfl, mI_sJ, ii_add (by rw [lt1]; omega) (by rw [lt1]; omega), h2, lt1]; omega
        · exact hw
      refine pr_le (fun e => hJ _ ?_) (fun e => pr_g (fun _ _ => hJ _ ?_))
      · rw [h5, show min 8 m = 8 by omega, show min 8 (m + 1) = 8 by omega]
      · rw [cl_n h2, hB.2.2 _ hy.1, h5, show min 8 m = m by omega, show min 8 (m + 1) = m + 1 by omega, lv8]
theorem v_reads_J60 (n : Nat) {t : Nat → Int32} {N q : Nat} (hq : q ≤ N) {σ : ms_T} (hB : RB σ t N) (h1 : (ms_I σ 672).toInt = (q : Int)) : pr (f_X12_reads_J60 n σ) (fun τ => RST τ t N q ∧ rf σ τ) := by
  have hN := hB.1
  have f0 : rf σ (ms_sI σ 673 (ms_I σ 672 + (1 : Int32))) := fr_sI (by decide)
  have l97 : (97 : Int32).toInt = 97 := by decide
  have l122 : (122 : Int32).toInt = 122 := by decide
  have l48 : (48 : Int32).toInt = 48 := by decide
  have l57 : (57 : Int32).toInt = 57 := by decide
  have h3 : (ms_I σ 672 + (1 : Int32)).toInt = ((q + 1 : Nat) : Int) := by rw [ii_add (by rw [lt1]; omega) (by rw [lt1]; omega), h1, lt1]; omega
  have hJ : ∀ w, (q < N → isL (t q) = false → isD (t q) = false → w = kof (t q)) → (N ≤ q → w = 0) → pr (f_X12_reads_J105 n (ms_sI σ 673 (ms_I σ 672 + (1 : Int32))) w) (fun τ => RST τ t N q ∧ rf σ τ) := by
    intro w hw hw0
    unfold f_X12_reads_J105
    have f1 : rf (ms_sI σ 673 (ms_I σ 672 + (1 : Int32))) (ms_sI (ms_sI σ 673 (ms_I σ 672 + (1 : Int32))) 674 w) := fr_sI (by decide)
    have hB1 := RB_rf (RB_rf hB f0) f1
    obtain ⟨υ, hυ⟩ : ∃ υ, υ = ms_sI (ms_sI σ 673 (ms_I σ 672 + (1 : Int32))) 674 w := ⟨_, rfl⟩
    have u2 : (ms_I υ 672).toInt = (q : Int) := by rw [hυ, mI_sI, if_neg (by decide), mI_sI, if_neg (by decide)]; exact h1
    have u3 : (ms_I υ 673).toInt = ((q + 1 : Nat) : Int) := by rw [hυ, mI_sI, if_neg (by decide), mI_sI, if_pos rfl]; exact h3
    have u4 : ms_I υ 674 = w := by rw [hυ, mI_sI, if_pos rfl]
    have hf : rf σ υ := by rw [hυ]; exact rf_tr f0 f1
    rw [← hυ] at hB1
    refine pr_l ?_
    rw [← hυ]
    refine pr_bo (v_isOf n hB1 q _ _ _ u2) (fun hL => ?_) (fun hL => ?_)
    · rw [l97, l122] at hL
      refine pr_bo (v_isOf n hB1 q _ _ _ u2) (fun hD => pr_s ?_) (fun hD => ?_)
      · rw [l48, l57] at hD
        have hsN : tkN t N q = q + 1 := by
          unfold tkN
          by_cases hqN : N ≤ q
          · rw [if_pos hqN]
          · rw [if_neg hqN, if_neg (fun h => hL ⟨by omega, by unfold isL at h; simpa using h⟩), if_neg (fun h => hD ⟨by omega, by unfold isD at h; simpa using h⟩)]
        have hkw : tkK t N q = w := by
          unfold tkK
          by_cases hqN : N ≤ q
          · rw [if_pos hqN]; exact (hw0 hqN).symm
          · rw [if_neg hqN]
            refine (hw (by omega) ?_ ?_).symm
            · cases hh : isL (t q)
              · rfl
              · exact absurd ⟨by omega, by unfold isL at hh; simpa using hh⟩ hL
            · cases hh : isD (t q)
              · rfl
              · exact absurd ⟨by omega, by unfold isD at hh; simpa using hh⟩ hD
        have hk2 : tkK t N q ≠ 2 := by
          intro h
          unfold tkK at h
          split at h
          · exact absurd h (by decide)
          · exact hD ⟨by omega, by have := (kof_D.mp h).2; unfold isD at this; simpa using this⟩
        have hk1 : tkK t N q ≠ 1 := by
          intro h
          unfold tkK at h
          split at h
          · exact absurd h (by decide)
          · exact hL ⟨by omega, by have := kof_L.mp h; unfold isL at this; simpa using this⟩
        have hs : tkS t N q = tkK t N q := by unfold tkS; rw [if_neg (fun h => hk2 h.1)]
        exact ⟨⟨u2, by rw [hs, hkw]; exact u4, by rw [hsN]; exact u3, fun h => absurd (hs.symm.trans h) hk2, fun h => absurd h hk1⟩, hf⟩
      · rw [l48, l57] at hD
        have hqN : q < N := hD.1
        have hD2 : isD (t q) = true := by unfold isD; simpa using hD.2
        have hL2 : isL (t q) = false := by
          cases hh : isL (t q)
          · rfl
          · exact absurd ⟨hqN, by unfold isL at hh; simpa using hh⟩ hL
        have hk : tkK t N q = 2 := by unfold tkK; rw [if_neg (by omega)]; exact kof_D.mpr ⟨hL2, hD2⟩
        have f2 : rf υ (ms_sI υ 675 0) := fr_sI (by decide)
        have f3 : rf (ms_sI υ 675 0) (ms_sI (ms_sI υ 675 0) 673 (ms_I (ms_sI υ 675 0) 672)) := fr_sI (by decide)
        refine pr_l (pr_l (pr_m (v_reads_L245 n hqN hk n 0 _ (RB_rf (RB_rf hB1 f2) f3) ?_ ?_ (by omega) ?_ ?_) (fun τ hτ => ⟨hτ.1, rf_tr hf (rf_tr (rf_tr f2 f3) hτ.2)⟩)))
        · rw [mI_sI, if_neg (by decide), mI_sI, if_neg (by decide)]; exact u2
        · rw [mI_sI, if_pos rfl, mI_sI, if_neg (by decide)]; exact u2
        · unfold tkN
          rw [if_neg (by omega), if_neg (by rw [hL2]; decide), if_pos hD2]; rfl
        · rw [mI_sI, if_neg (by decide), mI_sI, if_pos rfl]; rfl
    · rw [l97, l122] at hL
      have hqN : q < N := hL.1
      have hL2 : isL (t q) = true := by unfold isL; simpa using hL.2
      have hk : tkK t N q = 1 := by unfold tkK; rw [if_neg (by omega)]; exact kof_L.mpr hL2
      have f2 : rf υ (ms_sI υ 674 1) := fr_sI (by decide)
      have f3 : rf (ms_sI υ 674 1) (ms_sJ (ms_sI υ 674 1) 0) := fr_sJ
      have f4 : rf (ms_sJ (ms_sI υ 674 1) 0) (ms_sI (ms_sJ (ms_sI υ 674 1) 0) 673 (ms_I (ms_sJ (ms_sI υ 674 1) 0) 672)) := fr_sI (by decide)
      refine pr_l (pr_l (pr_l (pr_m (v_reads_L141 n hqN hk n 0 _ (RB_rf (RB_rf (RB_rf hB1 f2) f3) f4) ?_ ?_ ?_ (by omega) ?_ ?_) (fun τ hτ => ⟨hτ.1, rf_tr hf (rf_tr (rf_tr (rf_tr f2 f3) f4) hτ.2)⟩))))
      · rw [mI_sI, if_neg (by decide), mI_sJ, mI_sI, if_neg (by decide)]; exact u2
      · rw [mI_sI, if_neg (by decide), mI_sJ, mI_sI, if_pos rfl]
      · rw [mI_sI, if_pos rfl, mI_sJ, mI_sI, if_neg (by decide)]; exact u2
      · unfold tkN
        rw [if_neg (by omega), if_pos hL2]; rfl
      · rfl
  unfold f_X12_reads_J60
  have e672 : ms_I (ms_sI σ 673 (ms_I σ 672 + (1 : Int32))) 672 = ms_I σ 672 := by rw [mI_sI, if_neg (by decide)]
  have e676 : ms_I (ms_sI σ 673 (ms_I σ 672 + (1 : Int32))) 676 = ms_I σ 676 := by rw [mI_sI, if_neg (by decide)]
  refine pr_l ?_
  rw [e672, e676]
  refine pr_lt (fun e => pr_g (fun _ _ => ?_)) (fun e => hJ 0 (fun h => by rw [hB.2.1] at e; omega) (fun _ => rfl))
  rw [hB.2.1] at e
  rw [mE_sI, cl_n h1, hB.2.2 q (by omega)]
  refine pr_i (fun e2 => hJ 3 (fun _ hL hD => ?_) (fun h => by omega)) (fun e2 => hJ 4 (fun _ hL hD => ?_) (fun h => by omega))
  · unfold kof; rw [hL, hD, if_neg (by decide), if_neg (by decide), if_pos e2]
  · unfold kof; rw [hL, hD, if_neg (by decide), if_neg (by decide), if_neg e2]
theorem v_reads_L8 (n : Nat) {t : Nat → Int32} {N : Nat} : ∀ (d p : Nat) (σ : ms_T), RB σ t N → p ≤ N → (ms_I σ 672).toInt = (p : Int) → pr (f_X12_reads_L8 n d σ) (fun τ => RST τ t N (tkP t N p) ∧ rf σ τ) := by
  intro d
  induction d with
  | zero => intro p σ hB hp h1; rw [f_X12_reads_L8.eq_1]; exact pr_0
  | succ d ih =>
    intro p σ hB hp h1
    have hN := hB.1
    rw [f_X12_reads_L8.eq_2]
    have hend : (p < N → isB (t p) = false) → pr (f_X12_reads_J60 n σ) (fun τ => RST τ t N (tkP t N p) ∧ rf σ τ) := by
      intro h
      have e : tkP t N p = p := by
        unfold tkP
        by_cases hpN : p < N
        · rw [show N - p = (N - p - 1) + 1 by omega, ru, if_neg (by rw [h hpN]; decide)]
        · rw [show N - p = 0 by omega, ru]
      rw [e]
      exact v_reads_J60 n hp hB h1
    have hgo : p < N → isB (t p) = true → pr (f_X12_reads_J47 n (f_X12_reads_L8 n d) σ) (fun τ => RST τ t N (tkP t N p) ∧ rf σ τ) := by
      intro hpN hb
      unfold f_X12_reads_J47
      have f : rf σ (ms_sI σ 672 (ms_I σ 672 + (1 : Int32))) := fr_sI (by decide)
      have e : tkP t N p = tkP t N (p + 1) := by
        unfold tkP
        rw [show N - p = (N - (p + 1)) + 1 by omega, ru, if_pos hb]
      rw [e]
      refine pr_l (pr_m (ih (p + 1) _ (RB_rf hB f) (by omega) ?_) (fun τ hτ => ⟨hτ.1, rf_tr f hτ.2⟩))
      rw [mI_sI, if_pos rfl, ii_add (by rw [lt1]; omega) (by rw [lt1]; omega), h1, lt1]; omega
    refine pr_le (fun e => hend (fun h => by rw [hB.2.1] at e; omega)) (fun e => ?_)
    rw [hB.2.1] at e
    have hpN : p < N := by omega
    rw [cl_n h1, hB.2.2 p hpN]
    refine pr_g (fun _ _ => pr_i (fun e10 => hgo hpN (by unfold isB; simp [e10])) (fun e10 => pr_g (fun _ _ => pr_i (fun e32 => hgo hpN (by unfold isB; simp [e32])) (fun e32 => hend (fun _ => by unfold isB; simp [e10, e32])))))
theorem v_reads (n : Nat) {t : Nat → Int32} {N p : Nat} {σ : ms_T} (hB : RB σ t N) (hp : p ≤ N) (h1 : (ms_I σ 673).toInt = (p : Int)) : pr (f_X12_reads n σ) (fun τ => RST τ t N (tkP t N p) ∧ rf σ τ) := by
  unfold f_X12_reads
  have f : rf σ (ms_sI σ 672 (ms_I σ 673)) := fr_sI (by decide)
  exact pr_l (pr_m (v_reads_L8 n n p _ (RB_rf hB f) hp (by rw [mI_sI, if_pos rfl]; exact h1)) (fun τ hτ => ⟨hτ.1, rf_tr f hτ.2⟩))
/-! ===== words: letter by letter, and by their number ===== -/
def frl : List Nat → Nat
  | [] => 0
  | d :: l => 27 * frl l + d
theorem frl_inj : ∀ l1 l2 : List Nat, (∀ d ∈ l1, 1 ≤ d ∧ d ≤ 26) → (∀ d ∈ l2, 1 ≤ d ∧ d ≤ 26) → frl l1 = frl l2 → l1 = l2 := by
  intro l1
  induction l1 with
  | nil =>
    intro l2 _ h2 h
    cases l2 with
    | nil => rfl
    | cons d l => have := h2 d List.mem_cons_self; rw [frl, frl] at h; omega
  | cons d l ih =>
    intro l2 h1 h2 h
    have hd := h1 d List.mem_cons_self
    cases l2 with
    | nil => rw [frl, frl] at h; omega
    | cons e m =>
      have he := h2 e List.mem_cons_self
      rw [frl, frl] at h
      have e1 : d = e := by omega
      have e2 : frl l = frl m := by omega
      rw [e1, ih m (fun x hx => h1 x (List.mem_cons_of_mem _ hx)) (fun x hx => h2 x (List.mem_cons_of_mem _ hx)) e2]
def rdl (d : Nat → Nat) : Nat → List Nat
  | 0 => []
  | m + 1 => d m :: rdl d m
theorem rdl_mem (d : Nat → Nat) (P : Nat → Prop) : ∀ m, (∀ j, j < m → P (d j)) → ∀ x ∈ rdl d m, P x := by
  intro m
  induction m with
  | zero => intro _ x hx; cases hx
  | succ m ih =>
    intro h x hx
    rw [rdl] at hx
    rcases List.mem_cons.mp hx with r | hx
    · rw [r]; exact h m (by omega)
    · exact ih (fun j hj => h j (by omega)) x hx
theorem rdl_eq (d e : Nat → Nat) : ∀ m k, rdl d m = rdl e k ↔ (m = k ∧ ∀ j, j < m → d j = e j) := by
  intro m
  induction m with
  | zero =>
    intro k
    cases k with
    | zero => simp [rdl]
    | succ k => simp [rdl]
  | succ m ih =>
    intro k
    cases k with
    | zero => simp [rdl]
    | succ k =>
      rw [rdl, rdl, List.cons.injEq, ih k]
      constructor
      · rintro ⟨h1, h2, h3⟩
        subst h2
        refine ⟨rfl, fun j hj => ?_⟩
        by_cases hjm : j = m
        · rw [hjm]; exact h1
        · exact h3 j (by omega)
      · rintro ⟨h1, h2⟩
        have : m = k := by omega
        subst this
        exact ⟨h2 m (by omega), rfl, fun j hj => h2 j (by omega)⟩
theorem frl_lt (d : Nat → Nat) : ∀ m, (∀ j, j < m → d j ≤ 26) → frl (rdl d m) + 1 ≤ 27 ^ m := by
  intro m
  induction m with
  | zero => intro _; simp [rdl, frl]
  | succ m ih =>
    intro h
    have h1 := ih (fun j hj => h j (by omega))
    have h2 := h m (by omega)
    rw [rdl, frl, Nat.pow_succ]
    omega
def dgt (t : Nat → Int32) (q j : Nat) : Nat := (t (q + j)).toInt.toNat - 96
theorem l64_27 : (27 : Int64).toInt = 27 := by decide
theorem l64_96 : (96 : Int64).toInt = 96 := by decide
theorem jl_add {x y : Int64} (h0 : -9223372036854775808 ≤ x.toInt + y.toInt) (h1 : x.toInt + y.toInt ≤ 9223372036854775807) : (x + y).toInt = x.toInt + y.toInt := by
  rw [Int64.toInt_add]
  exact Int.bmod_eq_of_le (by omega) (by omega)
theorem jl_sub {x y : Int64} (h0 : -9223372036854775808 ≤ x.toInt - y.toInt) (h1 : x.toInt - y.toInt ≤ 9223372036854775807) : (x - y).toInt = x.toInt - y.toInt := by
  rw [Int64.toInt_sub]
  exact Int.bmod_eq_of_le (by omega) (by omega)
theorem jl_mul {x y : Int64} (h0 : -9223372036854775808 ≤ x.toInt * y.toInt) (h1 : x.toInt * y.toInt ≤ 9223372036854775807) : (x * y).toInt = x.toInt * y.toInt := by
  rw [Int64.toInt_mul]
  exact Int.bmod_eq_of_le (by omega) (by omega)
theorem lv8_n (t : Nat → Int32) (q : Nat) : ∀ m, m ≤ 8 → (∀ j, j < m → isL (t (q + j)) = true) → (lv8 t q m).toInt = (frl (rdl (dgt t q) m) : Int) := by
  intro m
  induction m with
  | zero => intro _ _; rfl
  | succ m ih =>
    intro hm h
    have h1 := ih (by omega) (fun j hj => h j (by omega))
    have hL := h m (by omega)
    unfold isL at hL
    simp at hL
    have hd : ∀ j, j < m → dgt t q j ≤ 26 := by
      intro j hj
      have hLj := h j (by omega)
      unfold isL at hLj
      simp at hLj
      unfold dgt; omega
    have hb := frl_lt (dgt t q) m hd
    have hp : 27 ^ m ≤ 27 ^ 7 := Nat.pow_le_pow_right (by decide) (by omega)
    have hp7 : (27 : Nat) ^ 7 = 10460353203 := by decide
    have hc : ((t (q + m)).toInt64).toInt = (t (q + m)).toInt := Int32.toInt_toInt64 _
    have hmul : ((27 : Int64) * lv8 t q m).toInt = 27 * (frl (rdl (dgt t q) m) : Int) := by rw [jl_mul (by rw [l64_27, h1]; omega) (by rw [l64_27, h1]; omega), l64_27, h1]
    have hadd : ((27 : Int64) * lv8 t q m + (t (q + m)).toInt64).toInt = 27 * (frl (rdl (dgt t q) m) : Int) + (t (q + m)).toInt := by rw [jl_add (by rw [hmul, hc]; omega) (by rw [hmul, hc]; omega), hmul, hc]
    rw [lv8, jl_sub (by rw [hadd, l64_96]; omega) (by rw [hadd, l64_96]; omega), hadd, l64_96, rdl, frl]
    unfold dgt
    omega
/-- the twelve words: their texts -/
def wtx (w : Nat) : Nat := ([17, 7, 20, 9, 10, 19, 14, 11, 18, 16, 13, 8] : List Nat).getD w 0
theorem wtx_ok : ∀ w, w < 12 → wtx w < 21 ∧ 1 ≤ hp_sn.getD (wtx w) 0 ∧ hp_sn.getD (wtx w) 0 ≤ 6 ∧ (∀ j, j < hp_sn.getD (wtx w) 0 → isL (hp_ch (wtx w) j) = true) ∧ (ms_w w).toInt = (frl (rdl (fun j => (hp_ch (wtx w) j).toInt.toNat - 96) (hp_sn.getD (wtx w) 0)) : Int) := by decide +kernel
/-- the token at q spells a text -/
def spl (t : Nat → Int32) (N q i : Nat) : Prop := tkS t N q = 1 ∧ tkN t N q - q = hp_sn.getD i 0 ∧ ∀ j, j < hp_sn.getD i 0 → t (q + j) = hp_ch i j
theorem ru_all (f : Int32 → Bool) (t : Nat → Int32) : ∀ (d p : Nat), ∀ j, p ≤ j → j < ru f t d p → f (t j) = true := by
  intro d
  induction d with
  | zero => intro p j h1 h2; rw [ru] at h2; omega
  | succ d ih =>
    intro p j h1 h2
    rw [ru] at h2
    by_cases hf : f (t p) = true
    · rw [if_pos hf] at h2
      by_cases hj : j = p
      · rw [hj]; exact hf
      · exact ih (p + 1) j (by omega) h2
    · rw [if_neg hf] at h2; omega
theorem tk_word {t : Nat → Int32} {N q : Nat} (h : tkK t N q = 1) : q < N ∧ tkS t N q = 1 ∧ ∀ j, j < tkN t N q - q → isL (t (q + j)) = true := by
  have hq : q < N := Nat.lt_of_not_le (fun h2 => by unfold tkK at h; rw [if_pos h2] at h; exact absurd h (by decide))
  have hL : isL (t q) = true := by unfold tkK at h; rw [if_neg (by omega)] at h; exact kof_L.mp h
  refine ⟨hq, ?_, fun j hj => ?_⟩
  · unfold tkS; rw [if_neg (fun e => by rw [h] at e; exact absurd e.1 (by decide))]; exact h
  · unfold tkN at hj
    rw [if_neg (by omega), if_pos hL] at hj
    exact ru_all isL t (N - q) q (q + j) (by omega) (by omega)
theorem tkS_1 {t : Nat → Int32} {N q : Nat} : tkS t N q = 1 → tkK t N q = 1 := by
  unfold tkS
  intro h
  split at h
  · exact absurd h (by decide)
  · exact h
theorem isL_26 {c : Int32} (h : isL c = true) : 97 ≤ c.toInt ∧ c.toInt ≤ 122 := by
  unfold isL at h
  simpa using h
theorem spl_w {t : Nat → Int32} {N q w : Nat} (hw : w < 12) (hk : tkK t N q = 1) : spl t N q (wtx w) ↔ (lv8 t q (min 8 (tkN t N q - q)) = ms_w w ∧ tkN t N q - q ≤ 8) := by
  obtain ⟨hq, hs, hL⟩ := tk_word hk
  obtain ⟨w1, w2, w3, w4, w5⟩ := wtx_ok w hw
  have key : tkN t N q - q ≤ 8 → ((lv8 t q (tkN t N q - q) = ms_w w) ↔ (tkN t N q - q = hp_sn.getD (wtx w) 0 ∧ ∀ j, j < tkN t N q - q → dgt t q j = (hp_ch (wtx w) j).toInt.toNat - 96)) := by
    intro h8
    rw [← Int64.toInt_inj, lv8_n t q _ h8 hL, w5, Int.ofNat_inj]
    rw [← rdl_eq]
    constructor
    · intro h
      refine frl_inj _ _ (rdl_mem _ _ _ (fun j hj => ?_)) (rdl_mem _ _ _ (fun j hj => ?_)) h
      · have := isL_26 (hL j hj); unfold dgt; omega
      · have := isL_26 (w4 j hj); omega
    · intro h; rw [h]
  constructor
  · rintro ⟨-, h2, h3⟩
    have h8 : tkN t N q - q ≤ 8 := by omega
    refine ⟨?_, h8⟩
    rw [show min 8 (tkN t N q - q) = tkN t N q - q by omega]
    refine (key h8).mpr ⟨h2, fun j hj => ?_⟩
    unfold dgt
    rw [h3 j (by omega)]
  · rintro ⟨h1, h8⟩
    rw [show min 8 (tkN t N q - q) = tkN t N q - q by omega] at h1
    obtain ⟨h2, h3⟩ := (key h8).mp h1
    refine ⟨hs, h2, fun j hj => ?_⟩
    have a := isL_26 (hL j (by omega))
    have b := isL_26 (w4 j hj)
    have c := h3 j (by omega)
    unfold dgt at c
    exact Int32.toInt_inj.mp (by omega)
theorem cmp0 (a b : Int64) : lg_cmp a b = 0 ↔ a = b := by
  unfold lg_cmp
  constructor
  · intro h
    split at h
    · exact absurd h (by decide)
    · split at h
      · assumption
      · exact absurd h (by decide)
  · intro h
    subst h
    rw [if_neg (fun h => by have h2 : a < a := h; rw [Int64.lt_iff_toInt_lt] at h2; omega), if_pos rfl]
theorem v_isWord (n : Nat) {σ : ms_T} {t : Nat → Int32} {N q : Nat} (hS : RST σ t N q) (hq : q ≤ 900) (hN : N ≤ 900) (w : Nat) (hw : w < 12) (wI : Int32) (hwI : wI.toInt = (w : Int)) : pr (f_X12_isWord n σ wI) (fun r => bo r (ms_I σ 670 = 0 ∧ spl t N q (wtx w))) := by
  obtain ⟨h1, h2, h3, h4, h5⟩ := hS
  have L8 := t_8
  unfold f_X12_isWord
  refine pr_i (fun e0 => pr_i (fun e1 => pr_g (fun _ _ => ?_)) (fun e1 => pr_s (Or.inr ⟨rfl, fun h => e1 (h2.trans h.2.1)⟩))) (fun e0 => pr_s (Or.inr ⟨rfl, fun h => e0 h.1⟩))
  have hk := tkS_1 (h2.symm.trans e1)
  obtain ⟨hqN, -, -⟩ := tk_word hk
  have hb := tkN_le t hqN
  have hsub : (ms_I σ 673 - ms_I σ 672).toInt = ((tkN t N q - q : Nat) : Int) := by rw [ii_sub (by omega) (by omega), h1, h3]; omega
  rw [cl_n hwI, h5 hk]
  have hiff := spl_w (t := t) (N := N) (q := q) hw hk
  refine pr_i (fun e2 => pr_lt (fun e3 => pr_s (Or.inr ⟨rfl, fun h => ?_⟩)) (fun e3 => pr_s (Or.inl ⟨rfl, e0, ?_⟩))) (fun e2 => pr_s (Or.inr ⟨rfl, fun h => ?_⟩))
  · rw [hsub, L8] at e3
    have := (hiff.mp h.2).2
    omega
  · rw [hsub, L8] at e3
    exact hiff.mpr ⟨(cmp0 _ _).mp e2, by omega⟩
  · exact e2 ((cmp0 _ _).mpr (hiff.mp h.2).1)
theorem sn_8 : ∀ i, i < 21 → hp_sn.getD i 0 < 8 := by decide
theorem hp_len_n (i : Nat) (hi : i < 21) : (hp_len i).toInt = (hp_sn.getD i 0 : Int) := by
  have := sn_8 i hi
  unfold hp_len
  exact Int32.toInt_ofNat_of_lt (by omega)
theorem k_spells_L (n : Nat) {α : hp_T} {sc : Nat} {t : Nat → Int32} {N q i : Nat} (hi : i < 21) (hB : SB α sc t N) (hp : (hp_I α 354 sc).toInt = (q : Int)) (hq : q ≤ N) : ∀ (d k : Nat) (kI b : Int32), kI.toInt = (k : Int) → k ≤ hp_sn.getD i 0 → (b = 0 ∨ b = 1) → (b = 1 → q + hp_sn.getD i 0 ≤ N) → 10 - k ≤ d → ws (f_X6_spells_L27 n α sc i d b kI) (fun r => bo r (b = 1 ∧ ∀ j, k ≤ j → j < hp_sn.getD i 0 → t (q + j) = hp_ch i j)) := by
  intro d
  induction d with
  | zero => intro k kI b h1 h2 h3 h4 h5; have := sn_8 i hi; omega
  | succ d ih =>
    intro k kI b h1 h2 h3 h4 h5
    have h8 := sn_8 i hi
    have hl := hp_len_n i hi
    have hN := hB.1
    rw [f_X6_spells_L27.eq_2]
    refine ws_le (fun e => ws_z h3 (ws_s ?_)) (fun e => ws_i (fun e0 => ws_z h3 (ws_s (Or.inr ⟨e0, fun h => ?_⟩))) (fun e0 => ?_))
    · rw [hl] at e
      rcases h3 with h3 | h3
      · exact Or.inr ⟨h3, fun h => by rw [h3] at h; exact absurd h.1 (by decide)⟩
      · exact Or.inl ⟨h3, h3, fun j hj1 hj2 => by omega⟩
    · rw [e0] at h; exact absurd h.1 (by decide)
    · rw [hl] at e
      have hb1 : b = 1 := by rcases h3 with h | h; exact absurd h e0; exact h
      have hpk : (hp_I α 354 sc + kI).toInt = ((q + k : Nat) : Int) := by rw [ii_add (by omega) (by omega), hp, h1]; omega
      have hkn : (kI + 1).toInt = ((k + 1 : Nat) : Int) := by rw [ii_add (by rw [lt1]; omega) (by rw [lt1]; omega), h1, lt1]; omega
      have h4' := h4 hb1
      unfold f_X6_spells_J62
      refine ws_l (ws_b (k_byteAt n hB (q + k) _ hpk) (fun c hc => ws_q (by omega) (by rw [hl]; omega) ?_))
      rw [if_pos (by omega)] at hc
      rw [cl_n h1]
      refine ws_i (fun e1 => ws_l (ws_m (ih (k + 1) _ 1 hkn (by omega) (Or.inr rfl) (fun _ => h4') (by omega)) (fun r hr => ?_))) (fun e1 => ws_l (ws_m (ih (k + 1) _ 0 hkn (by omega) (Or.inl rfl) (fun h => absurd h (by decide)) (by omega)) (fun r hr => ?_)))
      · rcases hr with ⟨g1, -, g2⟩ | ⟨g1, g2⟩
        · refine Or.inl ⟨g1, hb1, fun j hj1 hj2 => ?_⟩
          by_cases hj : j = k
          · rw [hj, ← hc]; exact e1
          · exact g2 j (by omega) hj2
        · exact Or.inr ⟨g1, fun h => g2 ⟨rfl, fun j hj1 hj2 => h.2 j (by omega) hj2⟩⟩
      · rcases hr with ⟨g1, g2, -⟩ | ⟨g1, g2⟩
        · exact absurd g2 (by decide)
        · refine Or.inr ⟨g1, fun h => e1 ?_⟩
          rw [hc]
          exact h.2 k (Nat.le_refl _) (by omega)
theorem k_spells (n : Nat) (hn : 70000 ≤ n) {α : hp_T} {sc : Nat} {t : Nat → Int32} {N q i : Nat} (hi : i < 21) (hB : SB α sc t N) (hS : SCT α sc t N q) (hq : q ≤ N) : ws (f_X6_spells n α sc i) (fun r => bo r (spl t N q i)) := by
  obtain ⟨h1, h2, h3, h4, h5⟩ := hS
  have hl := hp_len_n i hi
  have hJ : ¬ spl t N q i → ws (f_X6_spells_J23 n α sc i) (fun r => bo r (spl t N q i)) := by
    intro hno
    unfold f_X6_spells_J23 f_X6_spells_J24
    refine ws_m (k_spells_L n hi hB h1 hq n 0 0 0 rfl (Nat.zero_le _) (Or.inl rfl) (fun h => absurd h (by decide)) (by omega)) (fun r hr => ?_)
    rcases hr with ⟨-, g, -⟩ | ⟨g, -⟩
    · exact absurd g (by decide)
    · exact Or.inr ⟨g, hno⟩
  unfold f_X6_spells
  refine ws_l (ws_i (fun e1 => ws_l (ws_e (fun e2 => ?_) (fun e2 => hJ (fun h => e2 ?_)))) (fun e1 => hJ (fun h => e1 (h2.trans h.1))))
  · have hk := tkS_1 (h2.symm.trans e1)
    obtain ⟨hqN, hs, -⟩ := tk_word hk
    have hb := tkN_le t hqN
    have e2' := il_eq e2
    rw [h4, if_neg (by omega), hl] at e2'
    unfold f_X6_spells_J24
    refine ws_m (k_spells_L n hi hB h1 hq n 0 0 1 rfl (Nat.zero_le _) (Or.inr rfl) (fun _ => by omega) (by omega)) (fun r hr => ?_)
    rcases hr with ⟨g1, -, g2⟩ | ⟨g1, g2⟩
    · exact Or.inl ⟨g1, hs, by omega, fun j hj => g2 j (Nat.zero_le _) hj⟩
    · exact Or.inr ⟨g1, fun h => g2 ⟨rfl, fun j _ hj => h.2.2 j hj⟩⟩
  · have hk := tkS_1 h.1
    obtain ⟨hqN, -, -⟩ := tk_word hk
    have hb := tkN_le t hqN
    rw [h4, if_neg (by omega), hl]
    have := h.2.1
    omega
