/-! ===== the reader ===== -/
/-- of the letters that are read: the end, where the word stands, what is wrong -/
def PI (σ : ms_T) : Prop := (0 ≤ (ms_I σ 676).toInt ∧ (ms_I σ 676).toInt ≤ 900) ∧ 0 ≤ (ms_I σ 672).toInt ∧ (ms_I σ 672).toInt < (ms_I σ 673).toInt ∧ (¬ (ms_I σ 674).toInt = 0 → (ms_I σ 673).toInt ≤ (ms_I σ 676).toInt) ∧ 0 ≤ (ms_I σ 670).toInt
theorem s_isOf (n : Nat) {σ : ms_T} (h : (ms_I σ 676).toInt ≤ 900) (a b c : Int32) (h0 : 0 ≤ a.toInt) : ws (f_X12_isOf n σ a b c) (fun r => r = 0 ∨ (r = 1 ∧ a.toInt < (ms_I σ 676).toInt)) := by
  unfold f_X12_isOf
  exact ws_le (fun _ => ws_s (Or.inl rfl)) (fun g => ws_g h0 (by omega) (ws_b (s_isIn n _ _ _) (fun _ _ => ws_i (fun _ => ws_s (Or.inl rfl)) (fun _ => ws_s (Or.inr ⟨rfl, g⟩)))))
theorem isOf_c (n : Nat) {σ τ : ms_T} (h1 : ms_I τ 676 = ms_I σ 676) (h2 : ∀ j, ms_E τ 47 j = ms_E σ 47 j) (a b c : Int32) : f_X12_isOf n τ a b c = f_X12_isOf n σ a b c := by
  unfold f_X12_isOf
  rw [h1, h2]
/-- what reads leaves -/
def rd (σ0 τ : ms_T) : Prop := fr [672, 673, 674, 675] [] σ0 τ ∧ 0 ≤ (ms_I τ 672).toInt ∧ (ms_I τ 672).toInt < (ms_I τ 673).toInt ∧ (¬ (ms_I τ 674).toInt = 0 → (ms_I τ 673).toInt ≤ (ms_I σ0 676).toInt)
theorem s_rd141 (n : Nat) (x : Int32) : ∀ (k : Nat) (σ0 σ : ms_T), fr [672, 673, 674, 675] [] σ0 σ → (ms_I σ0 676).toInt ≤ 900 → ms_I σ 672 = x → ms_I σ 674 = 1 → 0 ≤ x.toInt → x.toInt < (ms_I σ 673).toInt → (ms_I σ 673).toInt ≤ (ms_I σ0 676).toInt → 901 - (ms_I σ 673).toInt ≤ (k : Int) → ws (f_X12_reads_L141 n k σ) (fun τ => rd σ0 τ ∧ ms_I τ 672 = x) := by
  intro k
  induction k with
  | zero => intro σ0 σ hf h9 hx h4 g0 g1 g2 g3; omega
  | succ k ih =>
    intro σ0 σ hf h9 hx h4 g0 g1 g2 g3
    have e6 : ms_I σ 676 = ms_I σ0 676 := hf.1 676 (by decide)
    rw [f_X12_reads_L141.eq_2]
    refine ws_b (s_isOf n (by rw [e6]; exact h9) _ _ _ (by omega)) (fun r hr => ws_i (fun _ => ws_s ⟨⟨hf, by rw [hx]; exact g0, by rw [hx]; exact g1, fun _ => g2⟩, hx⟩) (fun q => ?_))
    have hlt := (hr.resolve_left q).2
    rw [e6] at hlt
    have e1 : (ms_I σ 673 + 1).toInt = (ms_I σ 673).toInt + 1 := by rw [iw_add, lt1]; omega
    have hJ : ∀ J, ws (f_X12_reads_J201 n (f_X12_reads_L141 n k) σ J) (fun τ => rd σ0 τ ∧ ms_I τ 672 = x) := by
      intro J
      unfold f_X12_reads_J201
      refine ws_l (ws_l (ih σ0 _ (fr_tr hf (fr_tr fr_sJ (fr_sI (by decide)))) h9 ?_ ?_ g0 ?_ ?_ ?_))
      · rw [mI_sI, if_neg (by decide), mI_sJ]; exact hx
      · rw [mI_sI, if_neg (by decide), mI_sJ]; exact h4
      · rw [mI_sI, if_pos rfl, mI_sJ, e1]; omega
      · rw [mI_sI, if_pos rfl, mI_sJ, e1]; omega
      · rw [mI_sI, if_pos rfl, mI_sJ, e1]; omega
    exact ws_i (fun _ => hJ _) (fun _ => ws_g (by omega) (by omega) (hJ _))
theorem s_rd245 (n : Nat) (x : Int32) : ∀ (k : Nat) (σ0 σ : ms_T), fr [672, 673, 674, 675] [] σ0 σ → (ms_I σ0 676).toInt ≤ 900 → ms_I σ 672 = x → 0 ≤ x.toInt → x.toInt < (ms_I σ 673).toInt → (ms_I σ 673).toInt ≤ (ms_I σ0 676).toInt → 901 - (ms_I σ 673).toInt ≤ (k : Int) → ws (f_X12_reads_L245 n k σ) (fun τ => rd σ0 τ ∧ ms_I τ 672 = x) := by
  intro k
  induction k with
  | zero => intro σ0 σ hf h9 hx g0 g1 g2 g3; omega
  | succ k ih =>
    intro σ0 σ hf h9 hx g0 g1 g2 g3
    have e6 : ms_I σ 676 = ms_I σ0 676 := hf.1 676 (by decide)
    rw [f_X12_reads_L245.eq_2]
    have hz : ∀ v : Int32, rd σ0 (ms_sI σ 674 v) ∧ ms_I (ms_sI σ 674 v) 672 = x := by
      intro v
      refine ⟨⟨fr_tr hf (fr_sI (by decide)), ?_, ?_, fun _ => ?_⟩, ?_⟩
      · rw [mI_sI, if_neg (by decide), hx]; exact g0
      · rw [mI_sI, if_neg (by decide), mI_sI, if_neg (by decide), hx]; exact g1
      · rw [mI_sI, if_neg (by decide)]; exact g2
      · rw [mI_sI, if_neg (by decide)]; exact hx
    refine ws_b (s_isOf n (by rw [e6]; exact h9) _ _ _ (by omega)) (fun r hr => ws_i (fun _ => ws_i (fun _ => ws_l (ws_s (hz _))) (fun _ => ws_l (ws_s (hz _)))) (fun q => ?_))
    have hlt := (hr.resolve_left q).2
    rw [e6] at hlt
    have e1 : (ms_I σ 673 + 1).toInt = (ms_I σ 673).toInt + 1 := by rw [iw_add, lt1]; omega
    have hJ : ∀ J, ws (f_X12_reads_J301 n (f_X12_reads_L245 n k) σ J) (fun τ => rd σ0 τ ∧ ms_I τ 672 = x) := by
      intro J
      unfold f_X12_reads_J301
      have e3 : ms_I (ms_sI σ 675 J) 673 = ms_I σ 673 := by rw [mI_sI, if_neg (by decide)]
      refine ws_l (ws_l (ih σ0 _ (fr_tr hf (fr_tr (fr_sI (by decide)) (fr_sI (by decide)))) h9 ?_ g0 ?_ ?_ ?_))
      · rw [mI_sI, if_neg (by decide), mI_sI, if_neg (by decide)]; exact hx
      · rw [mI_sI, if_pos rfl, e3, e1]; omega
      · rw [mI_sI, if_pos rfl, e3, e1]; omega
      · rw [mI_sI, if_pos rfl, e3, e1]; omega
    exact ws_i (fun _ => hJ _) (fun _ => ws_g (by omega) (by omega) (hJ _))
theorem s_rd60 (n : Nat) (hn : 70000 ≤ n) (σ0 σ : ms_T) (hf : fr [672, 673, 674, 675] [] σ0 σ) (h9 : (ms_I σ0 676).toInt ≤ 900) (h0 : 0 ≤ (ms_I σ 672).toInt) (h1 : (ms_I σ 672).toInt ≤ 2000) : ws (f_X12_reads_J60 n σ) (fun τ => rd σ0 τ ∧ ms_I τ 672 = ms_I σ 672) := by
  unfold f_X12_reads_J60
  refine ws_ln (fun σ3 hs3 => ?_)
  have x2 : ms_I σ3 672 = ms_I σ 672 := by rw [hs3, mI_sI, if_neg (by decide)]
  have x3 : (ms_I σ3 673).toInt = (ms_I σ 672).toInt + 1 := by rw [hs3, mI_sI, if_pos rfl, iw_add, lt1]; omega
  have f3 : fr [672, 673, 674, 675] [] σ0 σ3 := by rw [hs3]; exact fr_tr hf (fr_sI (by decide))
  have e6 : ms_I σ3 676 = ms_I σ0 676 := f3.1 676 (by decide)
  have hJ : ∀ w : Int32, (¬ w.toInt = 0 → (ms_I σ 672).toInt < (ms_I σ0 676).toInt) → ws (f_X12_reads_J105 n σ3 w) (fun τ => rd σ0 τ ∧ ms_I τ 672 = ms_I σ 672) := by
    intro w hw
    unfold f_X12_reads_J105
    refine ws_ln (fun σ5 hs5 => ?_)
    have y2 : ms_I σ5 672 = ms_I σ 672 := by rw [hs5, mI_sI, if_neg (by decide), x2]
    have y3 : (ms_I σ5 673).toInt = (ms_I σ 672).toInt + 1 := by rw [hs5, mI_sI, if_neg (by decide), x3]
    have y4 : ms_I σ5 674 = w := by rw [hs5, mI_sI, if_pos rfl]
    have f5 : fr [672, 673, 674, 675] [] σ0 σ5 := by rw [hs5]; exact fr_tr f3 (fr_sI (by decide))
    have e65 : ms_I σ5 676 = ms_I σ0 676 := f5.1 676 (by decide)
    have hq : ∀ b c, ws (f_X12_isOf n σ5 (ms_I σ5 672) b c) (fun r => r = 0 ∨ (r = 1 ∧ (ms_I σ5 672).toInt < (ms_I σ5 676).toInt)) := fun b c => s_isOf n (by rw [e65]; exact h9) _ b c (by rw [y2]; exact h0)
    have hend : rd σ0 σ5 ∧ ms_I σ5 672 = ms_I σ 672 := ⟨⟨f5, by rw [y2]; exact h0, by rw [y2]; omega, fun g => by rw [y4] at g; have := hw g; omega⟩, y2⟩
    obtain ⟨r, er, hr⟩ := hq 97 122
    refine ws_b (S := fun q => q = r) ⟨r, er, rfl⟩ (fun r' g1 => ?_)
    subst g1
    refine ws_i (fun _ => ?_) (fun q => ?_)
    · obtain ⟨s, es, hs⟩ := hq 48 57
      refine ws_b (S := fun q => q = s) ⟨s, es, rfl⟩ (fun s' g1 => ?_)
      subst g1
      refine ws_i (fun _ => ws_s hend) (fun q => ?_)
      have hlt := (hs.resolve_left q).2
      rw [y2, e65] at hlt
      refine ws_l (ws_ln (fun σ9 hs9 => ?_))
      have z2 : ms_I σ9 672 = ms_I σ 672 := by rw [hs9, mI_sI, if_neg (by decide), mI_sI, if_neg (by decide), y2]
      have z3 : ms_I σ9 673 = ms_I σ 672 := by rw [hs9, mI_sI, if_pos rfl, mI_sI, if_neg (by decide), y2]
      have f9 : fr [672, 673, 674, 675] [] σ0 σ9 := by rw [hs9]; exact fr_tr f5 (fr_tr (fr_sI (by decide)) (fr_sI (by decide)))
      have hE : ∀ j, ms_E σ9 47 j = ms_E σ5 47 j := fun j => by rw [f9.2 47 (by simp), f5.2 47 (by simp)]
      obtain ⟨n', rfl⟩ : ∃ n', n = n' + 1 := ⟨n - 1, by omega⟩
      have ei : f_X12_isOf (n' + 1) σ9 (ms_I σ9 673) 48 57 = some s' := by
        rw [isOf_c (n' + 1) (σ := σ5) (by rw [f9.1 676 (by decide), e65]) hE, z3, ← y2]; exact es
      rw [f_X12_reads_L245.eq_2]
      refine ws_b (S := fun t => t = s') ⟨s', ei, rfl⟩ (fun t' g1 => ?_)
      rw [g1, if_neg q]
      have e1 : (ms_I σ 672 + 1).toInt = (ms_I σ 672).toInt + 1 := by rw [iw_add, lt1]; omega
      have hJ3 : ∀ J, ws (f_X12_reads_J301 (n' + 1) (f_X12_reads_L245 (n' + 1) n') σ9 J) (fun τ => rd σ0 τ ∧ ms_I τ 672 = ms_I σ 672) := by
        intro J
        unfold f_X12_reads_J301
        have e3 : ms_I (ms_sI σ9 675 J) 673 = ms_I σ 672 := by rw [mI_sI, if_neg (by decide), z3]
        refine ws_l (ws_l (s_rd245 (n' + 1) (ms_I σ 672) n' σ0 _ (fr_tr f9 (fr_tr (fr_sI (by decide)) (fr_sI (by decide)))) h9 ?_ h0 ?_ ?_ ?_))
        · rw [mI_sI, if_neg (by decide), mI_sI, if_neg (by decide)]; exact z2
        · rw [mI_sI, if_pos rfl, e3, e1]; omega
        · rw [mI_sI, if_pos rfl, e3, e1]; omega
        · rw [mI_sI, if_pos rfl, e3, e1]; omega
      exact ws_i (fun _ => hJ3 _) (fun _ => ws_g (by rw [z3]; omega) (by rw [z3]; omega) (hJ3 _))
    · have hlt := (hr.resolve_left q).2
      rw [y2, e65] at hlt
      refine ws_l (ws_l (ws_ln (fun σ9 hs9 => ?_)))
      have z2 : ms_I σ9 672 = ms_I σ 672 := by rw [hs9, mI_sI, if_neg (by decide), mI_sJ, mI_sI, if_neg (by decide), y2]
      have z3 : ms_I σ9 673 = ms_I σ 672 := by rw [hs9, mI_sI, if_pos rfl, mI_sJ, mI_sI, if_neg (by decide), y2]
      have z4 : ms_I σ9 674 = 1 := by rw [hs9, mI_sI, if_neg (by decide), mI_sJ, mI_sI, if_pos rfl]
      have f9 : fr [672, 673, 674, 675] [] σ0 σ9 := by rw [hs9]; exact fr_tr f5 (fr_tr (fr_sI (by decide)) (fr_tr fr_sJ (fr_sI (by decide))))
      have hE : ∀ j, ms_E σ9 47 j = ms_E σ5 47 j := fun j => by rw [f9.2 47 (by simp), f5.2 47 (by simp)]
      obtain ⟨n', rfl⟩ : ∃ n', n = n' + 1 := ⟨n - 1, by omega⟩
      have ei : f_X12_isOf (n' + 1) σ9 (ms_I σ9 673) 97 122 = some r' := by
        rw [isOf_c (n' + 1) (σ := σ5) (by rw [f9.1 676 (by decide), e65]) hE, z3, ← y2]; exact er
      rw [f_X12_reads_L141.eq_2]
      refine ws_b (S := fun t => t = r') ⟨r', ei, rfl⟩ (fun t' g1 => ?_)
      rw [g1, if_neg q]
      have e1 : (ms_I σ 672 + 1).toInt = (ms_I σ 672).toInt + 1 := by rw [iw_add, lt1]; omega
      have hJ3 : ∀ J, ws (f_X12_reads_J201 (n' + 1) (f_X12_reads_L141 (n' + 1) n') σ9 J) (fun τ => rd σ0 τ ∧ ms_I τ 672 = ms_I σ 672) := by
        intro J
        unfold f_X12_reads_J201
        refine ws_l (ws_l (s_rd141 (n' + 1) (ms_I σ 672) n' σ0 _ (fr_tr f9 (fr_tr fr_sJ (fr_sI (by decide)))) h9 ?_ ?_ h0 ?_ ?_ ?_))
        · rw [mI_sI, if_neg (by decide), mI_sJ]; exact z2
        · rw [mI_sI, if_neg (by decide), mI_sJ]; exact z4
        · rw [mI_sI, if_pos rfl, mI_sJ, z3, e1]; omega
        · rw [mI_sI, if_pos rfl, mI_sJ, z3, e1]; omega
        · rw [mI_sI, if_pos rfl, mI_sJ, z3, e1]; omega
      exact ws_i (fun _ => hJ3 _) (fun _ => ws_g (by rw [z3]; omega) (by rw [z3]; omega) (hJ3 _))
  refine ws_lt (fun c => ws_g (by rw [x2]; omega) (by rw [x2, e6] at c; rw [x2]; omega) (ws_i (fun _ => hJ _ (fun _ => ?_)) (fun _ => hJ _ (fun _ => ?_)))) (fun _ => hJ _ (fun g => absurd lt0 g))
  · rw [x2, e6] at c; exact c
  · rw [x2, e6] at c; exact c
theorem s_rd8 (n : Nat) (hn : 70000 ≤ n) : ∀ (k : Nat) (σ0 σ : ms_T) (x : Int), fr [672, 673, 674, 675] [] σ0 σ → (ms_I σ0 676).toInt ≤ 900 → 0 ≤ x → x ≤ (ms_I σ 672).toInt → (ms_I σ 672).toInt ≤ 1000 → 1001 - (ms_I σ 672).toInt ≤ (k : Int) → ws (f_X12_reads_L8 n k σ) (fun τ => rd σ0 τ ∧ x ≤ (ms_I τ 672).toInt) := by
  intro k
  induction k with
  | zero => intro σ0 σ x hf h9 g0 g1 g2 g3; omega
  | succ k ih =>
    intro σ0 σ x hf h9 g0 g1 g2 g3
    have e6 : ms_I σ 676 = ms_I σ0 676 := hf.1 676 (by decide)
    rw [f_X12_reads_L8.eq_2, e6]
    have h60 : ws (f_X12_reads_J60 n σ) (fun τ => rd σ0 τ ∧ x ≤ (ms_I τ 672).toInt) := ws_m (s_rd60 n hn σ0 σ hf h9 (by omega) (by omega)) (fun τ hτ => ⟨hτ.1, by rw [hτ.2]; exact g1⟩)
    refine ws_le (fun _ => h60) (fun c => ?_)
    have hJ : ws (f_X12_reads_J47 n (f_X12_reads_L8 n k) σ) (fun τ => rd σ0 τ ∧ x ≤ (ms_I τ 672).toInt) := by
      unfold f_X12_reads_J47
      have e1 : (ms_I σ 672 + 1).toInt = (ms_I σ 672).toInt + 1 := by rw [iw_add, lt1]; omega
      refine ws_l (ih σ0 _ x (fr_tr hf (fr_sI (by decide))) h9 g0 ?_ ?_ ?_)
      · rw [mI_sI, if_pos rfl, e1]; omega
      · rw [mI_sI, if_pos rfl, e1]; omega
      · rw [mI_sI, if_pos rfl, e1]; omega
    exact ws_g (by omega) (by omega) (ws_i (fun _ => hJ) (fun _ => ws_g (by omega) (by omega) (ws_i (fun _ => hJ) (fun _ => h60))))
/-- reads: from a place within, the word goes on -/
theorem s_reads (n : Nat) (hn : 70000 ≤ n) (σ : ms_T) (h9 : (ms_I σ 676).toInt ≤ 900) (h0 : 0 ≤ (ms_I σ 673).toInt) (h1 : (ms_I σ 673).toInt ≤ (ms_I σ 676).toInt) : ws (f_X12_reads n σ) (fun τ => rd σ τ ∧ (ms_I σ 673).toInt < (ms_I τ 673).toInt) := by
  unfold f_X12_reads
  have e2 : ms_I (ms_sI σ 672 (ms_I σ 673)) 672 = ms_I σ 673 := by rw [mI_sI, if_pos rfl]
  refine ws_l (ws_m (s_rd8 n hn n σ _ (ms_I σ 673).toInt (fr_sI (by decide)) h9 h0 (by rw [e2]; omega) (by rw [e2]; omega) (by rw [e2]; omega)) (fun τ hτ => ⟨hτ.1, ?_⟩))
  have := hτ.1.2.2.1
  omega
/-! what must be -/
theorem s_must (n : Nat) (σ : ms_T) (a b : Int32) (h0 : 0 ≤ (ms_I σ 670).toInt) (hb : 0 < b.toInt) : ws (f_X12_must n σ a b) (fun τ => fr [670, 671] [] σ τ ∧ 0 ≤ (ms_I τ 670).toInt ∧ ((ms_I τ 670).toInt = 0 → ¬ a = 0 ∧ (ms_I σ 670).toInt = 0)) := by
  have hJ : ∀ w : Int32, 0 < w.toInt → ws (f_X12_must_J31 n σ w) (fun τ => fr [670, 671] [] σ τ ∧ 0 ≤ (ms_I τ 670).toInt ∧ ((ms_I τ 670).toInt = 0 → ¬ a = 0 ∧ (ms_I σ 670).toInt = 0)) := by
    intro w hw
    unfold f_X12_must_J31
    have e : ms_I (ms_sI (ms_sI σ 670 w) 671 (ms_I (ms_sI σ 670 w) 672)) 670 = w := by rw [mI_sI, if_neg (by decide), mI_sI, if_pos rfl]
    refine ws_l (ws_l (ws_s ⟨fr_tr (fr_sI (by decide)) (fr_sI (by decide)), by rw [e]; omega, fun q => by rw [e] at q; omega⟩))
  unfold f_X12_must f_X12_must_J30
  refine ws_i (fun _ => ws_le (fun _ => ws_i (fun _ => ws_i (fun _ => hJ _ (by decide)) (fun _ => hJ _ hb)) (fun _ => hJ _ hb)) (fun c => ws_s ⟨fr_rf, h0, fun q => by rw [lt0] at c; omega⟩)) (fun c => ws_s ⟨fr_rf, h0, fun q => ⟨c, q⟩⟩)
theorem s_isWord (n : Nat) (σ : ms_T) (a : Int32) (h0 : 0 ≤ a.toInt) (h1 : a.toInt ≤ 11) : ws (f_X12_isWord n σ a) (fun r => ¬ r = 0 → (ms_I σ 670).toInt = 0 ∧ (ms_I σ 674).toInt = 1) := by
  unfold f_X12_isWord
  refine ws_ee (fun _ e => ws_ee (fun _ g => ws_g h0 (by omega) (ws_i (fun _ => ws_i (fun _ => ws_s (fun q => absurd rfl q)) (fun _ => ws_s (fun _ => ⟨e, g⟩))) (fun _ => ws_s (fun q => absurd rfl q)))) (fun _ => ws_s (fun q => absurd rfl q))) (fun _ => ws_s (fun q => absurd rfl q))
