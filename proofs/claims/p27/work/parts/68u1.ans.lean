set_option maxRecDepth 100000
/-! ===== head ===== -/
theorem v_noSize (n : Nat) (σ : ms_T) (hC : rC (ms_E σ 40)) (a b : Int32) : pr (f_X12_noSize n σ a b) (fun v => (v = 0 ∧ 0 ≤ b.toInt ∧ (0 ≤ a.toInt ∧ a.toInt < (ms_E σ 40 0).toInt) ∧ b.toInt ≤ (ms_E σ 40 (72 + a.toInt.toNat)).toInt) ∨ (¬ v = 0 ∧ ¬ (0 ≤ b.toInt ∧ (0 ≤ a.toInt ∧ a.toInt < (ms_E σ 40 0).toInt) ∧ b.toInt ≤ (ms_E σ 40 (72 + a.toInt.toNat)).toInt))) := by
  have h4 := hC.1
  unfold f_X12_noSize
  refine pr_le (fun e => pr_bo (pr_w (s_isRecord hC a)) (fun h0 => pr_s (Or.inr ⟨by decide, fun q => h0 q.2.1⟩)) (fun h1 => ?_)) (fun e => pr_s (Or.inr ⟨by decide, fun q => by rw [lt0] at e; omega⟩))
  rw [lt0] at e
  unfold f_X12_sizeOf
  refine pr_b (T := fun v => v = ms_E σ 40 (72 + a.toInt.toNat)) (pr_g (fun g0 g1 => pr_s ?_)) (fun v hv => ?_)
  · rw [cl_n (i := (72 : Int32) + a) (k := 72 + a.toInt.toNat) (by rw [iw_add, t_72]; omega)]
  · rw [hv]
    exact pr_le (fun e2 => pr_s (Or.inl ⟨rfl, e, h1, e2⟩)) (fun e2 => pr_s (Or.inr ⟨by decide, fun q => by omega⟩))
abbrev hdOK (f : Nat → Int32) (a b : Int32) : Prop := 0 ≤ b.toInt ∧ (0 ≤ a.toInt ∧ a.toInt < (f 0).toInt) ∧ b.toInt ≤ (f (72 + a.toInt.toNat)).toInt
def hdA (f : Nat → Int32) (a b : Int32) : Int32 := if hdOK f a b then TMK (f 1) (EL f a.toInt.toNat) 0 b.toInt.toNat else -1
theorem v_head (n : Nat) (σ : ms_T) (hC : rC (ms_E σ 40)) (a b : Int32) : pr (f_X12_head n σ a b) (fun res => res.1 = hdA (ms_E σ 40) a b) := by
  have h4 := hC.1
  unfold f_X12_head hdA
  refine pr_b (v_noSize n σ hC a b) (fun v hv => ?_)
  rcases hv with ⟨rfl, ok⟩ | ⟨hv, no⟩
  · refine v_is0 n σ ?_
    rw [if_pos ok]
    refine pr_b (v_headOf n (ms_sI (ms_sI σ 653 0) 652 0) hC a.toInt.toNat (by omega) a (by omega) b.toInt.toNat b (by omega) ?_) (fun v hv => pr_s hv)
    rw [EL_len]
    show b.toInt.toNat ≤ (ms_E σ 40 (72 + a.toInt.toNat)).toInt.toNat
    omega
  · refine v_is1 n σ v hv (pr_s ?_)
    rw [if_neg no]
theorem k_head (n : Nat) (hn : 70000 ≤ n) (α : hp_T) (x : Nat) (f : Nat → Int32) (hC : rC f) (h : RWX α x f) (a b : Int32) : ws (f_X11_head n α x a b) (fun res => res.1 = hdA f a b) := by
  obtain ⟨w, u, h1, h2, h3, h4, -⟩ := h
  have hm := h4.2.1.1
  have hm0 := hC.2.1
  have bad : ∀ v : Int32, ¬ hdOK f a b → ws (hq_c (f_X11_refuse n α x v) fun r β => some (r, β)) (fun res => res.1 = hdA f a b) := fun v hno => by
    unfold hdA
    rw [if_neg hno]
    exact ws_hc (k_refuse n α x v) (fun z γ hz => ws_s hz.1)
  unfold f_X11_head f_X11_wrongGrowth
  refine ws_l ?_
  rw [h1]
  refine ws_b (k_logAt n h4 hC a) (fun o ho => ?_)
  by_cases hr : 0 ≤ a.toInt ∧ a.toInt < (f 0).toInt
  · rw [if_pos hr] at ho
    subst ho
    have q152 := (h4.2.2.1 a.toInt.toNat (by have := hC.1; omega)).1
    refine ws_hS ?_
    refine ws_b (S := fun v => (v = 0 ∧ hdOK f a b) ∨ (¬ v = 0 ∧ ¬ hdOK f a b)) (ws_hS (ws_lt (fun e => absurd e (by decide)) (fun _ => ws_le (fun e => ws_l ?_) (fun e => ws_s (Or.inr ⟨by decide, fun q => by rw [lt0] at e; have := q.1; omega⟩))))) (fun v hv => ?_)
    · rw [lt0] at e
      rw [q152]
      exact ws_le (fun e2 => ws_s (Or.inl ⟨rfl, e, hr, e2⟩)) (fun e2 => ws_s (Or.inr ⟨by decide, fun q => by have := q.2.2; omega⟩))
    · rcases hv with ⟨rfl, ok⟩ | ⟨hv, no⟩
      · refine ws_i (fun _ => ws_l ?_) (fun q => absurd rfl q)
        refine ws_hc (k_headOf n hn w α (f 1) (by omega) hm (lpA w a.toInt.toNat) (EL f a.toInt.toNat) (WR_LM h4 hC (by omega)) b.toInt.toNat (by rw [EL_len]; have := ok.2.2; omega) b (by have := ok.1; omega)) (fun v β hβ => ws_hc (k_answer n β x v) (fun z γ hz => ws_s ?_))
        unfold hdA
        rw [if_pos ok]
        exact hz.1.trans hβ.1
      · exact ws_i (fun q => absurd q hv) (fun _ => bad v no)
  · rw [if_neg hr] at ho
    subst ho
    refine ws_hN ?_
    refine ws_b (S := fun v => ¬ v = 0) (ws_hN (ws_lt (fun e => absurd e (by decide)) (fun _ => ws_le (fun e => ws_s (by decide)) (fun e => ws_s (by decide))))) (fun v hv => ?_)
    exact ws_i (fun q => absurd q hv) (fun _ => bad v (fun q => hr q.2.1))
/-! ===== include, grow, peaks: what is asked for comes onto the pad ===== -/
theorem wyT_in : ∀ (e i f m : Nat), i < m → ∀ q ∈ wyT e i f m, q.1 + q.2.1 ≤ f + m := by
  intro e
  induction e with
  | zero => intro i f m _ q hq; rw [wyT] at hq; exact absurd hq List.not_mem_nil
  | succ e ih =>
    intro i f m him q hq
    rw [wyT] at hq
    by_cases h1 : m ≤ 1
    · rw [if_pos h1] at hq; exact absurd hq List.not_mem_nil
    · rw [if_neg h1] at hq
      have hp1 := p0_lt (m := m) (by omega)
      by_cases h2 : i < p0 m
      · rw [if_pos h2] at hq
        rcases List.mem_cons.mp hq with h | h
        · rw [h]; show f + p0 m + (m - p0 m) ≤ _; omega
        · have := ih _ _ _ h2 q h; omega
      · rw [if_neg h2] at hq
        rcases List.mem_cons.mp hq with h | h
        · rw [h]; show f + p0 m ≤ _; omega
        · have := ih (i - p0 m) (f + p0 m) (m - p0 m) (by omega) q h; omega
theorem wyT_rin {N I : Nat} (h : I < N) : ∀ q ∈ (wyT 31 I 0 N).reverse, q.1 + q.2.1 ≤ N := fun q hq => by
  have := wyT_in 31 I 0 N h q (List.mem_reverse.mp hq)
  omega
theorem pdl_eq {f : Nat → Int32} {l : List Int32} (h2 : (f 2).toInt = (l.length : Int)) (h : ∀ k, k < l.length → some (f (8 + k)) = l[k]?) : pdl f = l := by
  refine List.ext_getElem? (fun k => ?_)
  unfold pdl
  by_cases hk : k < l.length
  · rw [List.getElem?_map, List.getElem?_range (by omega)]
    exact h k hk
  · rw [List.getElem?_eq_none (by rw [List.length_map, List.length_range]; omega), List.getElem?_eq_none (by omega)]
theorem v_pads_L (n L : Nat) (hL : L ≤ 64) (f44 : Nat → Int32) : ∀ (k : Nat) (σ : ms_T) (v : Nat) (vI : Int32), vI.toInt = (v : Int) → v ≤ L → (ms_I σ 657).toInt = (L : Int) → (∀ j, j < L → ms_E σ 44 j = f44 j) → (∀ j, j < v → ms_E σ 40 (8 + j) = f44 j) → pr (f_X12_pads_L7 n k σ vI) (fun res => res.1.toInt = (L : Int) ∧ (ms_E res.2 40 2).toInt = (L : Int) ∧ ∀ j, j < L → ms_E res.2 40 (8 + j) = f44 j) := by
  intro k
  induction k with
  | zero => intro σ v vI _ _ _ _ _; rw [f_X12_pads_L7.eq_1]; exact pr_0
  | succ k ih =>
    intro σ v vI hv hvl h7 h44 hc
    have c2 : ((2 : Int32)).toNatClampNeg = 2 := by decide
    rw [f_X12_pads_L7.eq_2, c2]
    refine pr_le (fun e => pr_g (fun _ _ => pr_l (pr_s ⟨h7, ?_, fun j hj => ?_⟩))) (fun e => pr_g (fun g0 g1 => pr_g (fun _ _ => pr_l (pr_l ?_))))
    · show (ms_E (ms_sE σ 40 2 (ms_I σ 657)) 40 2).toInt = _
      rw [mE_sE, if_pos ⟨rfl, rfl⟩]; exact h7
    · show ms_E (ms_sE σ 40 2 (ms_I σ 657)) 40 (8 + j) = _
      rw [mE_sE, if_neg (fun q => by omega)]
      exact hc j (by omega)
    · have ec : ((8 : Int32) + vI).toNatClampNeg = 8 + v := cl_n (by rw [iw_add, t_8]; omega)
      have e1 : (vI + 1).toInt = ((v + 1 : Nat) : Int) := by rw [iw_add, lt1]; omega
      rw [ec, cl_n hv]
      refine ih _ (v + 1) _ e1 (by omega) h7 (fun j hj => ?_) (fun j hj => ?_)
      · rw [mE_sE, if_neg (fun q => absurd q.1 (by decide))]; exact h44 j hj
      · rw [mE_sE]
        by_cases ej : j = v
        · rw [if_pos ⟨rfl, by omega⟩, ej]; exact h44 v (by omega)
        · rw [if_neg (fun q => by omega)]; exact hc j (by omega)
theorem v_pads (n : Nat) (σ : ms_T) (hC : rC (ms_E σ 40)) (r : Nat) (hr : r < 4) (rI : Int32) (hrI : rI.toInt = (r : Int)) (l : List (Nat × Nat × Bool)) (hW : WS σ l) (hl : l.length ≤ 64) (hin : ∀ q ∈ l, q.1 + q.2.1 ≤ (EL (ms_E σ 40) r).length) : pr (f_X12_pads n σ rI) (fun res => res.1.toInt = (l.length : Int) ∧ pdl (ms_E res.2 40) = mkl (ms_E σ 40 1) (EL (ms_E σ 40) r) l) := by
  unfold f_X12_pads
  refine pr_b (v_fetches n σ hC r hr rI hrI l hW hin) (fun τ hτ => ?_)
  obtain ⟨h1, h2, h3⟩ := hτ
  refine pr_m (v_pads_L n l.length hl (fun j => ms_E τ 44 j) n τ 0 0 rfl (Nat.zero_le _) h2.1 (fun j _ => rfl) (fun j hj => by omega)) (fun res hr => ⟨hr.1, pdl_eq (by rw [mkl_len]; exact hr.2.1) (fun k hk => ?_)⟩)
  rw [mkl_len] at hk
  rw [hr.2.2 k hk]
  exact h1 k (by rw [mkl_len]; exact hk)
abbrev inOK (f : Nat → Int32) (a i m : Int32) : Prop := (0 ≤ i.toInt ∧ 0 ≤ m.toInt) ∧ (0 ≤ a.toInt ∧ a.toInt < (f 0).toInt) ∧ m.toInt ≤ (f (72 + a.toInt.toNat)).toInt ∧ i.toInt < m.toInt
theorem v_noEntry (n : Nat) (σ : ms_T) (hC : rC (ms_E σ 40)) (a i m : Int32) : pr (f_X12_noEntry n σ a i m) (fun v => (v = 0 ∧ inOK (ms_E σ 40) a i m) ∨ (¬ v = 0 ∧ ¬ inOK (ms_E σ 40) a i m)) := by
  have h4 := hC.1
  unfold f_X12_noEntry f_X12_noEntry_J8 f_X12_noEntry_J38
  refine pr_lt (fun e => pr_s (Or.inr ⟨by decide, fun q => by rw [lt0] at e; have := q.1.1; omega⟩)) (fun e => pr_le (fun e2 => ?_) (fun e2 => pr_s (Or.inr ⟨by decide, fun q => by rw [lt0] at e2; have := q.1.2; omega⟩)))
  rw [lt0] at e e2
  refine pr_bo (pr_w (s_isRecord hC a)) (fun h0 => pr_s (Or.inr ⟨by decide, fun q => h0 q.2.1⟩)) (fun h1 => ?_)
  unfold f_X12_sizeOf
  refine pr_b (T := fun v => v = ms_E σ 40 (72 + a.toInt.toNat)) (pr_g (fun g0 g1 => pr_s ?_)) (fun v hv => ?_)
  · rw [cl_n (i := (72 : Int32) + a) (k := 72 + a.toInt.toNat) (by rw [iw_add, t_72]; omega)]
  · rw [hv]
    exact pr_lt (fun e3 => pr_s (Or.inr ⟨by decide, fun q => by have := q.2.2.1; omega⟩)) (fun e3 => pr_lt (fun e4 => pr_s (Or.inl ⟨rfl, ⟨e, e2⟩, h1, e3, e4⟩)) (fun e4 => pr_s (Or.inr ⟨by decide, fun q => by have := q.2.2.2; omega⟩)))
def inL (f : Nat → Int32) (a i m : Int32) : List Int32 := mkl (f 1) (EL f a.toInt.toNat) (wyT 31 i.toInt.toNat 0 m.toInt.toNat).reverse
def inA (f : Nat → Int32) (a i m : Int32) : Int := if inOK f a i m then ((wyT 31 i.toInt.toNat 0 m.toInt.toNat).length : Int) else -1
theorem v_include (n : Nat) (σ : ms_T) (hC : rC (ms_E σ 40)) (a i m : Int32) : pr (f_X12_include n σ a i m) (fun res => res.1.toInt = inA (ms_E σ 40) a i m ∧ pdl (ms_E res.2 40) = if inOK (ms_E σ 40) a i m then inL (ms_E σ 40) a i m else pdl (ms_E σ 40)) := by
  have h4 := hC.1
  unfold f_X12_include inA
  refine pr_b (v_noEntry n σ hC a i m) (fun v hv => ?_)
  rcases hv with ⟨rfl, ok⟩ | ⟨hv, no⟩
  · rw [if_pos ok, if_pos ok]
    have hsz := hC.2.2.2.2.1 a.toInt.toNat (by omega)
    refine v_is0 n σ ?_
    obtain ⟨τ0, hτ0⟩ : ∃ τ, τ = ms_sI (ms_sI σ 653 0) 652 0 := ⟨_, rfl⟩
    have e0 : ms_E τ0 40 = ms_E σ 40 := by rw [hτ0]; rfl
    rw [← hτ0]
    refine pr_b (fun τ hτ => (⟨v_inclusion n τ0 i m ok.1.1 ok.2.2.2 τ hτ, z_X12_inclusion kq_rf τ hτ⟩ : WS τ _ ∧ kq τ0 τ)) (fun τ hτ => ?_)
    obtain ⟨hW, hk⟩ := hτ
    have e1 : ms_E τ 40 = ms_E σ 40 := by rw [show ms_E τ 40 = ms_E τ0 40 from funext (fun j => hk.2 40 rfl j), e0]
    refine pr_c (v_pads n τ (by rw [e1]; exact hC) a.toInt.toNat (by omega) a (by omega) _ hW (by rw [List.length_reverse]; exact Nat.le_trans (wyT_len _ _ _ _) (by decide)) (fun q hq => ?_)) (fun r υ hr => pr_s ⟨?_, ?_⟩)
    · have := wyT_rin (N := m.toInt.toNat) (I := i.toInt.toNat) (by omega) q hq
      rw [e1, EL_len]; omega
    · have h1 := hr.1
      rw [List.length_reverse] at h1
      exact h1
    · have h2 := hr.2
      rw [e1] at h2
      exact h2
  · rw [if_neg no, if_neg no]
    exact v_is1 n σ v hv (pr_s ⟨rfl, rfl⟩)
/-- what a call that writes the pad may change -/
def pfr (x : Nat) (α β : hp_T) : Prop := hp_R β = hp_R α ∧ hp_K β = hp_K α ∧ hp_Q β = hp_Q α ∧ hp_N β = hp_N α ∧ (∀ φ b, ¬ (φ = 301 ∧ b = x + 919) → φ ≠ 453 → φ ≠ 454 → φ ≠ 600 → hp_I β φ b = hp_I α φ b) ∧ ∀ κ b j, ¬ (κ = 20 ∧ b = x + 920) → κ ≠ 21 → κ ≠ 22 → κ ≠ 23 → κ ≠ 33 → hp_E β κ b j = hp_E α κ b j
theorem pfr_rf {x : Nat} {α : hp_T} : pfr x α α := ⟨rfl, rfl, rfl, rfl, fun _ _ _ _ _ _ => rfl, fun _ _ _ _ _ _ _ _ => rfl⟩
theorem pfr_tr {x : Nat} {α β γ : hp_T} (h : pfr x α β) (g : pfr x β γ) : pfr x α γ := by
  obtain ⟨h1, h2, h3, h4, h5, h6⟩ := h
  obtain ⟨g1, g2, g3, g4, g5, g6⟩ := g
  exact ⟨g1.trans h1, g2.trans h2, g3.trans h3, g4.trans h4, fun φ b q1 q2 q3 q4 => (g5 φ b q1 q2 q3 q4).trans (h5 φ b q1 q2 q3 q4), fun κ b j q1 q2 q3 q4 q5 => (g6 κ b j q1 q2 q3 q4 q5).trans (h6 κ b j q1 q2 q3 q4 q5)⟩
theorem pfr_wf {x a : Nat} {α β : hp_T} (h : wf a α β) : pfr x α β := by
  obtain ⟨h1, h2, h3, h4, h5, h6⟩ := h
  exact ⟨h1, h2, h3, h4, fun φ b _ q2 q3 _ => h5 φ b (fun z => by omega), fun κ b j _ q2 q3 q4 _ => h6 κ b j (fun z => by omega)⟩
theorem pfr_qf {x w : Nat} {α β : hp_T} (h : qf w (x + 919) α β) (h3 : hp_R α 300 (x + 919) = x + 920) : pfr x α β := by
  obtain ⟨h1, h2, h3', h4, h5, h6⟩ := h
  exact ⟨h1, h2, h3', h4, fun φ b q1 _ _ _ => h5 φ b (fun z => q1 ⟨z.2, z.1⟩), fun κ b j q1 _ _ _ q5 => h6 κ b j (fun z => q5 z.1) (fun z => q1 ⟨z.1, by rw [z.2, h3]⟩)⟩
theorem pfr_st {x a : Nat} {α : hp_T} {v : Int32} : pfr x α (hp_sI α 600 a v) := ⟨rfl, rfl, rfl, rfl, fun φ b _ _ _ q4 => by rw [hI_sI, if_neg (fun z => q4 z.1)], fun _ _ _ _ _ _ _ _ => rfl⟩
theorem WR_wf {α β : hp_T} {w a : Nat} {f : Nat → Int32} (h : WR α w f) (hC : rC f) (g : wf a α β) : WR β w f :=
  WR_f h hC g.1 g.2.2.1 (fun φ b _ _ hφ => g.2.2.2.2.1 φ b (fun z => by omega)) (fun κ b j _ _ hκ => g.2.2.2.2.2 κ b j (fun z => by omega))
theorem RWL_st {α : hp_T} {a b : Nat} {v : Int32} {l : List Int32} (h : RWL α a l) : RWL (hp_sI α 600 b v) a l := ⟨h.1, by rw [hI_sI, if_neg (fun z => absurd z.1 (by decide))]; exact h.2.1, fun k hk => h.2.2 k hk⟩
theorem k_include (n : Nat) (hn : 70000 ≤ n) (α : hp_T) (x : Nat) (f : Nat → Int32) (hC : rC f) (h : RWX α x f) (h6 : hp_R α 603 x = x + 919) (h3 : hp_R α 300 (x + 919) = x + 920) (pl : List Int32) (hP : RWL α (x + 919) pl) (a i m : Int32) : ws (f_X11_include n α x a i m) (fun res => res.1.toInt = inA f a i m ∧ RWL res.2 (x + 919) (if inOK f a i m then inL f a i m else pl) ∧ pfr x α res.2) := by
  obtain ⟨w, u, h1, h2, -, h4, -⟩ := h
  have hm0 := hC.2.1
  have h44 := hC.1
  have bad : ∀ v : Int32, ¬ inOK f a i m → ws (hq_c (f_X11_refuse n α x v) fun r β => some (r, β)) (fun res => res.1.toInt = inA f a i m ∧ RWL res.2 (x + 919) (if inOK f a i m then inL f a i m else pl) ∧ pfr x α res.2) := fun v hno => by
    unfold inA
    rw [if_neg hno, if_neg hno]
    refine ws_hc (k_refuse n α x v) (fun z γ hz => ws_s ⟨by rw [show z = -1 from hz.1]; rfl, ?_, ?_⟩)
    · rw [show γ = hp_sI α 600 x v from hz.2]; exact RWL_st hP
    · rw [show γ = hp_sI α 600 x v from hz.2]; exact pfr_st
  unfold f_X11_include f_X11_wrongInclusion f_X11_wrongInclusions_J29
  refine ws_l ?_
  rw [h1]
  refine ws_b (k_logAt n h4 hC a) (fun o ho => ?_)
  by_cases hr : 0 ≤ a.toInt ∧ a.toInt < (f 0).toInt
  · rw [if_pos hr] at ho
    subst ho
    have q152 := (h4.2.2.1 a.toInt.toNat (by omega)).1
    have hsz := hC.2.2.2.2.1 a.toInt.toNat (by omega)
    refine ws_hS ?_
    refine ws_b (S := fun v => (v = 0 ∧ inOK f a i m) ∨ (¬ v = 0 ∧ ¬ inOK f a i m)) (ws_hS (ws_lt (fun e => ws_s (Or.inr ⟨by decide, fun q => by rw [lt0] at e; have := q.1.1; omega⟩)) (fun e => ws_le (fun e2 => ws_l ?_) (fun e2 => ws_s (Or.inr ⟨by decide, fun q => by rw [lt0] at e2; have := q.1.2; omega⟩))))) (fun v hv => ?_)
    · rw [lt0] at e e2
      rw [q152]
      exact ws_lt (fun e3 => ws_s (Or.inr ⟨by decide, fun q => by have := q.2.2.1; omega⟩)) (fun e3 => ws_lt (fun e4 => ws_s (Or.inl ⟨rfl, ⟨e, e2⟩, hr, e3, e4⟩)) (fun e4 => ws_s (Or.inr ⟨by decide, fun q => by have := q.2.2.2; omega⟩)))
    · rcases hv with ⟨rfl, ok⟩ | ⟨hv, no⟩
      · refine ws_i (fun _ => ws_l ?_) (fun q => absurd rfl q)
        have ok1 := ok.1
        have ok3 := ok.2.2
        refine ws_b (k_toThing n hn α _ i m ok1.1 ok3.2) (fun β hβ => ws_l (ws_l (ws_l ?_)))
        obtain ⟨hWC, hwf⟩ := hβ
        have hWβ := WR_wf h4 hC hwf
        rw [hwf.1, h1, h6]
        have hPβ : RWL β (x + 919) pl := RWL_wf hP hwf
        refine ws_b (k_marksAlong n hn w (x + 919) _ β (f 1) (by omega) hWβ.2.1.1 (lpA w a.toInt.toNat) (EL f a.toInt.toNat) (WR_LM hWβ hC (by omega)) _ hWC (by rw [List.length_reverse]; exact Nat.le_trans (wyT_len _ _ _ _) (by decide)) (fun q hq => ?_) pl hPβ) (fun γ hγ => ws_l (ws_l ?_))
        · have := wyT_rin (N := m.toInt.toNat) (I := i.toInt.toNat) (by omega) q hq
          rw [EL_len]; omega
        · obtain ⟨hR, hq⟩ := hγ
          have e6 : hp_R γ 603 x = x + 919 := by rw [hq.1, hwf.1]; exact h6
          rw [e6]
          refine ws_hc (k_answer n γ x _) (fun z δ hz => ws_s ⟨?_, ?_, ?_⟩)
          · unfold inA
            rw [if_pos ok, show z = hp_I γ 301 (x + 919) from hz.1, hR.2.1, mkl_len, List.length_reverse]
          · rw [if_pos ok, show δ = hp_sI γ 600 x 0 from hz.2]; exact RWL_st hR
          · rw [show δ = hp_sI γ 600 x 0 from hz.2]
            exact pfr_tr (pfr_wf hwf) (pfr_tr (pfr_qf hq (by rw [hwf.1]; exact h3)) pfr_st)
      · exact ws_i (fun q => absurd q hv) (fun _ => bad v no)
  · rw [if_neg hr] at ho
    subst ho
    refine ws_hN ?_
    refine ws_b (S := fun v => ¬ v = 0) (ws_hN (ws_lt (fun e => ws_s (by decide)) (fun _ => ws_le (fun e => ws_s (by decide)) (fun e => ws_s (by decide))))) (fun v hv => ?_)
    exact ws_i (fun q => absurd q hv) (fun _ => bad v (fun q => hr q.2.1))
/-! grow -/
abbrev grOK (f : Nat → Int32) (a i m : Int32) : Prop := (0 ≤ i.toInt ∧ i.toInt ≤ m.toInt) ∧ (0 ≤ a.toInt ∧ a.toInt < (f 0).toInt) ∧ m.toInt ≤ (f (72 + a.toInt.toNat)).toInt
def grL (f : Nat → Int32) (a i m : Int32) : List Int32 := mkl (f 1) (EL f a.toInt.toNat) (wyH i.toInt.toNat m.toInt.toNat).reverse
def grA (f : Nat → Int32) (a i m : Int32) : Int := if grOK f a i m then ((wyH i.toInt.toNat m.toInt.toNat).length : Int) else -1
theorem v_grow (n : Nat) (σ : ms_T) (hC : rC (ms_E σ 40)) (a i m : Int32) : pr (f_X12_grow n σ a i m) (fun res => res.1.toInt = grA (ms_E σ 40) a i m ∧ pdl (ms_E res.2 40) = if grOK (ms_E σ 40) a i m then grL (ms_E σ 40) a i m else pdl (ms_E σ 40)) := by
  have h4 := hC.1
  have bad : ∀ v : Int32, ¬ v = 0 → ¬ grOK (ms_E σ 40) a i m → pr (f_X12_grow_J20 n σ a i m v) (fun res => res.1.toInt = grA (ms_E σ 40) a i m ∧ pdl (ms_E res.2 40) = if grOK (ms_E σ 40) a i m then grL (ms_E σ 40) a i m else pdl (ms_E σ 40)) := fun v hv hno => by
    unfold f_X12_grow_J20 grA
    rw [if_neg hno, if_neg hno]
    exact v_is1 n σ v hv (pr_s ⟨rfl, rfl⟩)
  unfold f_X12_grow f_X12_grow_J10
  refine pr_lt (fun e => bad 1 (by decide) (fun q => by rw [lt0] at e; have := q.1.1; omega)) (fun e => pr_le (fun e2 => ?_) (fun e2 => bad 1 (by decide) (fun q => by have := q.1.2; omega)))
  rw [lt0] at e
  refine pr_b (v_noSize n σ hC a m) (fun v hv => ?_)
  rcases hv with ⟨rfl, ok0⟩ | ⟨hv, no⟩
  · have ok : grOK (ms_E σ 40) a i m := ⟨⟨e, e2⟩, ok0.2.1, ok0.2.2⟩
    unfold f_X12_grow_J20 grA
    rw [if_pos ok, if_pos ok]
    have hsz := hC.2.2.2.2.1 a.toInt.toNat (by omega)
    refine v_is0 n σ ?_
    obtain ⟨τ0, hτ0⟩ : ∃ τ, τ = ms_sI (ms_sI σ 653 0) 652 0 := ⟨_, rfl⟩
    have e0 : ms_E τ0 40 = ms_E σ 40 := by rw [hτ0]; rfl
    rw [← hτ0]
    refine pr_b (fun τ hτ => (⟨v_growth n τ0 i m e e2 τ hτ, z_X12_growth kq_rf τ hτ⟩ : WS τ _ ∧ kq τ0 τ)) (fun τ hτ => ?_)
    obtain ⟨hW, hk⟩ := hτ
    have e1 : ms_E τ 40 = ms_E σ 40 := by rw [show ms_E τ 40 = ms_E τ0 40 from funext (fun j => hk.2 40 rfl j), e0]
    refine pr_c (v_pads n τ (by rw [e1]; exact hC) a.toInt.toNat (by omega) a (by omega) _ hW (by rw [List.length_reverse]; exact Nat.le_trans (wyH_len _ _) (by decide)) (fun q hq => ?_)) (fun r υ hr => pr_s ⟨?_, ?_⟩)
    · have := wyH_in i.toInt.toNat m.toInt.toNat (by omega) q hq
      rw [e1, EL_len]; omega
    · have h1 := hr.1
      rw [List.length_reverse] at h1
      exact h1
    · have h2 := hr.2
      rw [e1] at h2
      exact h2
  · exact bad v hv (fun q => no ⟨by omega, q.2.1, q.2.2⟩)
theorem k_grow (n : Nat) (hn : 70000 ≤ n) (α : hp_T) (x : Nat) (f : Nat → Int32) (hC : rC f) (h : RWX α x f) (h6 : hp_R α 603 x = x + 919) (h3 : hp_R α 300 (x + 919) = x + 920) (pl : List Int32) (hP : RWL α (x + 919) pl) (a i m : Int32) : ws (f_X11_grow n α x a i m) (fun res => res.1.toInt = grA f a i m ∧ RWL res.2 (x + 919) (if grOK f a i m then grL f a i m else pl) ∧ pfr x α res.2) := by
  obtain ⟨w, u, h1, h2, -, h4, -⟩ := h
  have hm0 := hC.2.1
  have h44 := hC.1
  have bad : ∀ v : Int32, ¬ grOK f a i m → ws (hq_c (f_X11_refuse n α x v) fun r β => some (r, β)) (fun res => res.1.toInt = grA f a i m ∧ RWL res.2 (x + 919) (if grOK f a i m then grL f a i m else pl) ∧ pfr x α res.2) := fun v hno => by
    unfold grA
    rw [if_neg hno, if_neg hno]
    refine ws_hc (k_refuse n α x v) (fun z γ hz => ws_s ⟨by rw [show z = -1 from hz.1]; rfl, ?_, ?_⟩)
    · rw [show γ = hp_sI α 600 x v from hz.2]; exact RWL_st hP
    · rw [show γ = hp_sI α 600 x v from hz.2]; exact pfr_st
  unfold f_X11_grow f_X11_wrongGrowth
  refine ws_l ?_
  rw [h1]
  refine ws_b (k_logAt n h4 hC a) (fun o ho => ?_)
  by_cases hr : 0 ≤ a.toInt ∧ a.toInt < (f 0).toInt
  · rw [if_pos hr] at ho
    subst ho
    have q152 := (h4.2.2.1 a.toInt.toNat (by omega)).1
    have hsz := hC.2.2.2.2.1 a.toInt.toNat (by omega)
    refine ws_hS ?_
    refine ws_b (S := fun v => (v = 0 ∧ grOK f a i m) ∨ (¬ v = 0 ∧ ¬ grOK f a i m)) (ws_hS (ws_lt (fun e => ws_s (Or.inr ⟨by decide, fun q => by rw [lt0] at e; have := q.1.1; omega⟩)) (fun e => ws_le (fun e2 => ws_l ?_) (fun e2 => ws_s (Or.inr ⟨by decide, fun q => by have := q.1.2; omega⟩))))) (fun v hv => ?_)
    · rw [lt0] at e
      rw [q152]
      exact ws_le (fun e3 => ws_s (Or.inl ⟨rfl, ⟨e, e2⟩, hr, e3⟩)) (fun e3 => ws_s (Or.inr ⟨by decide, fun q => by have := q.2.2; omega⟩))
    · rcases hv with ⟨rfl, ok⟩ | ⟨hv, no⟩
      · refine ws_i (fun _ => ws_l ?_) (fun q => absurd rfl q)
        have ok1 := ok.1
        have ok3 := ok.2.2
        refine ws_b (k_toGrowth n hn α _ i m ok1.1 ok1.2) (fun β hβ => ws_l (ws_l (ws_l ?_)))
        obtain ⟨hWC, hwf⟩ := hβ
        have hWβ := WR_wf h4 hC hwf
        rw [hwf.1, h1, h6]
        have hPβ : RWL β (x + 919) pl := RWL_wf hP hwf
        refine ws_b (k_marksAlong n hn w (x + 919) _ β (f 1) (by omega) hWβ.2.1.1 (lpA w a.toInt.toNat) (EL f a.toInt.toNat) (WR_LM hWβ hC (by omega)) _ hWC (by rw [List.length_reverse]; exact Nat.le_trans (wyH_len _ _) (by decide)) (fun q hq => ?_) pl hPβ) (fun γ hγ => ws_l (ws_l ?_))
        · have := wyH_in i.toInt.toNat m.toInt.toNat (by omega) q hq
          rw [EL_len]; omega
        · obtain ⟨hR, hq⟩ := hγ
          have e6 : hp_R γ 603 x = x + 919 := by rw [hq.1, hwf.1]; exact h6
          rw [e6]
          refine ws_hc (k_answer n γ x _) (fun z δ hz => ws_s ⟨?_, ?_, ?_⟩)
          · unfold grA
            rw [if_pos ok, show z = hp_I γ 301 (x + 919) from hz.1, hR.2.1, mkl_len, List.length_reverse]
          · rw [if_pos ok, show δ = hp_sI γ 600 x 0 from hz.2]; exact RWL_st hR
          · rw [show δ = hp_sI γ 600 x 0 from hz.2]
            exact pfr_tr (pfr_wf hwf) (pfr_tr (pfr_qf hq (by rw [hwf.1]; exact h3)) pfr_st)
      · exact ws_i (fun q => absurd q hv) (fun _ => bad v no)
  · rw [if_neg hr] at ho
    subst ho
    refine ws_hN ?_
    refine ws_b (S := fun v => ¬ v = 0) (ws_hN (ws_lt (fun e => ws_s (by decide)) (fun _ => ws_le (fun e => ws_s (by decide)) (fun e => ws_s (by decide))))) (fun v hv => ?_)
    exact ws_i (fun q => absurd q hv) (fun _ => bad v (fun q => hr q.2.1))
/-! peaks -/
def pkL (f : Nat → Int32) (a m : Int32) : List Int32 := mkl (f 1) (EL f a.toInt.toNat) (pks 6 m.toInt.toNat 0)
def pkA (f : Nat → Int32) (a m : Int32) : Int := if hdOK f a m then ((pks 6 m.toInt.toNat 0).length : Int) else -1
theorem v_peaks (n : Nat) (σ : ms_T) (hC : rC (ms_E σ 40)) (a m : Int32) : pr (f_X12_peaks n σ a m) (fun res => res.1.toInt = pkA (ms_E σ 40) a m ∧ pdl (ms_E res.2 40) = if hdOK (ms_E σ 40) a m then pkL (ms_E σ 40) a m else pdl (ms_E σ 40)) := by
  have h4 := hC.1
  unfold f_X12_peaks pkA
  refine pr_b (v_noSize n σ hC a m) (fun v hv => ?_)
  rcases hv with ⟨rfl, ok⟩ | ⟨hv, no⟩
  · have ok : hdOK (ms_E σ 40) a m := ok
    rw [if_pos ok, if_pos ok]
    have hsz := hC.2.2.2.2.1 a.toInt.toNat (by omega)
    refine v_is0 n σ ?_
    obtain ⟨τ0, hτ0⟩ : ∃ τ, τ = ms_sI (ms_sI σ 653 0) 652 0 := ⟨_, rfl⟩
    have e0 : ms_E τ0 40 = ms_E σ 40 := by rw [hτ0]; rfl
    rw [← hτ0]
    refine pr_b (v_peaksOf n τ0 m.toInt.toNat (by omega) m (by omega)) (fun τ hτ => ?_)
    obtain ⟨hW, hk⟩ := hτ
    have e1 : ms_E τ 40 = ms_E σ 40 := by rw [show ms_E τ 40 = ms_E τ0 40 from funext (fun j => hk.2 40 (by decide) j), e0]
    refine pr_c (v_pads n τ (by rw [e1]; exact hC) a.toInt.toNat (by omega) a (by omega) _ hW (Nat.le_trans (pks_len _ _ _) (by decide)) (fun q hq => ?_)) (fun r υ hr => pr_s ⟨hr.1, ?_⟩)
    · have := pks_in m.toInt.toNat (by omega) q hq
      rw [e1, EL_len]; omega
    · have h2 := hr.2
      rw [e1] at h2
      exact h2
  · have no : ¬ hdOK (ms_E σ 40) a m := no
    rw [if_neg no, if_neg no]
    exact v_is1 n σ v hv (pr_s ⟨rfl, rfl⟩)
theorem k_peaks (n : Nat) (hn : 70000 ≤ n) (α : hp_T) (x : Nat) (f : Nat → Int32) (hC : rC f) (h : RWX α x f) (h6 : hp_R α 603 x = x + 919) (h3 : hp_R α 300 (x + 919) = x + 920) (pl : List Int32) (hP : RWL α (x + 919) pl) (a m : Int32) : ws (f_X11_peaks n α x a m) (fun res => res.1.toInt = pkA f a m ∧ RWL res.2 (x + 919) (if hdOK f a m then pkL f a m else pl) ∧ pfr x α res.2) := by
  obtain ⟨w, u, h1, h2, -, h4, -⟩ := h
  have hm0 := hC.2.1
  have h44 := hC.1
  have bad : ∀ v : Int32, ¬ hdOK f a m → ws (hq_c (f_X11_refuse n α x v) fun r β => some (r, β)) (fun res => res.1.toInt = pkA f a m ∧ RWL res.2 (x + 919) (if hdOK f a m then pkL f a m else pl) ∧ pfr x α res.2) := fun v hno => by
    unfold pkA
    rw [if_neg hno, if_neg hno]
    refine ws_hc (k_refuse n α x v) (fun z γ hz => ws_s ⟨by rw [show z = -1 from hz.1]; rfl, ?_, ?_⟩)
    · rw [show γ = hp_sI α 600 x v from hz.2]; exact RWL_st hP
    · rw [show γ = hp_sI α 600 x v from hz.2]; exact pfr_st
  unfold f_X11_peaks f_X11_wrongGrowth
  refine ws_l ?_
  rw [h1]
  refine ws_b (k_logAt n h4 hC a) (fun o ho => ?_)
  by_cases hr : 0 ≤ a.toInt ∧ a.toInt < (f 0).toInt
  · rw [if_pos hr] at ho
    subst ho
    have q152 := (h4.2.2.1 a.toInt.toNat (by omega)).1
    have hsz := hC.2.2.2.2.1 a.toInt.toNat (by omega)
    refine ws_hS ?_
    refine ws_b (S := fun v => (v = 0 ∧ hdOK f a m) ∨ (¬ v = 0 ∧ ¬ hdOK f a m)) (ws_hS (ws_lt (fun e => absurd e (by decide)) (fun _ => ws_le (fun e => ws_l ?_) (fun e => ws_s (Or.inr ⟨by decide, fun q => by rw [lt0] at e; have := q.1; omega⟩))))) (fun v hv => ?_)
    · rw [lt0] at e
      rw [q152]
      exact ws_le (fun e2 => ws_s (Or.inl ⟨rfl, e, hr, e2⟩)) (fun e2 => ws_s (Or.inr ⟨by decide, fun q => by have := q.2.2; omega⟩))
    · rcases hv with ⟨rfl, ok⟩ | ⟨hv, no⟩
      · refine ws_i (fun _ => ws_l (ws_l ?_)) (fun q => absurd rfl q)
        have ok1 := ok.1
        have ok3 := ok.2.2
        rw [h6]
        refine ws_b (k_peaksOf n hn w (x + 919) α (f 1) (by omega) h4.2.1.1 (lpA w a.toInt.toNat) (EL f a.toInt.toNat) (WR_LM h4 hC (by omega)) m.toInt.toNat (by rw [EL_len]; omega) m (by omega) pl hP) (fun γ hγ => ws_l (ws_l ?_))
        obtain ⟨hR, hq⟩ := hγ
        have e6 : hp_R γ 603 x = x + 919 := by rw [hq.1]; exact h6
        rw [e6]
        refine ws_hc (k_answer n γ x _) (fun z δ hz => ws_s ⟨?_, ?_, ?_⟩)
        · unfold pkA
          rw [if_pos ok, show z = hp_I γ 301 (x + 919) from hz.1, hR.2.1, mkl_len]
        · rw [if_pos ok, show δ = hp_sI γ 600 x 0 from hz.2]; exact RWL_st hR
        · rw [show δ = hp_sI γ 600 x 0 from hz.2]
          exact pfr_tr (pfr_qf hq h3) pfr_st
      · exact ws_i (fun q => absurd q hv) (fun _ => bad v no)
  · rw [if_neg hr] at ho
    subst ho
    refine ws_hN ?_
    refine ws_b (S := fun v => ¬ v = 0) (ws_hN (ws_lt (fun e => absurd e (by decide)) (fun _ => ws_le (fun e => ws_s (by decide)) (fun e => ws_s (by decide))))) (fun v hv => ?_)
    exact ws_i (fun q => absurd q hv) (fun _ => bad v (fun q => hr q.2.1))
