set_option maxRecDepth 100000
/-- what leaves the class's pad -/
def pkp (x : Nat) (α β : hp_T) : Prop := hp_I β 301 (x + 919) = hp_I α 301 (x + 919) ∧ hp_R β 300 (x + 919) = hp_R α 300 (x + 919) ∧ ∀ j, hp_E β 20 (x + 920) j = hp_E α 20 (x + 920) j
theorem pkp_rf {x : Nat} {α : hp_T} : pkp x α α := ⟨rfl, rfl, fun _ => rfl⟩
theorem pkp_tr {x : Nat} {α β γ : hp_T} (h : pkp x α β) (g : pkp x β γ) : pkp x α γ := ⟨g.1.trans h.1, g.2.1.trans h.2.1, fun j => (g.2.2 j).trans (h.2.2 j)⟩
theorem pkp_qf {α β : hp_T} {x w a : Nat} (h : qf w a α β) (h1 : a ≠ x + 919) (h2 : hp_R α 300 a ≠ x + 920) : pkp x α β := by
  obtain ⟨w1, -, -, -, w5, w6⟩ := h
  exact ⟨w5 301 _ (fun q => h1 q.1.symm), by rw [w1], fun j => w6 20 _ j (fun q => absurd q.1 (by decide)) (fun q => h2 q.2.symm)⟩
theorem pkp_wf {α β : hp_T} {x a : Nat} (h : wf a α β) : pkp x α β := by
  obtain ⟨w1, -, -, -, w5, w6⟩ := h
  exact ⟨w5 301 _ (by omega), by rw [w1], fun j => w6 20 _ j (by omega)⟩
theorem pkp_jf {α β : hp_T} {x w : Nat} (h : jf w α β) : pkp x α β := by
  obtain ⟨w1, -, -, -, w5, w6⟩ := h
  exact ⟨by rw [w5], by rw [w1], fun j => w6 20 _ j (fun q => absurd q.1 (by decide))⟩
theorem pkp_st {α : hp_T} {x : Nat} {v : Int32} : pkp x α (hp_sI α 600 x v) := ⟨by rw [hI_sI, if_neg (fun z => absurd z.1 (by decide))], rfl, fun _ => rfl⟩
/-! ===== weak and forge: what every call keeps of the table ===== -/
def TBX (α : hp_T) (x : Nat) : Prop := ∀ b, hp_N α 618 x = some b → ∀ M : Nat, 101 ≤ M → M ≤ 65521 → (hp_I α 252 b).toInt = (M : Int) → TB α b M
theorem TBX_f {α β : hp_T} {x : Nat} (h : TBX α x) (eN : hp_N β 618 x = hp_N α 618 x) (eI : ∀ b, hp_N α 618 x = some b → hp_I β 252 b = hp_I α 252 b) (eR : ∀ b, hp_N α 618 x = some b → hp_R β 250 b = hp_R α 250 b ∧ hp_R β 251 b = hp_R α 251 b) (eE : ∀ b j, hp_N α 618 x = some b → hp_E β 34 (hp_R α 250 b) j = hp_E α 34 (hp_R α 250 b) j ∧ hp_E β 35 (hp_R α 251 b) j = hp_E α 35 (hp_R α 251 b) j) : TBX β x := by
  intro b hb M h1 h2 hI
  rw [eN] at hb
  rw [eI b hb] at hI
  obtain ⟨t1, t2⟩ := h b hb M h1 h2 hI
  obtain ⟨r1, r2⟩ := eR b hb
  exact ⟨fun t ht => by rw [r1, (eE b t hb).1]; exact t1 t ht, fun g hg => by rw [r2, (eE b g hb).2]; exact t2 g hg⟩
/-- what leaves the table -/
def weD (x : Nat) (α δ : hp_T) : Prop := hp_R δ = hp_R α ∧ hp_K δ = hp_K α ∧ hp_N δ = hp_N α ∧ (∀ φ b, φ ≠ 301 → φ ≠ 453 → φ ≠ 454 → φ ≠ 600 → hp_I δ φ b = hp_I α φ b) ∧ ∀ κ b j, κ ≠ 20 → κ ≠ 21 → κ ≠ 22 → κ ≠ 23 → κ ≠ 33 → hp_E δ κ b j = hp_E α κ b j
theorem weD_rf {x : Nat} {α : hp_T} : weD x α α := ⟨rfl, rfl, rfl, fun _ _ _ _ _ _ => rfl, fun _ _ _ _ _ _ _ _ => rfl⟩
theorem weD_tr {x : Nat} {α β γ : hp_T} (h : weD x α β) (g : weD x β γ) : weD x α γ := ⟨g.1.trans h.1, g.2.1.trans h.2.1, g.2.2.1.trans h.2.2.1, fun φ b p q r s => (g.2.2.2.1 φ b p q r s).trans (h.2.2.2.1 φ b p q r s), fun κ b j p q r s t => (g.2.2.2.2 κ b j p q r s t).trans (h.2.2.2.2 κ b j p q r s t)⟩
theorem weD_wf {x a : Nat} {α β : hp_T} (h : wf a α β) : weD x α β := ⟨h.1, h.2.1, h.2.2.2.1, fun φ b p q r _ => h.2.2.2.2.1 φ b (fun z => by omega), fun κ b j p q r s _ => h.2.2.2.2.2 κ b j (fun z => by omega)⟩
theorem weD_qf {x w a : Nat} {α β : hp_T} (h : qf w a α β) : weD x α β := ⟨h.1, h.2.1, h.2.2.2.1, fun φ b p q r _ => h.2.2.2.2.1 φ b (fun z => by omega), fun κ b j p q r s t => h.2.2.2.2.2 κ b j (fun z => t z.1) (fun z => p z.1)⟩
theorem weD_st {x : Nat} {α : hp_T} {v : Int32} : weD x α (hp_sI α 600 x v) := ⟨rfl, rfl, rfl, fun φ b _ _ _ s => by rw [hI_sI, if_neg (fun z => s z.1)], fun _ _ _ _ _ _ _ _ => rfl⟩
theorem TBX_weD {x : Nat} {α β : hp_T} (h : TBX α x) (d : weD x α β) : TBX β x := by
  obtain ⟨d1, d2, d3, d4, d5⟩ := d
  exact TBX_f h (by rw [d3]) (fun b _ => d4 252 b (by decide) (by decide) (by decide) (by decide)) (fun b _ => by rw [d1]; exact ⟨rfl, rfl⟩) (fun b j _ => ⟨d5 34 _ j (by decide) (by decide) (by decide) (by decide) (by decide), d5 35 _ j (by decide) (by decide) (by decide) (by decide) (by decide)⟩)
theorem k_weakP (n : Nat) (hn : 70000 ≤ n) (α : hp_T) (x : Nat) (f : Nat → Int32) (hC : rC f) (h : RWX α x f) (h14 : hp_R α 614 x = x + 939) (h40 : hp_R α 300 (x + 939) = x + 940) (h39 : 0 ≤ (hp_I α 301 (x + 939)).toInt ∧ (hp_I α 301 (x + 939)).toInt ≤ 64) (a i m what : Int32) : ws (f_X11_weak_P n α x a i m what) (fun res => (weD x α res.2.2 ∧ pkp x α res.2.2) ∧ (res.1 = none → ¬ wkOK f a i m what ∧ res.2.1 = -1) ∧ ∀ lg, res.1 = some lg → wkOK f a i m what ∧ lg = lpA (hp_R α 601 x) a.toInt.toNat ∧ WC res.2.2 (hp_R α 612 x) (wkW i m) ∧ RWL res.2.2 (x + 939) (inL f a i m) ∧ LM res.2.2 lg (EL f a.toInt.toNat)) := by
  obtain ⟨w, u, h1, h2, -, h4, -⟩ := h
  have hm0 := hC.2.1
  have h44 := hC.1
  have bad : ∀ (v : Int32), ¬ wkOK f a i m what → ws (hq_c (f_X11_refuse n α x v) fun r γ => some ((none : Option Nat), r, γ)) (fun res => (weD x α res.2.2 ∧ pkp x α res.2.2) ∧ (res.1 = none → ¬ wkOK f a i m what ∧ res.2.1 = -1) ∧ ∀ lg, res.1 = some lg → wkOK f a i m what ∧ lg = lpA (hp_R α 601 x) a.toInt.toNat ∧ WC res.2.2 (hp_R α 612 x) (wkW i m) ∧ RWL res.2.2 (x + 939) (inL f a i m) ∧ LM res.2.2 lg (EL f a.toInt.toNat)) := fun v hno =>
    ws_hc (k_refuse n α x v) (fun z γ hz => ws_s ⟨by rw [show γ = hp_sI α 600 x v from hz.2]; exact ⟨weD_st, pkp_st⟩, fun _ => ⟨hno, hz.1⟩, fun lg q => (by cases q)⟩)
  unfold f_X11_weak_P f_X11_weak_P_J11 f_X11_weak_P_J46
  refine ws_lt (fun e => bad 1 (fun q => by rw [lt0] at e; have := q.1.1; omega)) (fun e => ws_le (fun e2 => ws_l ?_) (fun e2 => bad 1 (fun q => by rw [lt1] at e2; have := q.1.2; omega)))
  rw [lt0] at e
  rw [lt1] at e2
  have bad2 := bad
  rw [h1] at bad2
  rw [h1]
  refine ws_b (k_logAt n h4 hC a) (fun o ho => ?_)
  by_cases hr : 0 ≤ a.toInt ∧ a.toInt < (f 0).toInt
  · rw [if_pos hr] at ho
    subst ho
    have q152 := (h4.2.2.1 a.toInt.toNat (by omega)).1
    have hsz := hC.2.2.2.2.1 a.toInt.toNat (by omega)
    refine ws_hS ?_
    unfold f_X11_wrongInclusion f_X11_wrongInclusions_J29
    refine ws_b (S := fun v => (v = 0 ∧ inOK f a i m) ∨ (¬ v = 0 ∧ ¬ inOK f a i m)) (ws_hS (ws_lt (fun e => ws_s (Or.inr ⟨by decide, fun q => by rw [lt0] at e; have := q.1.1; omega⟩)) (fun e => ws_le (fun e2 => ws_l ?_) (fun e2 => ws_s (Or.inr ⟨by decide, fun q => by rw [lt0] at e2; have := q.1.2; omega⟩))))) (fun v hv => ?_)
    · rw [lt0] at e e2
      rw [q152]
      exact ws_lt (fun e3 => ws_s (Or.inr ⟨by decide, fun q => by have := q.2.2.1; omega⟩)) (fun e3 => ws_lt (fun e4 => ws_s (Or.inl ⟨rfl, ⟨e, e2⟩, hr, e3, e4⟩)) (fun e4 => ws_s (Or.inr ⟨by decide, fun q => by have := q.2.2.2; omega⟩)))
    · rcases hv with ⟨rfl, ok⟩ | ⟨hv, no⟩
      · refine ws_i (fun _ => ws_l ?_) (fun q => absurd rfl q)
        obtain ⟨ok1, ok2, ok3, ok4⟩ := id ok
        refine ws_b (k_toThing n hn α _ i m ok1.1 ok4) (fun β hβ => ws_l (ws_l (ws_l ?_)))
        obtain ⟨hWC, hwf⟩ := hβ
        have hWβ := WR_wf h4 hC hwf
        rw [hwf.1, h1, h14]
        obtain ⟨l0, hl0⟩ := RWL_any (α := β) (a := x + 939) (by rw [hwf.2.2.2.2.1 301 _ (fun z => by omega)]; exact h39.1) (by rw [hwf.2.2.2.2.1 301 _ (fun z => by omega)]; exact h39.2)
        refine ws_b (k_marksAlong n hn w (x + 939) _ β (f 1) (by omega) hWβ.2.1.1 (lpA w a.toInt.toNat) (EL f a.toInt.toNat) (WR_LM hWβ hC (by omega)) _ hWC (by rw [List.length_reverse]; exact Nat.le_trans (wyT_len _ _ _ _) (by decide)) (fun q hq => ?_) l0 hl0) (fun δ hδ => ws_s ?_)
        · have := wyT_rin (N := m.toInt.toNat) (I := i.toInt.toNat) (by omega) q hq
          rw [EL_len]; omega
        obtain ⟨hL, hqf⟩ := hδ
        refine ⟨⟨weD_tr (weD_wf hwf) (weD_qf hqf), pkp_tr (pkp_wf hwf) (pkp_qf hqf (by omega) (by rw [hwf.1, h40]; omega))⟩, fun q => (by cases q), fun lg q => ?_⟩
        have q : some (lpA w a.toInt.toNat) = some lg := q
        cases q
        exact ⟨⟨⟨e, e2⟩, ok⟩, rfl, WC_qf hWC hqf, hL, LM_qf (WR_LM hWβ hC (r := a.toInt.toNat) (by omega)) hqf⟩
      · exact ws_i (fun q => absurd q hv) (fun _ => bad2 v (fun q => no q.2))
  · rw [if_neg hr] at ho
    subst ho
    have no : ¬ wkOK f a i m what := fun q => hr q.2.2.1
    refine ws_hN ?_
    unfold f_X11_wrongInclusion
    refine ws_b (S := fun _ => True) (ws_hN (ws_lt (fun _ => ws_s trivial) (fun _ => ws_le (fun _ => ws_s trivial) (fun _ => ws_s trivial)))) (fun v _ => ws_i (fun _ => bad2 v no) (fun _ => bad2 v no))
/-- behind the table -/
theorem TB_jf {α β : hp_T} {w r M : Nat} (h : TB α r M) (f : jf w α β) : TB β r M := by
  obtain ⟨f1, -, -, -, -, f6⟩ := f
  unfold TB at h ⊢
  rw [f1]
  exact ⟨fun t ht => by rw [f6 34 _ t (fun z => absurd z.1 (by decide))]; exact h.1 t ht, fun t ht => by rw [f6 35 _ t (fun z => absurd z.1 (by decide))]; exact h.2 t ht⟩
theorem TBX_1 {α : hp_T} {x b M : Nat} {m : Int32} (hm : m.toInt = (M : Int)) (hN : hp_N α 618 x = some b) (h252 : hp_I α 252 b = m) (hT : TB α b M) : TBX α x := by
  intro b' hb M' _ _ hI
  rw [hN] at hb
  cases hb
  rw [h252, hm] at hI
  have : M = M' := by omega
  rw [← this]; exact hT
theorem TB_st {α : hp_T} {x r M : Nat} {v : Int32} (h : TB α r M) : TB (hp_sI α 600 x v) r M := h
section WT
variable {α δ γ : hp_T} {x b1 M : Nat} {f : Nat → Int32}
theorem kg_cg (g : GC α) (d : weD x α δ) (c : cg w_X4_prepare δ γ) {b : Nat} {κ : Nat} (k : hp_K α b = κ) (h0 : κ ≠ 0) : (∀ φ, hp_R γ φ b = hp_R α φ b) ∧ (∀ φ, φ ≠ 252 → hp_I γ φ b = hp_I δ φ b) ∧ ∀ κ' j, κ' ≠ 34 → κ' ≠ 35 → hp_E γ κ' b j = hp_E δ κ' b j := by
  have kd : hp_K δ b ≠ 0 := by rw [d.2.1, k]; exact h0
  exact ⟨fun φ => (c.2.2.2.1 φ b kd (by simp [w_X4_prepare])).trans (by rw [d.1]), fun φ p => c.2.2.1 φ b kd (by simp [w_X4_prepare, p]), fun κ' j p q => c.2.2.2.2.1 κ' b j kd (by simp [w_X4_prepare, p, q])⟩
theorem pkp_kg (g : GC α) (kx : hp_K α x = 12) (d : weD x α δ) (h6 : hp_R α 603 x = x + 919) (h3 : hp_R α 300 (x + 919) = x + 920) (c : cg w_X4_prepare δ γ) : pkp x δ γ := by
  have k6 : hp_K α (x + 919) = 6 := gkR g kx h6 rfl (by decide) (by decide)
  have k20 : hp_K α (x + 920) = 20 := gkR g k6 h3 rfl (by decide) (by decide)
  obtain ⟨r1, r2, -⟩ := kg_cg g d c k6 (by decide)
  obtain ⟨-, -, s3⟩ := kg_cg g d c k20 (by decide)
  exact ⟨r2 301 (by decide), (r1 300).trans (by rw [d.1]), fun j => s3 20 j (by decide) (by decide)⟩
theorem RWL_kg (g : GC α) (d : weD x α δ) (c : cg w_X4_prepare δ γ) {a : Nat} {l : List Int32} (k : hp_K α a = 6) (h : RWL δ a l) : RWL γ a l := by
  obtain ⟨r1, r2, -⟩ := kg_cg g d c k (by decide)
  have ka : hp_K α (hp_R α 300 a) = 20 := gkR g k rfl rfl (by decide) (by decide)
  obtain ⟨-, -, s3⟩ := kg_cg g d c ka (by decide)
  exact ⟨h.1, by rw [r2 301 (by decide)]; exact h.2.1, fun j hj => by rw [r1, s3 20 j (by decide) (by decide), ← d.1]; exact h.2.2 j hj⟩
theorem WC_kg (g : GC α) (d : weD x α δ) (c : cg w_X4_prepare δ γ) {a : Nat} {l : List (Nat × Nat × Bool)} (k : hp_K α a = 9) (h : WC δ a l) : WC γ a l := by
  obtain ⟨r1, r2, -⟩ := kg_cg g d c k (by decide)
  have k1 : hp_K α (hp_R α 450 a) = 21 := gkR g k rfl rfl (by decide) (by decide)
  have k2 : hp_K α (hp_R α 451 a) = 22 := gkR g k rfl rfl (by decide) (by decide)
  have k3 : hp_K α (hp_R α 452 a) = 23 := gkR g k rfl rfl (by decide) (by decide)
  obtain ⟨-, -, s1⟩ := kg_cg g d c k1 (by decide)
  obtain ⟨-, -, s2⟩ := kg_cg g d c k2 (by decide)
  obtain ⟨-, -, s3⟩ := kg_cg g d c k3 (by decide)
  refine ⟨by rw [r2 453 (by decide)]; exact h.1, fun j q hq => ?_⟩
  rw [r1, r1, r1, s1 21 j (by decide) (by decide), s2 22 j (by decide) (by decide), s3 23 j (by decide) (by decide), ← d.1]
  exact h.2 j q hq
theorem LM_kg (g : GC α) (d : weD x α δ) (c : cg w_X4_prepare δ γ) {a : Nat} {l : List Int32} (k : hp_K α a = 3) (h : LM δ a l) : LM γ a l := by
  obtain ⟨r1, r2, -⟩ := kg_cg g d c k (by decide)
  have ka : hp_K α (hp_R α 151 a) = 29 := gkR g k rfl rfl (by decide) (by decide)
  obtain ⟨-, -, s3⟩ := kg_cg g d c ka (by decide)
  exact ⟨h.1, by rw [r2 152 (by decide)]; exact h.2.1, fun j hj => by rw [r1, s3 29 j (by decide) (by decide), ← d.1]; exact h.2.2 j hj⟩
theorem k_weakT (n : Nat) (hn : 70000 ≤ n) (g : GC α) (kx : hp_K α x = 12) (hC : rC f) (hMR : MRL f) (h : RWX α x f) (h14 : hp_R α 614 x = x + 939) (hm : (f 1).toInt = (M : Int)) (a i m what : Int32) (ok : wkOK f a i m what) (d : weD x α δ) (hWC : WC δ (hp_R α 612 x) (wkW i m)) (hL : RWL δ (x + 939) (inL f a i m)) (hLM : LM δ (lpA (hp_R α 601 x) a.toInt.toNat) (EL f a.toInt.toNat)) (c : cg w_X4_prepare δ γ) (hN : hp_N γ 618 x = some b1) (hT : TB γ b1 M) (h252 : hp_I γ 252 b1 = f 1) : ∃ t : Int32 × hp_T, f_X11_weak_T n γ x i m what (lpA (hp_R α 601 x) a.toInt.toNat) b1 = some t ∧ (t.1 = wkA f a i m what ∧ TBX t.2 x ∧ pkp x γ t.2) := by
  obtain ⟨w, u, h1, h2, -, h4, -⟩ := h
  have hm0 := hC.2.1
  have h44 := hC.1
  obtain ⟨ok0, ok1, ok2, ok3, ok4⟩ := id ok
  have hsz := hC.2.2.2.2.1 a.toInt.toNat (by omega)
  have kw : hp_K α w = 11 := gkR g kx h1 rfl (by decide) (by decide)
  have kwy : hp_K α (hp_R α 612 x) = 9 := gkR g kx rfl rfl (by decide) (by decide)
  have krow : hp_K α (x + 939) = 6 := gkR g kx h14 rfl (by decide) (by decide)
  obtain ⟨a1, -, -, -, -, -, a7, -, -, -, -, -, -⟩ := h4.1
  have k1 : hp_K α (w + 1) = 30 := gkR g kw a1 rfl (by decide) (by decide)
  have klg : hp_K α (lpA w a.toInt.toNat) = 3 := gkQ g k1 (a7 a.toInt.toNat (by omega)) rfl (by decide)
  obtain ⟨x1, x2, -⟩ := kg_cg g d c kx (by decide)
  obtain ⟨w1, w2, -⟩ := kg_cg g d c kw (by decide)
  rw [h1] at hLM ⊢
  have hWCγ := WC_kg g d c kwy hWC
  have hLγ := RWL_kg g d c krow hL
  have hLMγ := LM_kg g d c klg hLM
  have h550 : hp_I γ 550 w = f 1 := by rw [w2 550 (by decide), d.2.2.2.1 550 w (by decide) (by decide) (by decide) (by decide)]; exact h4.2.1.1
  have hil : i.toInt.toNat < (EL f a.toInt.toNat).length := by rw [EL_len]; omega
  have hWl : (wkW i m).length = (wyT 31 i.toInt.toNat 0 m.toInt.toNat).length := by unfold wkW; rw [List.length_reverse]
  have hW31 : (wkW i m).length ≤ 31 := by rw [hWl]; exact wyT_len _ _ _ _
  unfold f_X11_weak_T
  refine ws_l (ws_l ?_)
  refine ws_b (k_markAt n hLMγ i.toInt.toNat i (by omega) hil) (fun em hem => ws_l ?_)
  replace hem : em = EM f a.toInt.toNat i.toInt.toNat := by
    have := EL_get f a.toInt.toNat i.toInt.toNat (by omega)
    rw [List.getElem?_eq_getElem hil] at this
    rw [hem]; exact Option.some.inj this
  rw [x1 612, x1 614, x1 601, h14, h1]
  refine ws_hc (k_headOf n hn w γ (f 1) (by omega) h550 (lpA w a.toInt.toNat) (EL f a.toInt.toNat) hLMγ m.toInt.toNat (by rw [EL_len]; omega) m (by omega)) (fun hd γ1 hγ1 => ?_)
  obtain ⟨hhd, hjf⟩ := hγ1
  replace hhd : hd = _ := hhd
  have emr := hMR a.toInt.toNat (by omega) (EM f a.toInt.toNat i.toInt.toNat) (List.mem_of_getElem? (EL_get f a.toInt.toNat i.toInt.toNat (by omega)))
  have hdr := TMK_lt hC (L := EL f a.toInt.toNat) (hMR a.toInt.toNat (by omega)) 0 m.toInt.toNat
  have hXlen : (inL f a i m).length = (wkW i m).length := by unfold inL wkW; rw [mkl_len]
  have hXr : ∀ j, j < (wkW i m).length → 0 ≤ ((inL f a i m).getD j 0).toInt ∧ ((inL f a i m).getD j 0).toInt ≤ 65521 := fun j hj => by
    have hj2 : j < ((wyT 31 i.toInt.toNat 0 m.toInt.toNat).reverse).length := hj
    have e := mkl_get (f 1) (EL f a.toInt.toNat) (wyT 31 i.toInt.toNat 0 m.toInt.toNat).reverse j hj2
    have e2 : (inL f a i m).getD j 0 = TMK (f 1) (EL f a.toInt.toNat) ((wyT 31 i.toInt.toNat 0 m.toInt.toNat).reverse[j]).1 ((wyT 31 i.toInt.toNat 0 m.toInt.toNat).reverse[j]).2.1 := by
      rw [List.getD_eq_getElem?_getD]
      unfold inL
      rw [e]; rfl
    rw [e2]
    have := TMK_lt hC (L := EL f a.toInt.toNat) (hMR a.toInt.toNat (by omega)) ((wyT 31 i.toInt.toNat 0 m.toInt.toNat).reverse[j]).1 ((wyT 31 i.toInt.toNat 0 m.toInt.toNat).reverse[j]).2.1
    omega
  have jI : hp_I γ1 = hp_I γ := hjf.2.2.2.2.1
  have hN1 : hp_N γ1 618 x = some b1 := by rw [hjf.2.2.2.1]; exact hN
  refine ws_b (k_seekThing n hn (M := M) (e := wkE f a i) hm (by omega) (by omega) (wkW i m) (inL f a i m) (WC_jfc hWCγ hjf) (by omega) (RWL_jf hLγ hjf) (by omega) hXr (by rw [jI]; exact h252) (TB_jf hT hjf) em hd (by rw [hem]; unfold wkE; omega) hd.toInt.toNat (by rw [hhd]; omega) (by rw [hhd]; omega)) (fun β hβ => ?_)
  obtain ⟨hS, hTβ, hIβ, hNβ, e1, -, -, e4, e5⟩ := hβ
  have pk : pkp x γ β := pkp_tr (pkp_jf hjf) ⟨e5 301 _ (by omega), e1 300 _ (by decide) (by decide), fun j => by rw [e4]⟩
  have hNb : hp_N β 618 x = some b1 := by rw [hNβ]; exact hN1
  have fold := gb_fold (M := M) (by omega) (fun j => wfl (wkW i m) j) (fun j => ((inL f a i m).getD j 0).toInt.toNat) (wkW i m).length (wkE f a i) hd.toInt.toNat (by rw [hhd]; omega) (wkP f a i m) (fun v hv => by
    have q := fwd_gF hm (by omega) (by omega) (fun j => (inL f a i m).getD j 0) (wkW i m) (fun j => wfl (wkW i m) j) (fun j => ((inL f a i m).getD j 0).toInt.toNat) (fun j _ => rfl) (fun j hj => by have := hXr j hj; show ((inL f a i m).getD j 0).toInt = _; omega) (Int32.ofNat v) v (by rw [Int32.toInt_ofNat_of_lt (by omega)]) (wkW i m).length (Nat.le_refl _)
    rw [List.take_length] at q
    unfold wkP
    rw [decide_eq_true_iff, ← hhd]
    constructor
    · intro z
      rw [z] at q; omega
    · intro z
      exact Int32.toInt_inj.mp (by rw [q, z, hhd]; omega)) (0, 0)
  rw [fold] at hS
  obtain ⟨s1, s2⟩ := hS
  unfold wkA
  rw [if_pos ok]
  have eM : (f 1).toInt.toNat = M := by omega
  rw [eM]
  unfold wkR
  refine ws_i (fun w0 => ws_l (ws_hc (k_answer n β x _) (fun z ε hz => ws_s ⟨?_, ?_⟩))) (fun w0 => ws_l (ws_i (fun z0 => ws_hc (k_refuse n β x 5) (fun z ε hz => ws_s ⟨?_, ?_⟩)) (fun z0 => ws_l (ws_hc (k_answer n β x _) (fun z ε hz => ws_s ⟨?_, ?_⟩)))))
  · rw [if_pos w0, show z = hp_I β 259 b1 from hz.1]; exact i_ofN s1
  · rw [show ε = hp_sI β 600 x 0 from hz.2]; exact ⟨TBX_1 hm hNb hIβ (TB_st hTβ), pkp_tr pk pkp_st⟩
  · rw [if_neg w0, if_pos (by rw [z0, lt0] at s1; omega)]; exact hz.1
  · rw [show ε = hp_sI β 600 x 5 from hz.2]; exact ⟨TBX_1 hm hNb hIβ (TB_st hTβ), pkp_tr pk pkp_st⟩
  · rw [if_neg w0, if_neg (fun q => z0 (Int32.toInt_inj.mp (by rw [s1, q]; rfl))), show z = hp_I β 260 b1 from hz.1]; exact i_ofN s2
  · rw [show ε = hp_sI β 600 x 0 from hz.2]; exact ⟨TBX_1 hm hNb hIβ (TB_st hTβ), pkp_tr pk pkp_st⟩
end WT
/-! ===== forge: that it ends, and keeps the table ===== -/
section GT
variable {r way row M lo : Nat} {m lastI openI kw ex : Int32} {W : List (Nat × Nat × Bool)} {XL : List Int32}
theorem k_leastRootT (n : Nat) {α : hp_T} (hI : hp_I α 252 r = m) (hm : m.toInt = (M : Int)) (hM : 0 < M) (hM2 : M ≤ 65521) (hT : TB α r M) (b t : Int32) : ws (f_X4_leastRoot n α r b t) (fun v => ∃ q, q < M ∧ v = hdI (rl M q M)) := by
  have h1 := ib_hi ((t - b) - (7 : Int32))
  have h2 := ib_lo ((t - b) - (7 : Int32))
  unfold f_X4_leastRoot
  refine ws_b (k_restOf n hI hm hM _ (by rw [i64_of]; omega) (by rw [i64_of]; omega)) (fun u hu => ?_)
  have a2 := (rN_v hM (((t - b) - (7 : Int32)).toInt64.toInt)).2
  refine ws_lt (fun c => by rw [lt0] at c; omega) (fun _ => ws_l (ws_le (fun c => by rw [t65521] at c; omega) (fun _ => ws_l (ws_g (by omega) (by omega) (ws_s ⟨_, a2, ?_⟩)))))
  rw [cl_n hu]
  exact hT.1 _ a2
theorem k_secondOfT (n : Nat) {α : hp_T} (hI : hp_I α 252 r = m) (hm : m.toInt = (M : Int)) (hM : 0 < M) (a t : Int32) : ws (f_X4_secondOf n α r a t) (fun _ => True) := by
  unfold f_X4_secondOf
  refine ws_l ?_
  rw [hI]
  refine ws_b (k_two n m a 0 (by omega)) (fun v _ => ?_)
  have h1 := ib_hi (t - v)
  have h2 := ib_lo (t - v)
  exact ws_b (k_restOf n hI hm hM _ (by rw [i64_of]; omega) (by rw [i64_of]; omega)) (fun u _ => ws_s trivial)
theorem k_takeT (n : Nat) {α : hp_T} (a : Int32) : ws (f_X4_take n α r a) (fun β => gbf r α β) := by
  have fin : ∀ (v : Int32), ws (f_X4_take_J29 n r α v r) (fun β => gbf r α β) := by
    intro v
    unfold f_X4_take_J29
    refine ws_ln (fun β hβ => ws_l (ws_ln (fun γ hγ => ws_s ⟨?_, ?_, ?_, fun φ b q => ?_⟩)))
    · rw [hγ, hβ]; rfl
    · rw [hγ, hβ]; exact ⟨rfl, rfl⟩
    · rw [hγ, hβ]; rfl
    · rw [hγ, hβ, hI_sI, if_neg (fun z => q ⟨z.2, Or.inl z.1⟩), hI_sI, if_neg (fun z => q ⟨z.2, Or.inr z.1⟩)]
  unfold f_X4_take
  refine ws_l (ws_i (fun c => ws_s gbf_rf) (fun c => ws_l (ws_i (fun z => fin a) (fun z => ws_l ?_))))
  unfold f_J9_min_7cf53
  exact ws_b (S := fun _ => True) (ws_lt (fun d => ws_s trivial) (fun d => ws_s trivial)) (fun v _ => fin v)
theorem k_goBackT (n : Nat) (hn : 70000 ≤ n) (hm : m.toInt = (M : Int)) (hM : 0 < M) (hM2 : M ≤ 65521) (hlo : lastI.toInt = (lo : Int)) (hW64 : W.length ≤ 64) (hXL : W.length ≤ XL.length) : ∀ (d k : Nat) (α : hp_T) (stepI tI : Int32), k + 1 ≤ d → lo + k ≤ W.length → stepI.toInt = (lo : Int) + k - 1 → SRF α r way row M m lastI openI kw ex W XL → ws (f_X4_goBack n d α r stepI tI) (fun β => gbf r α β) := by
  intro d
  induction d with
  | zero => intro k α stepI tI hd; omega
  | succ d ih =>
    intro k α stepI tI hd hkW hst hS
    obtain ⟨h1, h2, h3, h4, h5, h6, h7, h8, h9, h10⟩ := id hS
    rw [f_X4_goBack.eq_2]
    refine ws_l ?_
    rw [h2]
    cases k with
    | zero =>
      refine ws_lt (fun _ => ?_) (fun c => by omega)
      unfold f_X4_goBack_J12
      exact ws_b (k_takeT n tI) (fun β hβ => ws_s hβ)
    | succ k =>
      refine ws_lt (fun c => by omega) (fun _ => ws_le (fun _ => ws_l ?_) (fun c => by rw [lt0] at c; omega))
      have hj : lo + k < W.length := by omega
      have hstN : stepI.toInt = ((lo + k : Nat) : Int) := by omega
      have hst1 : (stepI - 1).toInt = (lo : Int) + k - 1 := by rw [iw_sub, lt1]; omega
      have loop : ∀ (q : Nat) (l : List Nat) (c : Nat) (β : hp_T) (rI cI : Int32), l.length + 1 ≤ q → cI.toInt = (c : Int) → c + l.length ≤ M → (∃ dd t, dd ≤ M ∧ rl M t dd = l) → rI = hdI l → gbf r α β → ws (f_X4_goBack_L92 n (f_X4_goBack n d) q β r stepI rI cI) (fun γ => gbf r α γ) := by
        intro q
        induction q with
        | zero => intro l c β rI cI hq; omega
        | succ q ihq =>
          intro l c β rI cI hq hc hcl hl hr hf
          have hSβ := SRF_f hS hf
          have g252 := hSβ.1
          rw [f_X4_goBack_L92.eq_2]
          refine ws_l ?_
          rw [g252]
          cases l with
          | nil =>
            have hr1 : rI = -1 := hr
            refine ws_le (fun _ => ws_s hf) (fun _ => ws_lt (fun _ => ws_s hf) (fun z => ?_))
            rw [hr1, lt0] at z
            exact absurd z (by decide)
          | cons h l =>
            obtain ⟨dd, t, hdd, hrl⟩ := hl
            obtain ⟨c1, c2, c3⟩ := rl_cons M t dd h l hdd hrl
            have hr1 : rI = Int32.ofNat h := hr
            have hrN : rI.toInt = (h : Int) := by rw [hr1, Int32.toInt_ofNat_of_lt (by omega)]
            rw [List.length_cons] at hq hcl
            refine ws_le (fun z => by omega) (fun _ => ws_lt (fun z => by rw [lt0] at z; omega) (fun _ => ws_le (fun z => by rw [t65521] at z; omega) (fun _ => ?_)))
            refine ws_b (k_firstOf n g252 hm hM rI h hrN) (fun y hy => ?_)
            refine ws_b (ih k β (stepI - 1) y (by omega) (by omega) hst1 hSβ) (fun γ hfγ => ws_l (ws_g (by omega) (by omega) (ws_l (ws_l ?_))))
            have hf2 := gbf_tr hf hfγ
            have hTγ := (SRF_f hS hf2).2.2.2.2.2.2.2.2.2
            refine ihq l (c + 1) γ _ _ (by omega) (by rw [iw_add, lt1]; omega) (by omega) ⟨M - (h + 1), qN M h, by omega, c1.symm⟩ ?_ hf2
            rw [cl_n hrN, hTγ.2 h c3, ← c1]
      have J51 : ∀ (w0 v : Int32), ws (f_X4_goBack_J51 n (f_X4_goBack n d) α r stepI tI w0 v) (fun β => gbf r α β) := by
        intro w0 v
        unfold f_X4_goBack_J51
        refine ws_l ?_
        rw [h6]
        refine ws_b (k_isAhead n h8 hW64 (lo + k) hj stepI hstN) (fun g hg => ws_i (fun c => ?_) (fun c => ?_))
        · refine ws_b (k_leastRootT n h1 hm hM hM2 h10 v tI) (fun root hroot => ?_)
          obtain ⟨t, -, hroot⟩ := hroot
          have hlen := rl_len M t M
          exact loop n _ 0 α root 0 (by omega) rfl (by omega) ⟨M, _, Nat.le_refl _, rfl⟩ hroot gbf_rf
        · refine ws_b (k_secondOfT n h1 hm hM v tI) (fun u _ => ?_)
          exact ws_b (ih k α (stepI - 1) u (by omega) (by omega) hst1 hS) (fun β hβ => ws_s hβ)
      unfold f_X4_goBack_J31
      refine ws_i (fun c => ws_i (fun z => absurd z (by decide)) (fun _ => ws_l (J51 1 _))) (fun c => ws_i (fun _ => ws_l ?_) (fun z => absurd rfl z))
      rw [h7]
      exact ws_b (k_rat n h9 (lo + k) (by omega) stepI hstN) (fun v hv => J51 0 v)
theorem k_seekStepT (n : Nat) (hn : 70000 ≤ n) {γ : hp_T} (hm : m.toInt = (M : Int)) (hM : 101 ≤ M) (hM2 : M ≤ 65521) (hWC : WC γ way W) (hW60 : W.length ≤ 60) (hRW : RWL γ row XL) (hXL : W.length ≤ XL.length) (h252 : hp_I γ 252 r = m) (hT : TB γ r M) (sf tI kI : Int32) (k : Nat) (hk : kI.toInt = (k : Int)) (hkW : k < W.length) : ws (f_X4_seekStep n γ r way row sf tI kI) (fun β => TB β r M ∧ hp_I β 252 r = m ∧ hp_N β = hp_N γ ∧ sef γ β) := by
  unfold f_X4_seekStep f_X4_seek
  refine ws_l (ws_l (ws_l (ws_l (ws_l (ws_ln (fun β5 h5 => ?_))))))
  refine ws_b (ws_l (ws_ln (fun β7 h7 => ws_l ?_))) (fun β hβ => ws_s hβ)
  have eR : hp_R β7 253 r = way ∧ hp_R β7 254 r = row := by
    rw [h7, h5]
    constructor
    · rw [hR_sI, hR_sI, hR_sI, hR_sI, hR_sI, hR_sI, hR_sR, if_neg (fun z => absurd z.1 (by decide)), hR_sR, if_pos ⟨rfl, rfl⟩]
    · rw [hR_sI, hR_sI, hR_sI, hR_sI, hR_sI, hR_sI, hR_sR, if_pos ⟨rfl, rfl⟩]
  have eRo : ∀ φ b, φ ≠ 253 → φ ≠ 254 → hp_R β7 φ b = hp_R γ φ b := fun φ b p q => by
    rw [h7, h5, hR_sI, hR_sI, hR_sI, hR_sI, hR_sI, hR_sI, hR_sR, if_neg (fun z => q z.1), hR_sR, if_neg (fun z => p z.1)]
  have eI : ∀ φ b, (φ < 255 ∨ 260 < φ) → hp_I β7 φ b = hp_I γ φ b := fun φ b p => by
    rw [h7, h5, hI_sI, if_neg (fun z => by omega), hI_sI, if_neg (fun z => by omega), hI_sI, if_neg (fun z => by omega), hI_sI, if_neg (fun z => by omega), hI_sI, if_neg (fun z => by omega), hI_sI, if_neg (fun z => by omega), hI_sR, hI_sR]
  have eE : hp_E β7 = hp_E γ := by rw [h7, h5]; rfl
  have eN : hp_N β7 = hp_N γ := by rw [h7, h5]; rfl
  have eK : hp_K β7 = hp_K γ := by rw [h7, h5]; rfl
  have i255 : hp_I β7 255 r = kI := by rw [h7, h5, hI_sI, if_neg (fun z => absurd z.1 (by decide)), hI_sI, if_neg (fun z => absurd z.1 (by decide)), hI_sI, if_neg (fun z => absurd z.1 (by decide)), hI_sI, if_neg (fun z => absurd z.1 (by decide)), hI_sI, if_neg (fun z => absurd z.1 (by decide)), hI_sI, if_pos ⟨rfl, rfl⟩]
  have i252 : hp_I β7 252 r = m := (eI 252 r (by omega)).trans h252
  have hWC7 : WC β7 way W := ⟨by rw [eI 453 way (by omega)]; exact hWC.1, fun k q hq => by rw [eRo 450 way (by decide) (by decide), eRo 451 way (by decide) (by decide), eRo 452 way (by decide) (by decide), eE]; exact hWC.2 k q hq⟩
  have hRW7 : RWL β7 row XL := ⟨hRW.1, by rw [eI 301 row (by omega)]; exact hRW.2.1, fun k hk => by rw [eRo 300 row (by decide) (by decide), eE]; exact hRW.2.2 k hk⟩
  have hT7 : TB β7 r M := by
    unfold TB at hT ⊢
    rw [eRo 250 r (by decide) (by decide), eRo 251 r (by decide) (by decide), eE]
    exact hT
  rw [i252]
  refine ws_le (fun c => by rw [lt0] at c; omega) (fun _ => ws_l (ws_l ?_))
  rw [eR.1]
  have h453 := hWC7.1
  refine ws_b (k_goBackT (lo := k) (W := W) (XL := XL) n hn hm (by omega) hM2 (lastI := kI) (openI := hp_I β7 256 r) (kw := hp_I β7 257 r) (ex := hp_I β7 258 r) hk (by omega) hXL 64 (W.length - k) β7 _ tI (by omega) (by omega) (by rw [iw_sub, lt1]; omega) ⟨i252, i255, rfl, rfl, rfl, eR.1, eR.2, hWC7, hRW7, hT7⟩) (fun β hβ => ws_s ?_)
  obtain ⟨f1, f2, f3, f4⟩ := hβ
  refine ⟨?_, by rw [f4 252 r (by omega)]; exact i252, f2.2.trans eN, ⟨fun φ b p q => by rw [f1]; exact eRo φ b p q, f2.1.trans eK, f2.2.trans eN, f3.trans eE, fun φ b p => by rw [f4 φ b (by omega)]; exact eI φ b p⟩⟩
  unfold TB at hT7 ⊢
  rw [f1, f3]; exact hT7
end GT
theorem k_forgeP (n : Nat) (hn : 70000 ≤ n) (α : hp_T) (x : Nat) (f : Nat → Int32) (hC : rC f) (h : RWX α x f) (h6 : hp_R α 603 x = x + 919) (XL : List Int32) (hP : RWL α (x + 919) XL) (mark i m head k : Int32) : ws (f_X11_forge_P n α x mark i m head k) (fun res => (weD x α res.2.2 ∧ pkp x α res.2.2) ∧ ∀ lg, res.1 = some lg → ∃ kk : Nat, k.toInt = (kk : Int) ∧ kk < (wkW i m).length ∧ XL.length = (wkW i m).length ∧ WC res.2.2 (hp_R α 612 x) (wkW i m) ∧ RWL res.2.2 (x + 919) XL) := by
  obtain ⟨w, u, h1, h2, -, h4, -⟩ := h
  have bad : ∀ (β : hp_T) (v : Int32), (weD x α β ∧ pkp x α β) → ws (hq_c (f_X11_refuse n β x v) fun r γ => some ((none : Option Nat), r, γ)) (fun res => (weD x α res.2.2 ∧ pkp x α res.2.2) ∧ ∀ lg, res.1 = some lg → ∃ kk : Nat, k.toInt = (kk : Int) ∧ kk < (wkW i m).length ∧ XL.length = (wkW i m).length ∧ WC res.2.2 (hp_R α 612 x) (wkW i m) ∧ RWL res.2.2 (x + 919) XL) := fun β v hd =>
    ws_hc (k_refuse n β x v) (fun z γ hz => ws_s ⟨by rw [show γ = hp_sI β 600 x v from hz.2]; exact ⟨weD_tr hd.1 weD_st, pkp_tr hd.2 pkp_st⟩, fun lg q => (by cases q)⟩)
  unfold f_X11_forge_P f_X11_forge_P_J30 f_X11_forge_P_J74
  refine ws_bo (k_isThing n i m) (fun z => bad α 1 ⟨weD_rf, pkp_rf⟩) (fun z1 => ws_lt (fun e => bad α 1 ⟨weD_rf, pkp_rf⟩) (fun e => ws_bo (k_isMark n h1 h4.2.1.1 mark) (fun z => bad α 1 ⟨weD_rf, pkp_rf⟩) (fun z2 => ws_bo (k_isMark n h1 h4.2.1.1 head) (fun z => bad α 1 ⟨weD_rf, pkp_rf⟩) (fun z3 => ws_l ?_))))
  rw [lt0] at e
  refine ws_b (k_toThing n hn α _ i m z1.1 z1.2) (fun β hβ => ws_l (ws_l (ws_l (ws_l ?_))))
  obtain ⟨hWC, hwf⟩ := hβ
  have hP2 := RWL_wf hP hwf
  rw [hwf.1, h6]
  have e301 := hP2.2.1
  have e453 := hWC.1
  refine ws_e (fun c => ws_l (ws_l (ws_lt (fun d => ws_s ⟨⟨weD_wf hwf, pkp_wf hwf⟩, fun lg _ => ?_⟩) (fun d => bad β 5 ⟨weD_wf hwf, pkp_wf hwf⟩)))) (fun c => bad β 5 ⟨weD_wf hwf, pkp_wf hwf⟩)
  have cI := congrArg Int32.toInt c
  rw [e301, e453] at cI
  have hl : XL.length = (wkW i m).length := by unfold wkW; omega
  refine ⟨k.toInt.toNat, by omega, by rw [← hl]; omega, hl, hWC, hP2⟩
section FT
variable {α δ γ : hp_T} {x b1 M : Nat} {f : Nat → Int32}
theorem k_forgeT (n : Nat) (hn : 70000 ≤ n) (g : GC α) (kx : hp_K α x = 12) (hC : rC f) (h : RWX α x f) (h6 : hp_R α 603 x = x + 919) (hm : (f 1).toInt = (M : Int)) (mark i m head kI : Int32) (XL : List Int32) (k : Nat) (hk : kI.toInt = (k : Int)) (hkW : k < (wkW i m).length) (hXl : XL.length = (wkW i m).length) (d : weD x α δ) (hWC : WC δ (hp_R α 612 x) (wkW i m)) (hL : RWL δ (x + 919) XL) (c : cg w_X4_prepare δ γ) (hN : hp_N γ 618 x = some b1) (hT : TB γ b1 M) (h252 : hp_I γ 252 b1 = f 1) : ∃ t : Int32 × hp_T, f_X11_forge_T n γ x mark head kI b1 = some t ∧ (TBX t.2 x ∧ pkp x γ t.2) := by
  obtain ⟨w, u, h1, h2, -, h4, -⟩ := h
  have hm0 := hC.2.1
  have kw : hp_K α w = 11 := gkR g kx h1 rfl (by decide) (by decide)
  have kwy : hp_K α (hp_R α 612 x) = 9 := gkR g kx rfl rfl (by decide) (by decide)
  have krow : hp_K α (x + 919) = 6 := gkR g kx h6 rfl (by decide) (by decide)
  obtain ⟨x1, x2, -⟩ := kg_cg g d c kx (by decide)
  obtain ⟨w1, w2, -⟩ := kg_cg g d c kw (by decide)
  have hWCγ := WC_kg g d c kwy hWC
  have hLγ := RWL_kg g d c krow hL
  have h550 : hp_I γ 550 w = f 1 := by rw [w2 550 (by decide), d.2.2.2.1 550 w (by decide) (by decide) (by decide) (by decide)]; exact h4.2.1.1
  have hW31 : (wkW i m).length ≤ 31 := by unfold wkW; rw [List.length_reverse]; exact wyT_len _ _ _ _
  unfold f_X11_forge_T
  refine ws_l (ws_l (ws_l (ws_l (ws_l (ws_l ?_)))))
  rw [x1 612, x1 603, x1 601, h6, h1, h550]
  refine ws_b (k_folded n hn γ _ (x + 919) (wkW i m) hWCγ (by omega) XL hLγ (f 1) (by omega) k kI hk (by omega) (by omega) mark) (fun sf _ => ?_)
  refine ws_b (k_seekStepT n hn hm (by omega) (by omega) hWCγ (by omega) hLγ (by omega) h252 hT sf head kI k hk hkW) (fun β hβ => ws_l ?_)
  obtain ⟨hTβ, hIβ, hNβ, e1, -, -, e4, e5⟩ := hβ
  have pk : pkp x γ β := ⟨e5 301 _ (by omega), e1 300 _ (by decide) (by decide), fun j => by rw [e4]⟩
  have hNb : hp_N β 618 x = some b1 := by rw [hNβ]; exact hN
  refine ws_i (fun z0 => ws_hc (k_refuse n β x 5) (fun z ε hz => ws_s ?_)) (fun z0 => ws_l (ws_hc (k_answer n β x _) (fun z ε hz => ws_s ?_)))
  · rw [show ε = hp_sI β 600 x 5 from hz.2]; exact ⟨TBX_1 hm hNb hIβ (TB_st hTβ), pkp_tr pk pkp_st⟩
  · rw [show ε = hp_sI β 600 x 0 from hz.2]; exact ⟨TBX_1 hm hNb hIβ (TB_st hTβ), pkp_tr pk pkp_st⟩
end FT
/-! ===== weak and forge for the law ===== -/
section WI
variable {x : Nat} {f : Nat → Int32}
theorem wkV (α : hp_T) (hC : rC f) (hTB : TBX α x) (hRW : RWX α x f) (a i m what : Int32) {res : Option Nat × Int32 × hp_T} (hd : weD x α res.2.2 ∧ pkp x α res.2.2) (h1 : res.1 = none → ¬ wkOK f a i m what ∧ res.2.1 = -1) : res.1 = none → (res.2.1 = wkA f a i m what ∧ TBX res.2.2 x ∧ pkp x α res.2.2) := fun e => by
  obtain ⟨no, q⟩ := h1 e
  refine ⟨?_, TBX_weD hTB hd.1, hd.2⟩
  unfold wkA
  rw [if_neg no]; exact q
theorem mm_weD {α δ : hp_T} (hRW : RWX α x f) (d : weD x α δ) : ∀ β, β = δ → hp_I β 550 (hp_R β 601 x) = f 1 := fun β e => by
  obtain ⟨w, u, h1, -, -, h4, -⟩ := hRW
  rw [e, d.1, d.2.2.2.1 550 _ (by decide) (by decide) (by decide) (by decide), h1]
  exact h4.2.1.1
theorem tb_weD {α δ : hp_T} {b0 M : Nat} (hTB : TBX α x) (hN : hp_N α 618 x = some b0) (hm : (f 1).toInt = (M : Int)) (hM : 101 ≤ M) (hM2 : M ≤ 65521) (d : weD x α δ) : ∀ β, β = δ → hp_I β 252 b0 = f 1 → TB β b0 M := fun β e h => by
  subst e
  exact TBX_weD hTB d b0 (by rw [d.2.2.1]; exact hN) M hM hM2 (by rw [h]; exact hm)
theorem w_weak_S (Γ : hp_G) (l : Launch) (α : hp_T) (g : GC α) (kx : hp_K α x = 12) (b0 : Nat) (hN : hp_N α 618 x = some b0) (hC : rC f) (hRW : RWX α x f) (h14 : hp_R α 614 x = x + 939) (h40 : hp_R α 300 (x + 939) = x + 940) (h6 : hp_R α 603 x = x + 919) (h3 : hp_R α 300 (x + 919) = x + 920) (h39 : 0 ≤ (hp_I α 301 (x + 939)).toInt ∧ (hp_I α 301 (x + 939)).toInt ≤ 64) (hTB : TBX α x) (a i m what : Int32) : Met l yX11_weak (hp_ws yX11_weak cX11_weak 8 (some .int)) (hp_rm 72 0 0) (hp_Pc Γ α [.ref x, .int a, .int i, .int m, .int what]) (hp_Qi Γ (fun r β => cw w_X11_weak_S α β ∧ (r = wkA f a i m what ∧ TBX β x ∧ pkp x α β))) 0 0 (hp_A Γ) := by
  have hm0 := hC.2.1
  have hm : (f 1).toInt = ((f 1).toInt.toNat : Int) := by omega
  obtain ⟨res, hq, hd, h1, h2⟩ := k_weakP 70000 (by decide) α x f hC hRW h14 h40 h39 a i m what
  refine n_X11_weak_S 70000 Γ l α g x kx a i m what b0 hN (f 1) (f 1).toInt.toNat hm (by omega) (by omega) (fun r β => r = wkA f a i m what ∧ TBX β x ∧ pkp x α β) res hq (wkV α hC hTB hRW a i m what hd h1) (mm_weD hRW hd.1) (tb_weD hTB hN hm (by omega) (by omega) hd.1) (fun {lg} e γ b1 p tb ib => ?_)
  obtain ⟨ok, elg, q1, q2, q3⟩ := h2 lg e
  subst elg
  obtain ⟨t, t1, t2, t3, t4⟩ := k_weakT 70000 (by decide) g kx hC (MRL_X hRW hC) hRW h14 hm a i m what ok hd.1 q1 q2 q3 p.1 p.2.2 tb ib
  exact ⟨t, t1, t2, t3, pkp_tr hd.2 (pkp_tr (pkp_kg g kx hd.1 h6 h3 p.1) t4)⟩
theorem w_weak_N (Γ : hp_G) (l : Launch) (α : hp_T) (g : GC α) (Hs : Heap) (kx : hp_K α x = 12) (hN : hp_N α 618 x = none) (hC : rC f) (hRW : RWX α x f) (h14 : hp_R α 614 x = x + 939) (h40 : hp_R α 300 (x + 939) = x + 940) (h6 : hp_R α 603 x = x + 919) (h3 : hp_R α 300 (x + 919) = x + 920) (h39 : 0 ≤ (hp_I α 301 (x + 939)).toInt ∧ (hp_I α 301 (x + 939)).toInt ≤ 64) (hTB : TBX α x) (a i m what : Int32) : Met l yX11_weak (hp_ws yX11_weak cX11_weak 8 (some .int)) (hp_rm 72 9 131316) (hp_PcH Γ α Hs [.ref x, .int a, .int i, .int m, .int what]) (va_Qi (fun r β => cg w_X11_weak_S α β ∧ (r = wkA f a i m what ∧ TBX β x ∧ pkp x α β)) (hp_Bz Γ Hs x) (hp_A Γ)) 9 131316 (hp_A Γ) := by
  have hm0 := hC.2.1
  have hm : (f 1).toInt = ((f 1).toInt.toNat : Int) := by omega
  obtain ⟨res, hq, hd, h1, h2⟩ := k_weakP 70000 (by decide) α x f hC hRW h14 h40 h39 a i m what
  refine n_X11_weak_N 70000 Γ l α g Hs x kx a i m what hN (f 1) (f 1).toInt.toNat hm (by omega) (by omega) (fun r β => r = wkA f a i m what ∧ TBX β x ∧ pkp x α β) res hq (wkV α hC hTB hRW a i m what hd h1) (mm_weD hRW hd.1) (fun {lg} e γ b1 p tb ib => ?_)
  obtain ⟨ok, elg, q1, q2, q3⟩ := h2 lg e
  subst elg
  obtain ⟨t, t1, t2, t3, t4⟩ := k_weakT 70000 (by decide) g kx hC (MRL_X hRW hC) hRW h14 hm a i m what ok hd.1 q1 q2 q3 p.1 p.2.2 tb ib
  exact ⟨t, t1, t2, t3, pkp_tr hd.2 (pkp_tr (pkp_kg g kx hd.1 h6 h3 p.1) t4)⟩
theorem w_forge_S (Γ : hp_G) (l : Launch) (α : hp_T) (g : GC α) (kx : hp_K α x = 12) (b0 : Nat) (hN : hp_N α 618 x = some b0) (hC : rC f) (hRW : RWX α x f) (h6 : hp_R α 603 x = x + 919) (h3 : hp_R α 300 (x + 919) = x + 920) (h39 : 0 ≤ (hp_I α 301 (x + 919)).toInt ∧ (hp_I α 301 (x + 919)).toInt ≤ 64) (hTB : TBX α x) (mark i m head k : Int32) : Met l yX11_forge (hp_ws yX11_forge cX11_forge 7 (some .int)) (hp_rm 72 0 0) (hp_Pc Γ α [.ref x, .int mark, .int i, .int m, .int head, .int k]) (hp_Qi Γ (fun r β => cw w_X11_forge_S α β ∧ (True ∧ TBX β x ∧ pkp x α β))) 0 0 (hp_A Γ) := by
  have hm0 := hC.2.1
  have hm : (f 1).toInt = ((f 1).toInt.toNat : Int) := by omega
  obtain ⟨XL, hXL⟩ := RWL_any (α := α) (a := x + 919) h39.1 h39.2
  obtain ⟨res, hq, hd, h2⟩ := k_forgeP 70000 (by decide) α x f hC hRW h6 XL hXL mark i m head k
  refine n_X11_forge_S 70000 Γ l α g x kx mark i m head k b0 hN (f 1) (f 1).toInt.toNat hm (by omega) (by omega) (fun r β => True ∧ TBX β x ∧ pkp x α β) res hq (fun _ => ⟨trivial, TBX_weD hTB hd.1, hd.2⟩) (mm_weD hRW hd.1) (tb_weD hTB hN hm (by omega) (by omega) hd.1) (fun {lg} e γ b1 p tb ib => ?_)
  obtain ⟨kk, c1, c2, c3, c4, c5⟩ := h2 lg e
  obtain ⟨t, t1, t2, t3⟩ := k_forgeT 70000 (by decide) g kx hC hRW h6 hm mark i m head k XL kk c1 c2 c3 hd.1 c4 c5 p.1 p.2.2 tb ib
  exact ⟨t, t1, trivial, t2, pkp_tr hd.2 (pkp_tr (pkp_kg g kx hd.1 h6 h3 p.1) t3)⟩
theorem w_forge_N (Γ : hp_G) (l : Launch) (α : hp_T) (g : GC α) (Hs : Heap) (kx : hp_K α x = 12) (hN : hp_N α 618 x = none) (hC : rC f) (hRW : RWX α x f) (h6 : hp_R α 603 x = x + 919) (h3 : hp_R α 300 (x + 919) = x + 920) (h39 : 0 ≤ (hp_I α 301 (x + 919)).toInt ∧ (hp_I α 301 (x + 919)).toInt ≤ 64) (hTB : TBX α x) (mark i m head k : Int32) : Met l yX11_forge (hp_ws yX11_forge cX11_forge 7 (some .int)) (hp_rm 72 9 131316) (hp_PcH Γ α Hs [.ref x, .int mark, .int i, .int m, .int head, .int k]) (va_Qi (fun r β => cg w_X11_forge_S α β ∧ (True ∧ TBX β x ∧ pkp x α β)) (hp_Bz Γ Hs x) (hp_A Γ)) 9 131316 (hp_A Γ) := by
  have hm0 := hC.2.1
  have hm : (f 1).toInt = ((f 1).toInt.toNat : Int) := by omega
  obtain ⟨XL, hXL⟩ := RWL_any (α := α) (a := x + 919) h39.1 h39.2
  obtain ⟨res, hq, hd, h2⟩ := k_forgeP 70000 (by decide) α x f hC hRW h6 XL hXL mark i m head k
  refine n_X11_forge_N 70000 Γ l α g Hs x kx mark i m head k hN (f 1) (f 1).toInt.toNat hm (by omega) (by omega) (fun r β => True ∧ TBX β x ∧ pkp x α β) res hq (fun _ => ⟨trivial, TBX_weD hTB hd.1, hd.2⟩) (mm_weD hRW hd.1) (fun {lg} e γ b1 p tb ib => ?_)
  obtain ⟨kk, c1, c2, c3, c4, c5⟩ := h2 lg e
  obtain ⟨t, t1, t2, t3⟩ := k_forgeT 70000 (by decide) g kx hC hRW h6 hm mark i m head k XL kk c1 c2 c3 hd.1 c4 c5 p.1 p.2.2 tb ib
  exact ⟨t, t1, trivial, t2, pkp_tr hd.2 (pkp_tr (pkp_kg g kx hd.1 h6 h3 p.1) t3)⟩
end WI
/-! ===== beside LX: the table ===== -/
def PRX (α : hp_T) (x : Nat) : Prop := hp_R α 614 x = x + 939 ∧ hp_R α 300 (x + 939) = x + 940 ∧ hp_R α 300 (x + 919) = x + 920
theorem PRX_0 (α : hp_T) (x : Nat) : PRX (F_X11_init α (x + 1) x) x := by
  have ha : x < x + 1 := by omega
  have f : hp_R (F_X5_init (F_X11_init_35 α (x + 1) x) (x + 1 + 939) (x + 1 + 938)) 300 (x + 1 + 938) = _ := fd_X5_300 _ _ _ (by omega)
  have g : hp_R (F_X5_init (F_X11_init_8 α (x + 1) x) (x + 1 + 919) (x + 1 + 918)) 300 (x + 1 + 918) = _ := fd_X5_300 _ _ _ (by omega)
  refine ⟨?_, ?_, ?_⟩
  · rw [fd_X11_614 α (x + 1) x ha]
  · rw [(tl_X11_36 α (x + 1) x (x + 939) (by omega) (by omega)).2.2.2.1 300, show x + 939 = x + 1 + 938 by omega]
    exact f.trans (by omega)
  · rw [(tl_X11_9 α (x + 1) x (x + 919) (by omega) (by omega)).2.2.2.1 300, show x + 919 = x + 1 + 918 by omega]
    exact g.trans (by omega)
theorem PRX_f {α β : hp_T} {x : Nat} (h : PRX α x) (e1 : hp_R β 614 x = hp_R α 614 x) (e2 : hp_R β 300 (x + 939) = hp_R α 300 (x + 939)) (e3 : hp_R β 300 (x + 919) = hp_R α 300 (x + 919)) : PRX β x := ⟨e1.trans h.1, e2.trans h.2.1, e3.trans h.2.2⟩
def CX (α : hp_T) (x : Nat) (_ : ms_T) : Prop := PRX α x ∧ TBX α x
def wcx (w : cw_W) : Bool := !(w.2.1.contains 300) && !(w.2.1.contains 614) && !(w.1.contains 252) && !(w.2.1.contains 250) && !(w.2.1.contains 251) && !(w.2.2.1.contains 34) && !(w.2.2.1.contains 35)
theorem CX_cw {w : cw_W} {α β : hp_T} {x : Nat} {σ : ms_T} (h : CX α x σ) (c : cw w α β) (hw : wcx w = true) : CX β x σ := by
  obtain ⟨c0, c1, c2, c3, c4, c5, c6, c7, c8⟩ := c
  simp only [wcx, Bool.and_eq_true, Bool.not_eq_true', List.contains_eq_mem, decide_eq_false_iff_not] at hw
  obtain ⟨⟨⟨⟨⟨⟨w0, w1⟩, w2⟩, w3⟩, w4⟩, w5⟩, w6⟩ := hw
  exact ⟨PRX_f h.1 (by rw [c6 614 w1]) (by rw [c6 300 w0]) (by rw [c6 300 w0]), TBX_f h.2 (by rw [c2]) (fun b _ => by rw [c5 252 w2]) (fun b _ => by rw [c6 250 w3, c6 251 w4]; exact ⟨rfl, rfl⟩) (fun b j _ => by rw [c7 34 w5, c7 35 w6]; exact ⟨rfl, rfl⟩)⟩
theorem CX_V {w : cw_W} {α β : hp_T} {x : Nat} {σ : ms_T} (h : CX α x σ) (c : cw w α β) (hw : (!(w.2.1.contains 614) && !(w.2.1.contains 300)) = true) (t : TBX β x) : CX β x σ := by
  obtain ⟨c0, c1, c2, c3, c4, c5, c6, c7, c8⟩ := c
  simp only [Bool.and_eq_true, Bool.not_eq_true', List.contains_eq_mem, decide_eq_false_iff_not] at hw
  exact ⟨PRX_f h.1 (by rw [c6 614 hw.1]) (by rw [c6 300 hw.2]) (by rw [c6 300 hw.2]), t⟩
theorem CX_cgV {w : cw_W} {α β : hp_T} {x : Nat} {σ : ms_T} (g : GC α) (hk : hp_K α x = 12) (h6 : hp_R α 603 x = x + 919) (h : CX α x σ) (c : cg w α β) (hw : (!(w.2.1.contains 614) && !(w.2.1.contains 300)) = true) (t : TBX β x) : CX β x σ := by
  simp only [Bool.and_eq_true, Bool.not_eq_true', List.contains_eq_mem, decide_eq_false_iff_not] at hw
  have k39 : hp_K α (x + 939) = 6 := gkR g hk h.1.1 rfl (by decide) (by decide)
  have k19 : hp_K α (x + 919) = 6 := gkR g hk h6 rfl (by decide) (by decide)
  exact ⟨PRX_f h.1 (c.2.2.2.1 614 x (by rw [hk]; decide) hw.1) (c.2.2.2.1 300 _ (by rw [k39]; decide) hw.2) (c.2.2.2.1 300 _ (by rw [k19]; decide) hw.2), t⟩
theorem CX_m {α β : hp_T} {x : Nat} {σ τ : ms_T} (h : CX α x σ) (c : mo α β) : CX β x τ := by
  obtain ⟨c1, c2, c3, c4, c5, c6, c7⟩ := c
  exact ⟨PRX_f h.1 (by rw [c2]) (by rw [c2]) (by rw [c2]), TBX_f h.2 (by rw [c3]) (fun b _ => by rw [c6 252 (by decide)]) (fun b _ => by rw [c2]; exact ⟨rfl, rfl⟩) (fun b j _ => by rw [c7 34 (by decide), c7 35 (by decide)]; exact ⟨rfl, rfl⟩)⟩
theorem TBX_0 {α : hp_T} {x : Nat} (h : hp_N α 618 x = none) : TBX α x := fun b hb => by rw [h] at hb; cases hb
theorem PRX_C {α β : hp_T} {x : Nat} (g : GC α) (hk : hp_K α x = 12) (hX : XSH α x) (h : PRX α x) (c : ∀ q, hp_K α q ≠ 0 → saC α β q) : PRX β x := by
  have k39 : hp_K α (x + 939) = 6 := gkR g hk h.1 rfl (by decide) (by decide)
  have k19 : hp_K α (x + 919) = 6 := gkR g hk hX.1 rfl (by decide) (by decide)
  exact PRX_f h ((c x (nz hk (by decide))).2.2.1 614) ((c _ (nz k39 (by decide))).2.2.1 300) ((c _ (nz k19 (by decide))).2.2.1 300)
