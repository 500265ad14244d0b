set_option maxRecDepth 100000
/-! ===== LX: what the law's loop keeps of both sides (without rows of marks) ===== -/
def okR (φ : Nat) : Bool := [551, 553, 555, 557, 558, 559, 300, 450, 451, 452, 150, 151, 500, 104, 601, 602, 603, 604, 606, 607, 616, 200, 207].contains φ
def okI (φ : Nat) : Bool := [550, 552, 554, 556, 152, 501, 100, 101, 102, 103, 400, 401, 402, 403].contains φ
def WZ (α : hp_T) (w : Nat) (f : Nat → Int32) : Prop := SHW α w ∧ (hp_I α 550 w = f 1 ∧ hp_I α 552 w = f 0 ∧ hp_I α 554 w = f 3 ∧ hp_I α 556 w = f 4) ∧ (∀ r, r < (f 0).toInt.toNat → hp_I α 152 (lpA w r) = f (72 + r) ∧ ∀ i, i < (f (72 + r)).toInt.toNat → EN α w f r i) ∧ (∀ i, i < (f 3).toInt.toNat → FZN α w f i) ∧ ∀ i, i < 4 → WTN α w f i
theorem WR_Z {α : hp_T} {w : Nat} {f : Nat → Int32} (g : GC α) (h : WZ α w f) : WR α w f := ⟨h.1, h.2.1, h.2.2.1, h.2.2.2.1, h.2.2.2.2, fun i _ => g.1 301 _ rfl⟩
theorem WZ_R {α : hp_T} {w : Nat} {f : Nat → Int32} (h : WR α w f) : WZ α w f := ⟨h.1, h.2.1, h.2.2.1, h.2.2.2.1, h.2.2.2.2.1⟩
def RWZ (α : hp_T) (x : Nat) (f : Nat → Int32) : Prop := ∃ w u, hp_R α 601 x = w ∧ hp_R α 602 x = u ∧ ((w = x + 1 ∧ u = x + 460) ∨ (w = x + 460 ∧ u = x + 1)) ∧ WZ α w f ∧ SHW α u
theorem RWX_Z {α : hp_T} {x : Nat} {f : Nat → Int32} (g : GC α) (h : RWZ α x f) : RWX α x f := by
  obtain ⟨w, u, h1, h2, h3, h4, h5⟩ := h
  exact ⟨w, u, h1, h2, h3, WR_Z g h4, g.1 301 _ rfl, h5, g.1 301 _ rfl, fun i _ => g.1 301 _ rfl⟩
theorem RWZ_X {α : hp_T} {x : Nat} {f : Nat → Int32} (h : RWX α x f) : RWZ α x f := by
  obtain ⟨w, u, h1, h2, h3, h4, -, h6, -, -⟩ := h
  exact ⟨w, u, h1, h2, h3, WZ_R h4, h6⟩
theorem SHW_z {α β : hp_T} {w : Nat} (h : SHW α w) (eR : ∀ φ b, w ≤ b → b < w + 459 → okR φ = true → hp_R β φ b = hp_R α φ b) (eQ : ∀ κ b j, w ≤ b → b < w + 459 → hp_Q β κ b j = hp_Q α κ b j) : SHW β w := by
  obtain ⟨a1, a2, a3, a4, a5, a6, a7, a8, a9, a10, ⟨a11, a12, a13⟩, a14, a15⟩ := h
  refine ⟨?_, ?_, ?_, ?_, ?_, ?_, fun r hr => ?_, fun r hr => ?_, fun r hr => ?_, ?_, ⟨?_, ?_, ?_⟩, fun r hr => ?_, fun i hi => ?_⟩
  · rw [eR 551 _ (by omega) (by omega) rfl]; exact a1
  · rw [eR 553 _ (by omega) (by omega) rfl]; exact a2
  · rw [eR 555 _ (by omega) (by omega) rfl]; exact a3
  · rw [eR 557 _ (by omega) (by omega) rfl]; exact a4
  · rw [eR 558 _ (by omega) (by omega) rfl]; exact a5
  · rw [eR 559 _ (by omega) (by omega) rfl]; exact a6
  · rw [eQ 30 _ r (by omega) (by omega)]; exact a7 r hr
  · rw [eQ 31 _ r (by omega) (by omega)]; exact a8 r hr
  · rw [eQ 32 _ r (by omega) (by omega)]; exact a9 r hr
  · rw [eR 300 _ (by omega) (by omega) rfl]; exact a10
  · rw [eR 450 _ (by omega) (by omega) rfl]; exact a11
  · rw [eR 451 _ (by omega) (by omega) rfl]; exact a12
  · rw [eR 452 _ (by omega) (by omega) rfl]; exact a13
  · obtain ⟨b1, b2, b3⟩ := a14 r hr
    refine ⟨?_, ?_, fun i hi => ⟨?_, ?_⟩⟩
    · rw [eR 150 _ (by unfold lpA; omega) (by unfold lpA; omega) rfl]; exact b1
    · rw [eR 151 _ (by unfold lpA; omega) (by unfold lpA; omega) rfl]; exact b2
    · rw [eQ 28 _ i (by unfold lpA; omega) (by unfold lpA; omega)]; exact (b3 i hi).1
    · rw [eR 500 _ (by unfold wdA; omega) (by unfold wdA; omega) rfl]; exact (b3 i hi).2
  · refine ⟨?_, ?_⟩
    · rw [eR 104 _ (by unfold fzA; omega) (by unfold fzA; omega) rfl]; exact (a15 i hi).1
    · rw [eR 300 _ (by unfold fzA; omega) (by unfold fzA; omega) rfl]; exact (a15 i hi).2
theorem WZ_z {α β : hp_T} {w : Nat} {f : Nat → Int32} (h : WZ α w f) (hC : rC f) (eR : ∀ φ b, w ≤ b → b < w + 459 → okR φ = true → hp_R β φ b = hp_R α φ b) (eQ : ∀ κ b j, w ≤ b → b < w + 459 → hp_Q β κ b j = hp_Q α κ b j) (eI : ∀ φ b, w ≤ b → b < w + 459 → okI φ = true → hp_I β φ b = hp_I α φ b) (eE : ∀ κ b j, w ≤ b → b < w + 459 → κ = 27 ∨ κ = 29 → hp_E β κ b j = hp_E α κ b j) : WZ β w f := by
  have h4 := hC.1.2
  have h16 := hC.2.2.2.1.2
  obtain ⟨h1, h2, h3, hF, hW⟩ := h
  refine ⟨SHW_z h1 eR eQ, ⟨?_, ?_, ?_, ?_⟩, fun r hr => ?_, fun i hi => ?_, fun i hi => ?_⟩
  · rw [eI 550 w (by omega) (by omega) rfl]; exact h2.1
  · rw [eI 552 w (by omega) (by omega) rfl]; exact h2.2.1
  · rw [eI 554 w (by omega) (by omega) rfl]; exact h2.2.2.1
  · rw [eI 556 w (by omega) (by omega) rfl]; exact h2.2.2.2
  · obtain ⟨a1, a2⟩ := h3 r hr
    have hs := hC.2.2.2.2.1 r (by omega)
    refine ⟨by rw [eI 152 _ (by unfold lpA; omega) (by unfold lpA; omega) rfl]; exact a1, fun i hi => ?_⟩
    obtain ⟨⟨b1, b2, b3, b4⟩, b5⟩ := a2 i hi
    have hsh := (h1.2.2.2.2.2.2.2.2.2.2.2.1 r (by omega)).2.2 i (by omega)
    refine ⟨⟨b1, by rw [eI 501 _ (by unfold wdA; omega) (by unfold wdA; omega) rfl]; exact b2, fun k hk => ?_, b4⟩, ?_⟩
    · rw [eR 500 _ (by unfold wdA; omega) (by unfold wdA; omega) rfl, hsh.2, eE 27 _ k (by unfold wdA; omega) (by unfold wdA; omega) (Or.inl rfl), ← hsh.2]; exact b3 k hk
    · rw [eE 29 _ i (by unfold lpA; omega) (by unfold lpA; omega) (Or.inr rfl)]; exact b5
  · obtain ⟨b1, b2, b3, b4, b5, b6⟩ := hF i hi
    refine ⟨?_, ?_, ?_, ?_, fun p => absurd p (fun q => q), fun k hk p => absurd p (fun q => q)⟩
    · rw [eI 100 _ (by unfold fzA; omega) (by unfold fzA; omega) rfl]; exact b1
    · rw [eI 101 _ (by unfold fzA; omega) (by unfold fzA; omega) rfl]; exact b2
    · rw [eI 102 _ (by unfold fzA; omega) (by unfold fzA; omega) rfl]; exact b3
    · rw [eI 103 _ (by unfold fzA; omega) (by unfold fzA; omega) rfl]; exact b4
  · obtain ⟨b1, b2, b3, b4⟩ := hW i hi
    refine ⟨?_, ?_, ?_, ?_⟩
    · rw [eI 400 _ (by unfold wtA; omega) (by unfold wtA; omega) rfl]; exact b1
    · rw [eI 401 _ (by unfold wtA; omega) (by unfold wtA; omega) rfl]; exact b2
    · rw [eI 403 _ (by unfold wtA; omega) (by unfold wtA; omega) rfl]; exact b3
    · rw [eI 402 _ (by unfold wtA; omega) (by unfold wtA; omega) rfl]; exact b4
/-- cells that are alike but for the pad -/
def cel (f g : Nat → Int32) : Prop := ∀ j, j ≠ 2 → (j < 8 ∨ 72 ≤ j) → j < 1980 → g j = f j
theorem WZ_g {α : hp_T} {w : Nat} {f g : Nat → Int32} (h : WZ α w f) (hC : rC f) (e : cel f g) : WZ α w g := by
  have h4 := hC.1.2
  have h16 := hC.2.2.2.1.2
  obtain ⟨h1, h2, h3, hF, hW⟩ := h
  have e0 := e 0 (by omega) (by omega) (by omega)
  have e3 := e 3 (by omega) (by omega) (by omega)
  refine ⟨h1, by rw [e 1 (by omega) (by omega) (by omega), e0, e3, e 4 (by omega) (by omega) (by omega)]; exact h2, fun r hr => ?_, fun i hi => ?_, fun i hi => ?_⟩
  · rw [e0] at hr
    obtain ⟨a1, a2⟩ := h3 r hr
    have hs := hC.2.2.2.2.1 r (by omega)
    rw [e (72 + r) (by omega) (by omega) (by omega)]
    refine ⟨a1, fun i hi => ?_⟩
    have hq := hC.2.2.2.2.2.2.2.2 (48 * r + i) (by omega)
    obtain ⟨b1, b2⟩ := a2 i hi
    have k1 := e (252 + (48 * r + i)) (by omega) (by omega) (by omega)
    have k2 : ∀ k, k < (f (252 + (48 * r + i))).toInt.toNat → g (444 + 8 * (48 * r + i) + k) = f (444 + 8 * (48 * r + i) + k) := fun k hk => e _ (by omega) (by omega) (by omega)
    exact ⟨by rw [ltr_c k1 k2]; exact b1, by rw [EM_c (e 1 (by omega) (by omega) (by omega)) k1 k2]; exact b2⟩
  · rw [e3] at hi
    obtain ⟨b1, b2, b3, b4, b5, b6⟩ := hF i hi
    exact ⟨by rw [e (92 + 10 * i) (by omega) (by omega) (by omega)]; exact b1, by rw [e (93 + 10 * i) (by omega) (by omega) (by omega)]; exact b2, by rw [e (94 + 10 * i) (by omega) (by omega) (by omega)]; exact b3, by rw [e (95 + 10 * i) (by omega) (by omega) (by omega)]; exact b4, fun p => absurd p (fun q => q), fun k hk p => absurd p (fun q => q)⟩
  · obtain ⟨b1, b2, b3, b4⟩ := hW i hi
    exact ⟨by rw [e (76 + 4 * i) (by omega) (by omega) (by omega)]; exact b1, by rw [e (77 + 4 * i) (by omega) (by omega) (by omega)]; exact b2, by rw [e (78 + 4 * i) (by omega) (by omega) (by omega)]; exact b3, by rw [e (79 + 4 * i) (by omega) (by omega) (by omega)]; exact b4⟩
def TYX (α : hp_T) (x : Nat) (σ : ms_T) : Prop := ∃ l, TYS σ l ∧ TYC α x l
def LX (α : hp_T) (x : Nat) (σ : ms_T) : Prop := rC (ms_E σ 40) ∧ XSH α x ∧ RWZ α x (ms_E σ 40) ∧ AL01 (ms_E σ 40) ∧ TPX α x σ ∧ TYX α x σ
/-- where what is kept lies -/
def inX (x b : Nat) : Prop := (x ≤ b ∧ b < x + 926) ∨ b = x + 944 ∨ b = x + 953
/-- what a change of the picture must leave -/
def keR (x : Nat) (α β : hp_T) : Prop := ∀ φ b, inX x b → okR φ = true → hp_R β φ b = hp_R α φ b
theorem XSH_f {α β : hp_T} {x : Nat} (h : XSH α x) (eR : keR x α β) (eK : hp_K β (x + 921) = hp_K α (x + 921)) : XSH β x := by
  obtain ⟨z1, z2, z3, z4, z5, z6, z7, z8⟩ := h
  refine ⟨?_, ?_, ?_, by rw [eK]; exact z4, ?_, ?_, ?_, ?_⟩
  · rw [eR 603 _ (by unfold inX; omega) rfl]; exact z1
  · rw [eR 300 _ (by unfold inX; omega) rfl]; exact z2
  · rw [eR 604 _ (by unfold inX; omega) rfl]; exact z3
  · rw [eR 616 _ (by unfold inX; omega) rfl]; exact z5
  · rw [eR 200 _ (by unfold inX; omega) rfl]; exact z6
  · rw [eR 207 _ (by unfold inX; omega) rfl]; exact z7
  · rw [eR 500 _ (by unfold inX; omega) rfl]; exact z8
theorem TYC_f {α β : hp_T} {x : Nat} {l : List Int32} (h : TYC α x l) (eR : keR x α β) (eI : ∀ b, x + 922 ≤ b → b < x + 926 → hp_I β 501 b = hp_I α 501 b) (eE : ∀ b j, x + 922 ≤ b → b < x + 926 → hp_E β 27 b j = hp_E α 27 b j) : TYC β x l := by
  obtain ⟨h1, h2, h3, h4⟩ := h
  have e6 := eR 606 x (by unfold inX; omega) rfl
  have e7 := eR 607 x (by unfold inX; omega) rfl
  have e8 := eR 500 (x + 922) (by unfold inX; omega) rfl
  have e9 := eR 500 (x + 924) (by unfold inX; omega) rfl
  refine ⟨by rw [e6, e7]; exact h1, e8.trans h2, e9.trans h3, ?_⟩
  rw [e6]
  obtain ⟨b1, b2, b3, b4⟩ := h4
  have ht : hp_R α 606 x = x + 922 ∨ hp_R α 606 x = x + 924 := by rcases h1 with q | q; exact Or.inl q.1; exact Or.inr q.1
  have hE : hp_R β 500 (hp_R α 606 x) = hp_R α 500 (hp_R α 606 x) ∧ x + 922 ≤ hp_R α 500 (hp_R α 606 x) ∧ hp_R α 500 (hp_R α 606 x) < x + 926 := by
    rcases ht with q | q
    · rw [q, e8, h2]; omega
    · rw [q, e9, h3]; omega
  refine ⟨b1, by rw [eI _ (by omega) (by omega)]; exact b2, fun k hk => ?_, b4⟩
  rw [hE.1, eE _ _ hE.2.1 hE.2.2]; exact b3 k hk
theorem RWZ_f {α β : hp_T} {x : Nat} {f g : Nat → Int32} (h : RWZ α x f) (hC : rC f) (eR : keR x α β) (eQ : ∀ κ b j, inX x b → hp_Q β κ b j = hp_Q α κ b j) (eI : ∀ φ b, inX x b → okI φ = true → hp_I β φ b = hp_I α φ b) (eE : ∀ κ b j, inX x b → κ = 27 ∨ κ = 29 → hp_E β κ b j = hp_E α κ b j) (e : cel f g) : RWZ β x g := by
  obtain ⟨w, u, h1, h2, h3, h4, h5⟩ := h
  refine ⟨w, u, by rw [eR 601 _ (by unfold inX; omega) rfl]; exact h1, by rw [eR 602 _ (by unfold inX; omega) rfl]; exact h2, h3, ?_, ?_⟩
  · exact WZ_g (WZ_z h4 hC (fun φ b p q r => eR φ b (by unfold inX; omega) r) (fun κ b j p q => eQ κ b j (by unfold inX; omega)) (fun φ b p q r => eI φ b (by unfold inX; omega) r) (fun κ b j p q r => eE κ b j (by unfold inX; omega) r)) hC e
  · exact SHW_z h5 (fun φ b p q r => eR φ b (by unfold inX; omega) r) (fun κ b j p q => eQ κ b j (by unfold inX; omega))
theorem TYS_e {σ τ : ms_T} {l : List Int32} (h : TYS σ l) (e1 : ms_I τ 664 = ms_I σ 664) (e2 : ∀ j, ms_E τ 45 j = ms_E σ 45 j) : TYS τ l := ⟨h.1, by rw [e1]; exact h.2.1, fun k hk => by rw [e2]; exact h.2.2 k hk⟩
theorem TPX_e {α : hp_T} {x : Nat} {σ τ : ms_T} (h : TPX α x σ) (e1 : ms_I τ 667 = ms_I σ 667) (e2 : ∀ j, ms_E τ 47 j = ms_E σ 47 j) : TPX α x τ := ⟨by rw [e1]; exact h.1, fun j hj => by rw [e2]; rw [e1] at hj; exact h.2 j hj⟩
theorem LX_p {α β : hp_T} {x : Nat} {σ : ms_T} (h : LX α x σ) (eR : keR x α β) (eQ : ∀ κ b j, inX x b → hp_Q β κ b j = hp_Q α κ b j) (eI : ∀ φ b, inX x b → okI φ = true ∨ φ = 605 → hp_I β φ b = hp_I α φ b) (eE : ∀ κ b j, inX x b → κ = 27 ∨ κ = 29 ∨ κ = 24 → hp_E β κ b j = hp_E α κ b j) (eK : hp_K β (x + 921) = hp_K α (x + 921)) : LX β x σ := by
  obtain ⟨h0, h1, h2, h3, ⟨t1, t2⟩, l, h5, h6⟩ := h
  refine ⟨h0, XSH_f h1 eR eK, RWZ_f h2 h0 eR eQ (fun φ b p r => eI φ b p (Or.inl r)) (fun κ b j p r => eE κ b j p (by omega)) (fun _ _ _ _ => rfl), h3, ⟨?_, fun j hj => ?_⟩, l, h5, TYC_f h6 eR (fun b p q => eI 501 b (by unfold inX; omega) (Or.inl rfl)) (fun b j p q => eE 27 b j (by unfold inX; omega) (Or.inl rfl))⟩
  · rw [eI 605 x (by unfold inX; omega) (Or.inr rfl)]; exact t1
  · rw [eE 24 _ j (by unfold inX; omega) (Or.inr (Or.inr rfl))]; exact t2 j hj
theorem AL_cel {f g : Nat → Int32} (hC : rC f) (h : AL01 f) (e : cel f g) : AL01 g := AL_eq hC h (e 0 (by omega) (by omega) (by omega)) (e 3 (by omega) (by omega) (by omega)) (fun j _ _ => e j (by omega) (by omega) (by omega))
theorem LX_s {α : hp_T} {x : Nat} {σ τ : ms_T} (h : LX α x σ) (e : cel (ms_E σ 40) (ms_E τ 40)) (hC : rC (ms_E τ 40)) (e4 : ms_I τ 664 = ms_I σ 664) (e7 : ms_I τ 667 = ms_I σ 667) (e45 : ∀ j, ms_E τ 45 j = ms_E σ 45 j) (e47 : ∀ j, ms_E τ 47 j = ms_E σ 47 j) : LX α x τ := by
  obtain ⟨h0, h1, h2, h3, h4, l, h5, h6⟩ := h
  exact ⟨hC, h1, RWZ_f h2 h0 (fun _ _ _ _ => rfl) (fun _ _ _ _ => rfl) (fun _ _ _ _ => rfl) (fun _ _ _ _ _ => rfl) e, AL_cel h0 h3 e, TPX_e h4 e7 e47, l, TYS_e h5 e4 e45, h6⟩
theorem cel_kq {σ τ : ms_T} (h : kq σ τ) : cel (ms_E σ 40) (ms_E τ 40) := fun j _ _ _ => h.2 40 rfl j
theorem cel_kpd {σ τ : ms_T} (h : kpd σ τ) (hC : rC (ms_E τ 40)) : cel (ms_E σ 40) (ms_E τ 40) := fun j h2 h8 _ => h.2.2 j h2 (by have := hC.2.2.1; omega)
/-- lists of a call that leaves it all -/
def wlx (w : cw_W) : Bool := w.1.all (fun φ => !(okI φ) && !(φ == 605)) && w.2.1.all (fun φ => !(okR φ)) && w.2.2.1.all (fun κ => !(κ == 27) && !(κ == 29) && !(κ == 24))
theorem wlx_I {w : cw_W} (h : wlx w = true) {φ : Nat} (hφ : okI φ = true ∨ φ = 605) : φ ∉ w.1 := fun q => by
  simp only [wlx, Bool.and_eq_true, List.all_eq_true] at h
  have := h.1.1 φ q
  rcases hφ with e | e
  · rw [e] at this; simp at this
  · rw [e] at this; simp at this
theorem wlx_R {w : cw_W} (h : wlx w = true) {φ : Nat} (hφ : okR φ = true) : φ ∉ w.2.1 := fun q => by
  simp only [wlx, Bool.and_eq_true, List.all_eq_true] at h
  have := h.1.2 φ q
  rw [hφ] at this; simp at this
theorem wlx_E {w : cw_W} (h : wlx w = true) {κ : Nat} (hκ : κ = 27 ∨ κ = 29 ∨ κ = 24) : κ ∉ w.2.2.1 := fun q => by
  simp only [wlx, Bool.and_eq_true, List.all_eq_true] at h
  have := h.2 κ q
  rcases hκ with e | e | e <;> rw [e] at this <;> simp at this
theorem LX_cw {w : cw_W} {α β : hp_T} {x : Nat} {σ : ms_T} (h : LX α x σ) (c : cw w α β) (hw : wlx w = true) : LX β x σ := by
  obtain ⟨c0, c1, c2, c3, c4, c5, c6, c7, c8⟩ := c
  exact LX_p h (fun φ b _ r => by rw [c6 φ (wlx_R hw r)]) (fun κ b j _ => by rw [c3]) (fun φ b _ r => by rw [c5 φ (wlx_I hw r)]) (fun κ b j _ r => by rw [c7 κ (wlx_E hw r)]) (by rw [c1])
theorem LX_mo {α β : hp_T} {x : Nat} {σ : ms_T} (h : LX α x σ) (c : mo α β) : LX β x σ := by
  obtain ⟨c1, c2, c3, c4, c5, c6, c7⟩ := c
  refine LX_p h (fun φ b _ r => by rw [c2]) (fun κ b j _ => by rw [c4]) (fun φ b _ r => ?_) (fun κ b j _ r => ?_) (by rw [c1])
  · rw [c6 φ ?_]
    rcases r with r | r
    · simp only [okI, List.contains_cons, List.contains_nil, Bool.or_false, Bool.or_eq_true, beq_iff_eq] at r
      omega
    · omega
  · rw [c7 κ (by omega)]
