/-! ===== Roots, made at the first call ===== -/
def cg (w : cw_W) (α β : hp_T) : Prop := GC β ∧ (∀ b, hp_K α b ≠ 0 → hp_K β b = hp_K α b) ∧ (∀ φ b, hp_K α b ≠ 0 → φ ∉ w.1 → hp_I β φ b = hp_I α φ b) ∧ (∀ φ b, hp_K α b ≠ 0 → φ ∉ w.2.1 → hp_R β φ b = hp_R α φ b) ∧ (∀ κ b j, hp_K α b ≠ 0 → κ ∉ w.2.2.1 → hp_E β κ b j = hp_E α κ b j) ∧ (∀ κ b j, hp_K α b ≠ 0 → hp_L β κ b j = hp_L α κ b j) ∧ (∀ φ b, hp_K α b ≠ 0 → φ ∉ w.2.2.2 → hp_J β φ b = hp_J α φ b) ∧ ∀ κ b j, hp_K α b ≠ 0 → hp_Q β κ b j = hp_Q α κ b j
theorem cg_cw {w : cw_W} {α β : hp_T} (h : cw w α β) : cg w α β := by
  obtain ⟨h0, h1, h2, h3, h4, h5, h6, h7, h8⟩ := h
  exact ⟨h0, fun b _ => by rw [h1], fun φ b _ hφ => by rw [h5 φ hφ], fun φ b _ hφ => by rw [h6 φ hφ], fun κ b j _ hκ => by rw [h7 κ hκ], fun κ b j _ => by rw [h4], fun φ b _ hφ => by rw [h8 φ hφ], fun κ b j _ => by rw [h3]⟩
theorem cg_tr {v w : cw_W} {α β γ : hp_T} (h : cg w α β) (g : cg v β γ) (hs : cw_sub v w = true) : cg w α γ := by
  simp only [cw_sub, Bool.and_eq_true] at hs
  obtain ⟨⟨⟨s1, s2⟩, s3⟩, s4⟩ := hs
  obtain ⟨h0, h1, h2, h3, h4, h5, h6, h7⟩ := h
  obtain ⟨g0, g1, g2, g3, g4, g5, g6, g7⟩ := g
  have hk : ∀ b, hp_K α b ≠ 0 → hp_K β b ≠ 0 := fun b hb => by rw [h1 b hb]; exact hb
  exact ⟨g0, fun b hb => (g1 b (hk b hb)).trans (h1 b hb), fun φ b hb hφ => (g2 φ b (hk b hb) (cw_in s1 hφ)).trans (h2 φ b hb hφ), fun φ b hb hφ => (g3 φ b (hk b hb) (cw_in s2 hφ)).trans (h3 φ b hb hφ), fun κ b j hb hκ => (g4 κ b j (hk b hb) (cw_in s3 hκ)).trans (h4 κ b j hb hκ), fun κ b j hb => (g5 κ b j (hk b hb)).trans (h5 κ b j hb), fun φ b hb hφ => (g6 φ b (hk b hb) (cw_in s4 hφ)).trans (h6 φ b hb hφ), fun κ b j hb => (g7 κ b j (hk b hb)).trans (h7 κ b j hb)⟩
theorem cg_sa {w : cw_W} {α β : hp_T} (g : GC β) (h : ∀ b, hp_K α b ≠ 0 → sa α β b) : cg w α β :=
  ⟨g, fun b hb => (h b hb).1, fun φ b hb _ => (h b hb).2.1 φ, fun φ b hb _ => (h b hb).2.2.2.1 φ, fun κ b j hb _ => (h b hb).2.2.2.2.2.1 κ j, fun κ b j hb => (h b hb).2.2.2.2.2.2.1 κ j, fun φ b hb _ => (h b hb).2.2.1 φ, fun κ b j hb => (h b hb).2.2.2.2.2.2.2 κ j⟩
theorem cg_sN {w : cw_W} {α : hp_T} {φ a : Nat} {x : Option Nat} (g : GC (hp_sN α φ a x)) : cg w α (hp_sN α φ a x) :=
  ⟨g, fun b _ => rfl, fun _ b _ _ => rfl, fun _ b _ _ => rfl, fun κ b j _ _ => rfl, fun κ b j _ => rfl, fun _ b _ _ => rfl, fun κ b j _ => rfl⟩
theorem gc_sN5 {α : hp_T} {a x : Nat} (g : GC α) (hx : hp_K α x = 5) : GC (hp_sN α 618 a (some x)) := by
  refine ⟨g.1, g.2.1, fun b c hb hc => ?_, g.2.2.2⟩
  by_cases e : b = a
  · subst e
    rw [sN_at] at hc
    cases hc
    exact hx
  · rw [show hp_N (hp_sN α 618 a (some x)) 618 b = hp_N α 618 b by simp [hp_N, hp_sN, hp_up, e]] at hc
    exact g.2.2.1 b c hb hc
set_option maxRecDepth 100000 in
set_option maxHeartbeats 4000000 in
theorem t_X11_preparedRoots_N (Γ : hp_G) (l : Launch) (α : hp_T) (g : GC α) (a0 : Nat) (k0 : hp_K α a0 = 12) (hN : hp_N α 618 a0 = none) : Met l yX11_preparedRoots (hp_ws yX11_preparedRoots cX11_preparedRoots 1 (some (.object "ProvenRecord$Roots"))) (hp_rm 3 9 131316) (hp_Pc Γ α [.ref a0]) (hp_Qq Γ (fun r β => ∃ b0, r = some b0 ∧ cg w_X4_prepare α β ∧ hp_K β b0 = 5 ∧ hp_N β 618 a0 = some b0)) 9 131316 (hp_A Γ) := by
  refine hp_start (by decide) ?_
  intro p e s m below meth c C hr hlk B hnm
  have C : hp_C Γ p m c cX11_preparedRoots 1 s ([.ref a0] : List Value).toArray RX11 := C
  have hx := C.1.1
  have hb := C.1.2.1
  have hown := C.1.2.2.2.1
  have hts := C.1.2.2.2.2
  have hl := lv_entry ([.ref a0]) (n := 1) (Nat.le_of_ble_eq_true rfl)
  rw [lg_entry_eq]
  generalize (lg_sl ([.ref a0]) ++ List.replicate (1 - (lg_sl ([.ref a0])).length) Slot.unset).toArray = ls at hl ⊢
  have hl : lv_has ls 1 [(0, .ref a0)] := hl
  refine lv_aload_n hx hb dX11_preparedRoots_0 rfl (lv_at hl 0 rfl) (hp_n (n := 1) rfl ?_)
  refine q_get (v := .null) (κ := 12) (k := 18) (t := 3) (pc' := 4) C B k0 fl_X11_90 rfl rfl (by show va_rf (hp_N α 618 a0) = _; rw [hN]; rfl) dX11_preparedRoots_1 rfl ?_
  refine lv_ifnonnullN hx hb dX11_preparedRoots_4 (hp_n (n := 7) rfl ?_)
  refine lv_aload_n hx hb dX11_preparedRoots_7 rfl (lv_at hl 0 rfl) (hp_n (n := 8) rfl ?_)
  refine q_new (κ := 5) (N := 11) (pc' := 11) C B cl_X11_368 it_X4 iz_X4 rfl in_5 tyX4_ok df_5 (by decide) rfl rfl rfl (by omega) (by omega) dX11_preparedRoots_8 rfl (fun _ _ => trivial) (fun β1 h H1 f1 e1 B1 => ?_)
  have g1 : GC β1 := by rw [e1]; exact gc_nw g f1 (by decide)
  have k1 : hp_K β1 h = 105 := by rw [e1]; exact nw_k
  have z1 : ∀ φ, hp_I β1 φ h = 0 := fun φ => by rw [e1]; exact nw_i
  have s1 : ∀ b, hp_K α b ≠ 0 → b ≠ h ∧ sa α β1 b := fun b hb => by
    have hne : b ≠ h := fun q => hb (by rw [q]; exact f1)
    exact ⟨hne, by rw [e1]; exact sa_nw hne⟩
  refine lv_dup hx hb dX11_preparedRoots_11 rfl (hp_n (n := 12) rfl ?_)
  refine q_cv (pc' := 15) B1 (hp_runI (As := []) (rest := [.ref h, .ref a0]) C B1 (t_X4_init Γ l β1 g1 h k1 z1) lb_X4_init rfl li_X4_init lk_X11_474 rfl (by decide) rfl hl.1 rfl (Nat.le_of_ble_eq_true rfl) dX11_preparedRoots_12 ⟨by omega, by omega⟩) (fun _ _ => trivial) rfl (fun β2 H2 L2 p2 B2 => ?_)
  have s2 : ∀ b, hp_K α b ≠ 0 → sa α β2 b := fun b hb => by
    obtain ⟨h1, h2⟩ := s1 b hb
    exact sa_tr h2 (p2.1.2 b h1 (by rw [h2.1]; exact hb))
  have ka2 : hp_K β2 a0 = 12 := (s2 a0 (by rw [k0]; decide)).1.trans k0
  refine q_putn (κ := 12) (k := 18) (φ := 618) (pc' := 18) C B2 ka2 fl_X11_90 rfl rfl rfl rfl rfl rfl trivial dX11_preparedRoots_15 rfl (fun β3 H3 L3 e3 B3 => ?_)
  have g3 : GC β3 := by rw [e3]; exact gc_sN5 p2.1.1 p2.2.1
  have n3 : hp_N β3 618 a0 = some h := by rw [e3]; exact sN_at
  have ka3 : hp_K β3 a0 = 12 := by rw [e3]; exact ka2
  have kh3 : hp_K β3 h = 5 := by rw [e3]; exact p2.2.1
  have c3 : cg w_X4_prepare α β3 := cg_tr (v := w_X4_prepare) (cg_sa p2.1.1 s2) (by rw [e3]; exact cg_sN (by rw [← e3]; exact g3)) (by decide)
  refine lv_aload_n hx hb dX11_preparedRoots_18 rfl (lv_at hl 0 rfl) (hp_n (n := 19) rfl ?_)
  refine q_get (v := .ref h) (κ := 12) (k := 18) (t := 3) (pc' := 22) C B3 ka3 fl_X11_90 rfl rfl (by show va_rf (hp_N β3 618 a0) = _; rw [n3]; rfl) dX11_preparedRoots_19 rfl ?_
  refine lv_aload_n hx hb dX11_preparedRoots_22 rfl (lv_at hl 0 rfl) (hp_n (n := 23) rfl ?_)
  have kw : hp_K β3 (hp_R β3 601 a0) = 11 := by
    rcases g3.2.1 601 a0 (by rw [ka3]) (by decide) with q | q
    · exact q
    · exact absurd q.1 (by decide)
  refine q_get (v := .ref (hp_R β3 601 a0)) (κ := 12) (k := 1) (t := 1) (pc' := 26) C B3 ka3 fl_X11_16 rfl rfl rfl dX11_preparedRoots_23 rfl ?_
  refine q_geti (κ := 11) (k := 0) (φ := 550) (pc' := 29) C B3 kw fl_X11_122 rfl rfl rfl dX11_preparedRoots_26 rfl (fun x ex => ?_)
  refine q_cv (pc' := 32) B3 (hp_runV (As := [.int x]) (rest := []) C B3 (t_X4_prepare Γ l β3 g3 h kh3 x) lb_X4_prepare lv_X4_prepare lk_X11_475 kh3 rfl (by decide) rfl hl.1 rfl (Nat.le_of_ble_eq_true rfl) dX11_preparedRoots_29 ⟨by omega, by omega⟩) (fun _ _ => trivial) rfl (fun β4 H4 L4 p4 B4 => ?_)
  have n4 : hp_N β4 618 a0 = some h := by rw [p4.2.2.1]; exact n3
  have ka4 : hp_K β4 a0 = 12 := by rw [p4.2.1]; exact ka3
  refine lv_aload_n hx hb dX11_preparedRoots_32 rfl (lv_at hl 0 rfl) (hp_n (n := 33) rfl ?_)
  refine q_get (v := .ref h) (κ := 12) (k := 18) (t := 3) (pc' := 36) C B4 ka4 fl_X11_90 rfl rfl (by show va_rf (hp_N β4 618 a0) = _; rw [n4]; rfl) dX11_preparedRoots_33 rfl ?_
  refine W.widen (k := 9) (n := 131316) (by omega) (by omega) ?_
  exact q_aret (x := some h) C B4 hr hlk ⟨h, rfl, cg_tr c3 (cg_cw p4) (by decide), by rw [p4.2.1]; exact kh3, n4⟩ dX11_preparedRoots_36
