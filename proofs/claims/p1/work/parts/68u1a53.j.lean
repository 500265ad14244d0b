section JN10_0
set_option maxRecDepth 100000
set_option maxRecDepth 100000
set_option maxRecDepth 100000 in
set_option maxHeartbeats 4000000 in
theorem t_X11_preparedRoots_N2 (Γ : hp_G) (l : Launch) (α : hp_T) (g : GC α) (a0 : Nat) (k0 : hp_K α a0 = 12) (hN : hp_N α 618 a0 = none) (mm : Int32) (M : Nat) (hm : mm.toInt = (M : Int)) (hM : 101 ≤ M) (hM2 : M ≤ 65521) (hmα : hp_I α 550 (hp_R α 601 a0) = mm) : Met l yX11_preparedRoots (hp_ws yX11_preparedRoots cX11_preparedRoots 1 (some (.object "ProvenRecord$Roots"))) (hp_rm 3 9 131316) (hp_Pc Γ α [.ref a0]) (hp_Qq Γ (fun r β => ∃ b0, r = some b0 ∧ cg w_X4_prepare α β ∧ hp_K β b0 = 5 ∧ hp_N β 618 a0 = some b0 ∧ TB β b0 M ∧ hp_I β 252 b0 = mm)) 9 131316 (hp_A Γ) := by
  refine hp_start (by decide) ?_
  intro p e s m below meth c C hr hlk B hnm
  have C : hp_C Γ p m c cX11_preparedRoots 1 s ([.ref a0] : List Value).toArray RX11 := C
  have hx := C.1.1
  have hb := C.1.2.1
  have hown := C.1.2.2.2.1
  have hts := C.1.2.2.2.2
  have hl := lv_entry ([.ref a0]) (n := 1) (Nat.le_of_ble_eq_true rfl)
  rw [lg_entry_eq]
  generalize (lg_sl ([.ref a0]) ++ List.replicate (1 - (lg_sl ([.ref a0])).length) Slot.unset).toArray = ls at hl ⊢
  have hl : lv_has ls 1 [(0, .ref a0)] := hl
  refine lv_aload_n hx hb dX11_preparedRoots_0 rfl (lv_at hl 0 rfl) (hp_n (n := 1) rfl ?_)
  refine q_get (v := .null) (κ := 12) (k := 18) (t := 3) (pc' := 4) C B k0 fl_X11_90 rfl rfl (by show va_rf (hp_N α 618 a0) = _; rw [hN]; rfl) dX11_preparedRoots_1 rfl ?_
  refine lv_ifnonnullN hx hb dX11_preparedRoots_4 (hp_n (n := 7) rfl ?_)
  refine lv_aload_n hx hb dX11_preparedRoots_7 rfl (lv_at hl 0 rfl) (hp_n (n := 8) rfl ?_)
  refine q_new (κ := 5) (N := 11) (pc' := 11) C B cl_X11_368 it_X4 iz_X4 rfl in_5 tyX4_ok df_5 (by decide) rfl rfl rfl (by omega) (by omega) dX11_preparedRoots_8 rfl (fun _ _ => trivial) (fun β1 h H1 f1 e1 B1 => ?_)
  have g1 : GC β1 := by rw [e1]; exact gc_nw g f1 (by decide)
  have k1 : hp_K β1 h = 105 := by rw [e1]; exact nw_k
  have z1 : ∀ φ, hp_I β1 φ h = 0 := fun φ => by rw [e1]; exact nw_i
  have s1 : ∀ b, hp_K α b ≠ 0 → b ≠ h ∧ sa α β1 b := fun b hb => by
    have hne : b ≠ h := fun q => hb (by rw [q]; exact f1)
    exact ⟨hne, by rw [e1]; exact sa_nw hne⟩
  refine lv_dup hx hb dX11_preparedRoots_11 rfl (hp_n (n := 12) rfl ?_)
  refine q_cv (pc' := 15) B1 (hp_runI (As := []) (rest := [.ref h, .ref a0]) C B1 (t_X4_init Γ l β1 g1 h k1 z1) lb_X4_init rfl li_X4_init lk_X11_474 rfl (by decide) rfl hl.1 rfl (Nat.le_of_ble_eq_true rfl) dX11_preparedRoots_12 ⟨by omega, by omega⟩) (fun _ _ => trivial) rfl (fun β2 H2 L2 p2 B2 => ?_)
  have s2 : ∀ b, hp_K α b ≠ 0 → sa α β2 b := fun b hb => by
    obtain ⟨h1, h2⟩ := s1 b hb
    exact sa_tr h2 (p2.1.2 b h1 (by rw [h2.1]; exact hb))
  have ka2 : hp_K β2 a0 = 12 := (s2 a0 (by rw [k0]; decide)).1.trans k0
  refine q_putn (κ := 12) (k := 18) (φ := 618) (pc' := 18) C B2 ka2 fl_X11_90 rfl rfl rfl rfl rfl rfl trivial dX11_preparedRoots_15 rfl (fun β3 H3 L3 e3 B3 => ?_)
  have g3 : GC β3 := by rw [e3]; exact gc_sN5 p2.1.1 p2.2.1
  have n3 : hp_N β3 618 a0 = some h := by rw [e3]; exact sN_at
  have ka3 : hp_K β3 a0 = 12 := by rw [e3]; exact ka2
  have kh3 : hp_K β3 h = 5 := by rw [e3]; exact p2.2.1
  have c3 : cg w_X4_prepare α β3 := cg_tr (v := w_X4_prepare) (cg_sa p2.1.1 s2) (by rw [e3]; exact cg_sN (by rw [← e3]; exact g3)) (by decide)
  refine lv_aload_n hx hb dX11_preparedRoots_18 rfl (lv_at hl 0 rfl) (hp_n (n := 19) rfl ?_)
  refine q_get (v := .ref h) (κ := 12) (k := 18) (t := 3) (pc' := 22) C B3 ka3 fl_X11_90 rfl rfl (by show va_rf (hp_N β3 618 a0) = _; rw [n3]; rfl) dX11_preparedRoots_19 rfl ?_
  refine lv_aload_n hx hb dX11_preparedRoots_22 rfl (lv_at hl 0 rfl) (hp_n (n := 23) rfl ?_)
  have kw : hp_K β3 (hp_R β3 601 a0) = 11 := by
    rcases g3.2.1 601 a0 (by rw [ka3]) (by decide) with q | q
    · exact q
    · exact absurd q.1 (by decide)
  refine q_get (v := .ref (hp_R β3 601 a0)) (κ := 12) (k := 1) (t := 1) (pc' := 26) C B3 ka3 fl_X11_16 rfl rfl rfl dX11_preparedRoots_23 rfl ?_
  refine q_geti (κ := 11) (k := 0) (φ := 550) (pc' := 29) C B3 kw fl_X11_122 rfl rfl rfl dX11_preparedRoots_26 rfl (fun x ex => ?_)
  have kwα : hp_K α (hp_R α 601 a0) = 11 := by
    rcases g.2.1 601 a0 (by rw [k0]) (by decide) with q | q
    · exact q
    · exact absurd q.1 (by decide)
  have ex2 : x = mm := by
    rw [ex, c3.2.2.2.1 601 a0 (by rw [k0]; decide) (by decide), c3.2.2.1 550 _ (by rw [kwα]; decide) (by decide)]
    exact hmα
  subst ex2
  have z3 : hp_I β3 252 h = 0 := by
    rw [e3]
    exact p2.2.2 (252, 0) (by decide)
  obtain ⟨γ, hγ, y1, y2, y3⟩ := k_prepare (r := h) 70000 (by decide) hm hM hM2 β3 (fun q => by rw [z3] at q; rw [← q, lt0] at hm; omega)
  refine q_cv (pc' := 32) B3 (hp_runV (As := [.int x]) (rest := []) C B3 (n_X4_prepare 70000 Γ l β3 g3 h kh3 x γ hγ) lb_X4_prepare lv_X4_prepare lk_X11_475 kh3 rfl (by decide) rfl hl.1 rfl (Nat.le_of_ble_eq_true rfl) dX11_preparedRoots_29 ⟨by omega, by omega⟩) (fun _ _ => trivial) rfl (fun β4 H4 L4 p4 B4 => ?_)
  have n4 : hp_N β4 618 a0 = some h := by rw [p4.2.2.2.1]; exact n3
  have ka4 : hp_K β4 a0 = 12 := by rw [p4.2.2.1]; exact ka3
  refine lv_aload_n hx hb dX11_preparedRoots_32 rfl (lv_at hl 0 rfl) (hp_n (n := 33) rfl ?_)
  refine q_get (v := .ref h) (κ := 12) (k := 18) (t := 3) (pc' := 36) C B4 ka4 fl_X11_90 rfl rfl (by show va_rf (hp_N β4 618 a0) = _; rw [n4]; rfl) dX11_preparedRoots_33 rfl ?_
  refine W.widen (k := 9) (n := 131316) (by omega) (by omega) ?_
  exact q_aret (x := some h) C B4 hr hlk ⟨h, rfl, cg_tr c3 (cg_cw p4.2) (by decide), by rw [p4.2.2.1]; exact kh3, n4, by rw [p4.1]; exact y1, by rw [p4.1]; exact y3⟩ dX11_preparedRoots_36
set_option maxRecDepth 100000 in
set_option maxHeartbeats 4000000 in
theorem t_X11_preparedRoots_S2 (Γ : hp_G) (l : Launch) (α : hp_T) (g : GC α) (a0 : Nat) (k0 : hp_K α a0 = 12) (b0 : Nat) (hN : hp_N α 618 a0 = some b0) (mm : Int32) (M : Nat) (hm : mm.toInt = (M : Int)) (hM : 101 ≤ M) (hM2 : M ≤ 65521) (hmα : hp_I α 550 (hp_R α 601 a0) = mm) (hTB : hp_I α 252 b0 = mm → TB α b0 M) : Met l yX11_preparedRoots (hp_ws yX11_preparedRoots cX11_preparedRoots 1 (some (.object "ProvenRecord$Roots"))) (hp_rm 3 0 0) (hp_Pc Γ α [.ref a0]) (hp_Qq Γ (fun r β => (cw w_X11_preparedRoots_S α β ∧ r = some b0) ∧ TB β b0 M ∧ hp_I β 252 b0 = mm)) 0 0 (hp_A Γ) := by
  refine hp_start (by decide) ?_
  intro p e s m below meth c C hr hlk B0 hnm
  have C : hp_C Γ p m c cX11_preparedRoots 1 s ([.ref a0] : List Value).toArray RX11 := C
  have hx := C.1.1
  have hb := C.1.2.1
  have hown := C.1.2.2.2.1
  have hts := C.1.2.2.2.2
  have B : hp_B Γ (cw w_X11_preparedRoots_S) s α α s.heap [] := ⟨B0.1, B0.2.1, cw_rf g⟩
  have kb0 : hp_K α b0 = 5 := g.2.2.1 a0 b0 k0 hN
  have hl := lv_entry ([.ref a0]) (n := 1) (Nat.le_of_ble_eq_true rfl)
  show W p l e (hp_rm 3 0 0) s m ([.ref a0] : List Value).toArray below meth c s.heap [] 0 0 (MQ below (hp_Qq Γ (fun r β => (cw w_X11_preparedRoots_S α β ∧ r = some b0) ∧ TB β b0 M ∧ hp_I β 252 b0 = mm)) ([.ref a0] : List Value).toArray s 0 0 (hp_A Γ)) (entryFrame m ([.ref a0] : List Value).toArray 1)
  rw [lg_entry_eq]
  generalize (lg_sl ([.ref a0]) ++ List.replicate (1 - (lg_sl ([.ref a0])).length) Slot.unset).toArray = ls at hl ⊢
  have hl : lv_has ls 1 [(0, .ref a0)] := hl
  refine lv_aload_n hx hb dX11_preparedRoots_0 rfl (lv_at hl 0 rfl) (hp_n (n := 1) rfl ?_)
  refine q_get (v := va_rf (some b0)) (κ := 12) (k := 18) (pc' := 4) C B (cw_k B.2.2 k0) fl_X11_90 rfl rfl (by show va_rf (hp_N α 618 a0) = _; rw [B.2.2.2.2.1, hN]) dX11_preparedRoots_1 rfl ?_
  refine lv_ifnonnull (tgt := 18) hx hb dX11_preparedRoots_4 (by decide) ?_
  refine lv_aload_n hx hb dX11_preparedRoots_18 rfl (lv_at hl 0 rfl) (hp_n (n := 19) rfl ?_)
  refine q_get (v := va_rf (some b0)) (κ := 12) (k := 18) (pc' := 22) C B (cw_k B.2.2 k0) fl_X11_90 rfl rfl (by show va_rf (hp_N α 618 a0) = _; rw [B.2.2.2.2.1, hN]) dX11_preparedRoots_19 rfl ?_
  refine lv_aload_n hx hb dX11_preparedRoots_22 rfl (lv_at hl 0 rfl) (hp_n (n := 23) rfl ?_)
  refine q_getr (κ := 12) (k := 1) (φ := 601) (pc' := 26) C B (cw_k B.2.2 k0) fl_X11_16 rfl rfl rfl (cw_r B.2.2 k0 rfl rfl (by decide) (by decide)) dX11_preparedRoots_23 rfl (fun b_3 eb_3 kb_3 => ?_)
  refine q_geti (κ := 11) (k := 0) (φ := 550) (pc' := 29) C B (cw_k B.2.2 kb_3) fl_X11_122 rfl rfl rfl dX11_preparedRoots_26 rfl (fun x_4 ex_4 => ?_)
  have hx4 : x_4 = mm := by rw [ex_4, eb_3]; exact hmα
  subst hx4
  obtain ⟨γ, hγ, y1, y2, y3⟩ := k_prepare (r := b0) 70000 (by decide) hm hM hM2 α hTB
  refine q_cv (pc' := 32) B (hp_runV (As := [.int x_4]) (rest := []) C B (n_X4_prepare 70000 Γ l α B.2.2.1 b0 (cw_k B.2.2 kb0) x_4 γ hγ) lb_X4_prepare lv_X4_prepare lk_X11_475 (cw_k B.2.2 kb0) rfl (by decide) rfl hl.1 rfl (Nat.le_of_ble_eq_true rfl) dX11_preparedRoots_29 ⟨Nat.le_refl _, Nat.le_refl _⟩) (fun _ h => cw_tr B.2.2 h.2 (by decide)) rfl (fun αh_5 Hh_5 Lh_5 ph_5 Bh_5 => ?_)
  refine lv_aload_n hx hb dX11_preparedRoots_32 rfl (lv_at hl 0 rfl) (hp_n (n := 33) rfl ?_)
  refine q_get (v := va_rf (some b0)) (κ := 12) (k := 18) (pc' := 36) C Bh_5 (cw_k Bh_5.2.2 k0) fl_X11_90 rfl rfl (by show va_rf (hp_N αh_5 618 a0) = _; rw [Bh_5.2.2.2.2.1, hN]) dX11_preparedRoots_33 rfl ?_
  exact q_aret (x := (some b0)) C Bh_5 hr hlk ⟨⟨Bh_5.2.2, rfl⟩, by rw [ph_5.1]; exact y1, by rw [ph_5.1]; exact y3⟩ dX11_preparedRoots_36
def f_X11_weak_T (n : Nat) (α : hp_T) (a0 : Nat) (a2 : Int32) (a3 : Int32) (a4 : Int32) (a5 : Nat) (b0 : Nat) : Option (Int32 × hp_T) :=
  ms_l (hp_R α 612 a0) fun b1 =>
  ms_l (hp_R α 614 a0) fun b2 =>
  ms_b (f_X2_markAt n α a5 a2) fun rh3 =>
  ms_l (hp_R α 601 a0) fun b4 =>
  hq_c (f_X10_headOf n α b4 (some a5) a3) fun rh5 αh5 =>
  ms_b (f_X4_seekThing n αh5 b0 b1 b2 rh3 rh5) fun αh6 =>
  if a4 = 0 then
    ms_l (hp_I αh6 259 b0) fun x13 =>
    hq_c (f_X11_answer n αh6 a0 x13) fun rh14 αh14 =>
    some (rh14, αh14)
  else
    ms_l (hp_I αh6 259 b0) fun x8 =>
    if x8 = 0 then
      hq_c (f_X11_refuse n αh6 a0 (5 : Int32)) fun rh12 αh12 =>
      some (rh12, αh12)
    else
      ms_l (hp_I αh6 260 b0) fun x10 =>
      hq_c (f_X11_answer n αh6 a0 x10) fun rh11 αh11 =>
      some (rh11, αh11)
set_option maxRecDepth 100000 in
set_option maxHeartbeats 4000000 in
theorem un_X11_weak (n : Nat) (Γ : hp_G) (l : Launch) (α : hp_T) (g : GC α) (a0 : Nat) (k0 : hp_K α a0 = 12) (a2 : Int32) (a3 : Int32) (a4 : Int32) (a5 : Nat) (k5 : hp_K α a5 = 3) (b0 : Nat) (kb0 : hp_K α b0 = 5) (res : Int32 × hp_T) (hf : f_X11_weak_T n α a0 a2 a3 a4 a5 b0 = some res) {p : Program} {e : Env} {s : State} {m : MethodId} {below : List Frame} {meth : Method} {c : Code} {args0 : Array Value} (C : hp_C Γ p m c cX11_weak 8 s args0 RX11) (hr : meth.sig.returnType = (some .int)) (hlk : meth.locks = false) (H0 : Heap) (L0 : List Loc) (B : hp_B Γ (cw w_X11_weak_S) s α α H0 L0) (Pst : Int32 → hp_T → Prop) (Bq : hp_T → State → Prop) (hP : cw w_X11_weak_S α res.2 → Pst res.1 res.2) (hq : ∀ (t : State), cw w_X11_weak_S α res.2 → hp_Rep Γ res.2 t.heap → Bq res.2 t) (ls : Array Slot) (hl : lv_has ls 8 [(0, .ref a0), (2, .int a2), (3, .int a3), (4, .int a4), (5, .ref a5)]) : W p l e (hp_rm 72 9 131316) s m args0 below meth c H0 L0 9 131316 (MQ below (va_Qi Pst Bq (hp_A Γ)) args0 s 9 131316 (hp_A Γ)) (F0 m 83 ls [.ref b0]) := by
  have hx := C.1.1
  have hb := C.1.2.1
  have hown := C.1.2.2.2.1
  have hts := C.1.2.2.2.2
  unfold f_X11_weak_T at hf
  refine lv_astore (lv' := [(7, .ref b0), (0, .ref a0), (2, .int a2), (3, .int a3), (4, .int a4), (5, .ref a5)]) hx hb dX11_weak_83 hl (by decide) rfl (fun ls hl => hp_n (n := 85) rfl ?_)
  refine lv_aload hx hb dX11_weak_85 (lv_at hl 0 rfl) (hp_n (n := 87) rfl ?_)
  refine lv_aload_n hx hb dX11_weak_87 rfl (lv_at hl 1 rfl) (hp_n (n := 88) rfl ?_)
  refine q_getr (κ := 12) (k := 12) (φ := 612) (pc' := 91) C B (cw_k B.2.2 k0) fl_X11_62 rfl rfl rfl (cw_r B.2.2 k0 rfl rfl (by decide) (by decide)) dX11_weak_88 rfl (fun b1 eb1 kb1 => ?_)
  replace hf := ms_lE eb1 hf
  refine lv_aload_n hx hb dX11_weak_91 rfl (lv_at hl 1 rfl) (hp_n (n := 92) rfl ?_)
  refine q_getr (κ := 12) (k := 14) (φ := 614) (pc' := 95) C B (cw_k B.2.2 k0) fl_X11_69 rfl rfl rfl (cw_r B.2.2 k0 rfl rfl (by decide) (by decide)) dX11_weak_92 rfl (fun b2 eb2 kb2 => ?_)
  replace hf := ms_lE eb2 hf
  refine lv_aload hx hb dX11_weak_95 (lv_at hl 5 rfl) (hp_n (n := 97) rfl ?_)
  refine lv_iload_n hx hb dX11_weak_97 rfl (lv_at hl 2 rfl) (hp_n (n := 98) rfl ?_)
  obtain ⟨rh3, qh3, hf⟩ := ms_bE hf
  refine d_pi (pc' := 101) B (hp_runV (As := [.int a2]) (rest := [.ref b2, .ref b1, .ref b0]) C B (n_X2_markAt n Γ l α B.2.2.1 a5 (cw_k B.2.2 k5) a2 rh3 qh3) lb_X2_markAt lv_X2_markAt lk_X11_174 (cw_k B.2.2 k5) rfl (by decide) rfl hl.1 rfl (Nat.le_of_ble_eq_true rfl) dX11_weak_98 ⟨Nat.le_refl _, Nat.le_refl _⟩) rfl (fun Hh3 Lh3 Bh3 => ?_)
  refine lv_aload_n hx hb dX11_weak_101 rfl (lv_at hl 1 rfl) (hp_n (n := 102) rfl ?_)
  refine q_getr (κ := 12) (k := 1) (φ := 601) (pc' := 105) C Bh3 (cw_k Bh3.2.2 k0) fl_X11_16 rfl rfl rfl (cw_r Bh3.2.2 k0 rfl rfl (by decide) (by decide)) dX11_weak_102 rfl (fun b4 eb4 kb4 => ?_)
  replace hf := ms_lE eb4 hf
  refine lv_aload hx hb dX11_weak_105 (lv_at hl 5 rfl) (hp_n (n := 107) rfl ?_)
  refine lv_iload_n hx hb dX11_weak_107 rfl (lv_at hl 3 rfl) (hp_n (n := 108) rfl ?_)
  obtain ⟨rh5, αh5, qh5, hf⟩ := hq_cE hf
  refine d_ci (pc' := 111) Bh3 (hp_runV (As := [va_rf (some a5), .int a3]) (rest := [.int rh3, .ref b2, .ref b1, .ref b0]) C Bh3 (n_X10_headOf n Γ l α Bh3.2.2.1 b4 (cw_k Bh3.2.2 kb4) (some a5) (fun b h => by cases h; exact (cw_k Bh3.2.2 k5)) a3 (rh5, αh5) qh5) lb_X10_headOf lv_X10_headOf lk_X11_184 (cw_k Bh3.2.2 kb4) rfl (by decide) rfl hl.1 rfl (Nat.le_of_ble_eq_true rfl) dX11_weak_108 ⟨Nat.le_refl _, Nat.le_refl _⟩) (by decide) rfl (fun Hh5 Lh5 Bh5 => ?_)
  obtain ⟨αh6, qh6, hf⟩ := ms_bE hf
  refine d_cv (pc' := 114) Bh5 (hp_runV (As := [.ref b1, .ref b2, .int rh3, .int rh5]) (rest := []) C Bh5 (n_X4_seekThing n Γ l αh5 Bh5.2.2.1 b0 (cw_k Bh5.2.2 kb0) b1 (cw_k Bh5.2.2 kb1) b2 (cw_k Bh5.2.2 kb2) rh3 rh5 αh6 qh6) lb_X4_seekThing lv_X4_seekThing lk_X11_367 (cw_k Bh5.2.2 kb0) rfl (by decide) rfl hl.1 rfl (Nat.le_of_ble_eq_true rfl) dX11_weak_111 ⟨Nat.le_refl _, Nat.le_refl _⟩) (by decide) rfl (fun Hh6 Lh6 Bh6 => ?_)
  refine lv_iload hx hb dX11_weak_114 (lv_at hl 4 rfl) (hp_n (n := 116) rfl ?_)
  refine lv_if_ne (tgt := 129) hx hb dX11_weak_116 (by decide) (fun c7 => ?_) (fun c7 => hp_n (n := 119) rfl ?_)
  ·
    replace hf := ms_iF c7 hf
    refine lv_aload hx hb dX11_weak_129 (lv_at hl 0 rfl) (hp_n (n := 131) rfl ?_)
    refine q_geti (κ := 5) (k := 9) (φ := 259) (pc' := 134) C Bh6 (cw_k Bh6.2.2 kb0) fl_X11_373 rfl rfl rfl dX11_weak_131 rfl (fun x8 ex8 => ?_)
    replace hf := ms_lE ex8 hf
    refine lv_if_ne (tgt := 145) hx hb dX11_weak_134 (by decide) (fun c9 => ?_) (fun c9 => hp_n (n := 137) rfl ?_)
    ·
      replace hf := ms_iF c9 hf
      refine lv_aload_n hx hb dX11_weak_145 rfl (lv_at hl 1 rfl) (hp_n (n := 146) rfl ?_)
      refine lv_aload hx hb dX11_weak_146 (lv_at hl 0 rfl) (hp_n (n := 148) rfl ?_)
      refine q_geti (κ := 5) (k := 10) (φ := 260) (pc' := 151) C Bh6 (cw_k Bh6.2.2 kb0) fl_X11_376 rfl rfl rfl dX11_weak_148 rfl (fun x10 ex10 => ?_)
      replace hf := ms_lE ex10 hf
      obtain ⟨rh11, αh11, qh11, hf⟩ := hq_cE hf
      refine d_ci (pc' := 154) Bh6 (hp_runV (As := [.int x10]) (rest := []) C Bh6 (n_X11_answer n Γ l αh6 Bh6.2.2.1 a0 (cw_k Bh6.2.2 k0) x10 (rh11, αh11) qh11) lb_X11_answer lv_X11_answer lk_X11_115 (cw_k Bh6.2.2 k0) rfl (by decide) rfl hl.1 rfl (Nat.le_of_ble_eq_true rfl) dX11_weak_151 ⟨Nat.le_refl _, Nat.le_refl _⟩) (by decide) rfl (fun Hh11 Lh11 Bh11 => ?_)
      cases hf
      exact q_iretQ C Bh11 hr hlk (hP Bh11.2.2) (fun t ht => hq t Bh11.2.2 ht) dX11_weak_154
    ·
      replace hf := ms_iT c9 hf
      refine lv_aload_n hx hb dX11_weak_137 rfl (lv_at hl 1 rfl) (hp_n (n := 138) rfl ?_)
      refine lv_iconst (v := 5) hx hb dX11_weak_138 (by decide) (hp_n (n := 139) rfl ?_)
      obtain ⟨rh12, αh12, qh12, hf⟩ := hq_cE hf
      refine d_ci (pc' := 142) Bh6 (hp_runV (As := [.int (5 : Int32)]) (rest := []) C Bh6 (n_X11_refuse n Γ l αh6 Bh6.2.2.1 a0 (cw_k Bh6.2.2 k0) (5 : Int32) (rh12, αh12) qh12) lb_X11_refuse lv_X11_refuse lk_X11_98 (cw_k Bh6.2.2 k0) rfl (by decide) rfl hl.1 rfl (Nat.le_of_ble_eq_true rfl) dX11_weak_139 ⟨Nat.le_refl _, Nat.le_refl _⟩) (by decide) rfl (fun Hh12 Lh12 Bh12 => ?_)
      refine lv_goto (tgt := 154) hx hb dX11_weak_142 (by decide) ?_
      cases hf
      exact q_iretQ C Bh12 hr hlk (hP Bh12.2.2) (fun t ht => hq t Bh12.2.2 ht) dX11_weak_154
  ·
    replace hf := ms_iT c7 hf
    refine lv_aload_n hx hb dX11_weak_119 rfl (lv_at hl 1 rfl) (hp_n (n := 120) rfl ?_)
    refine lv_aload hx hb dX11_weak_120 (lv_at hl 0 rfl) (hp_n (n := 122) rfl ?_)
    refine q_geti (κ := 5) (k := 9) (φ := 259) (pc' := 125) C Bh6 (cw_k Bh6.2.2 kb0) fl_X11_373 rfl rfl rfl dX11_weak_122 rfl (fun x13 ex13 => ?_)
    replace hf := ms_lE ex13 hf
    obtain ⟨rh14, αh14, qh14, hf⟩ := hq_cE hf
    refine d_ci (pc' := 128) Bh6 (hp_runV (As := [.int x13]) (rest := []) C Bh6 (n_X11_answer n Γ l αh6 Bh6.2.2.1 a0 (cw_k Bh6.2.2 k0) x13 (rh14, αh14) qh14) lb_X11_answer lv_X11_answer lk_X11_115 (cw_k Bh6.2.2 k0) rfl (by decide) rfl hl.1 rfl (Nat.le_of_ble_eq_true rfl) dX11_weak_125 ⟨Nat.le_refl _, Nat.le_refl _⟩) (by decide) rfl (fun Hh14 Lh14 Bh14 => ?_)
    cases hf
    exact q_iretQ C Bh14 hr hlk (hP Bh14.2.2) (fun t ht => hq t Bh14.2.2 ht) dX11_weak_128
set_option maxRecDepth 100000 in
set_option maxHeartbeats 4000000 in
theorem un_X11_weakS (n : Nat) (Γ : hp_G) (l : Launch) (α : hp_T) (g : GC α) (a0 : Nat) (k0 : hp_K α a0 = 12) (a2 : Int32) (a3 : Int32) (a4 : Int32) (a5 : Nat) (k5 : hp_K α a5 = 3) (b0 : Nat) (kb0 : hp_K α b0 = 5) (res : Int32 × hp_T) (hf : f_X11_weak_T n α a0 a2 a3 a4 a5 b0 = some res) {p : Program} {e : Env} {s : State} {m : MethodId} {below : List Frame} {meth : Method} {c : Code} {args0 : Array Value} (C : hp_C Γ p m c cX11_weak 8 s args0 RX11) (hr : meth.sig.returnType = (some .int)) (hlk : meth.locks = false) (H0 : Heap) (L0 : List Loc) (B : hp_B Γ (cw w_X11_weak_S) s α α H0 L0) (Pst : Int32 → hp_T → Prop) (hP : cw w_X11_weak_S α res.2 → Pst res.1 res.2) (ls : Array Slot) (hl : lv_has ls 8 [(0, .ref a0), (2, .int a2), (3, .int a3), (4, .int a4), (5, .ref a5)]) : W p l e (hp_rm 72 0 0) s m args0 below meth c H0 L0 0 0 (MQ below (hp_Qi Γ Pst) args0 s 0 0 (hp_A Γ)) (F0 m 83 ls [.ref b0]) := by
  have hx := C.1.1
  have hb := C.1.2.1
  have hown := C.1.2.2.2.1
  have hts := C.1.2.2.2.2
  unfold f_X11_weak_T at hf
  refine lv_astore (lv' := [(7, .ref b0), (0, .ref a0), (2, .int a2), (3, .int a3), (4, .int a4), (5, .ref a5)]) hx hb dX11_weak_83 hl (by decide) rfl (fun ls hl => hp_n (n := 85) rfl ?_)
  refine lv_aload hx hb dX11_weak_85 (lv_at hl 0 rfl) (hp_n (n := 87) rfl ?_)
  refine lv_aload_n hx hb dX11_weak_87 rfl (lv_at hl 1 rfl) (hp_n (n := 88) rfl ?_)
  refine q_getr (κ := 12) (k := 12) (φ := 612) (pc' := 91) C B (cw_k B.2.2 k0) fl_X11_62 rfl rfl rfl (cw_r B.2.2 k0 rfl rfl (by decide) (by decide)) dX11_weak_88 rfl (fun b1 eb1 kb1 => ?_)
  replace hf := ms_lE eb1 hf
  refine lv_aload_n hx hb dX11_weak_91 rfl (lv_at hl 1 rfl) (hp_n (n := 92) rfl ?_)
  refine q_getr (κ := 12) (k := 14) (φ := 614) (pc' := 95) C B (cw_k B.2.2 k0) fl_X11_69 rfl rfl rfl (cw_r B.2.2 k0 rfl rfl (by decide) (by decide)) dX11_weak_92 rfl (fun b2 eb2 kb2 => ?_)
  replace hf := ms_lE eb2 hf
  refine lv_aload hx hb dX11_weak_95 (lv_at hl 5 rfl) (hp_n (n := 97) rfl ?_)
  refine lv_iload_n hx hb dX11_weak_97 rfl (lv_at hl 2 rfl) (hp_n (n := 98) rfl ?_)
  obtain ⟨rh3, qh3, hf⟩ := ms_bE hf
  refine d_pi (pc' := 101) B (hp_runV (As := [.int a2]) (rest := [.ref b2, .ref b1, .ref b0]) C B (n_X2_markAt n Γ l α B.2.2.1 a5 (cw_k B.2.2 k5) a2 rh3 qh3) lb_X2_markAt lv_X2_markAt lk_X11_174 (cw_k B.2.2 k5) rfl (by decide) rfl hl.1 rfl (Nat.le_of_ble_eq_true rfl) dX11_weak_98 ⟨Nat.le_refl _, Nat.le_refl _⟩) rfl (fun Hh3 Lh3 Bh3 => ?_)
  refine lv_aload_n hx hb dX11_weak_101 rfl (lv_at hl 1 rfl) (hp_n (n := 102) rfl ?_)
  refine q_getr (κ := 12) (k := 1) (φ := 601) (pc' := 105) C Bh3 (cw_k Bh3.2.2 k0) fl_X11_16 rfl rfl rfl (cw_r Bh3.2.2 k0 rfl rfl (by decide) (by decide)) dX11_weak_102 rfl (fun b4 eb4 kb4 => ?_)
  replace hf := ms_lE eb4 hf
  refine lv_aload hx hb dX11_weak_105 (lv_at hl 5 rfl) (hp_n (n := 107) rfl ?_)
  refine lv_iload_n hx hb dX11_weak_107 rfl (lv_at hl 3 rfl) (hp_n (n := 108) rfl ?_)
  obtain ⟨rh5, αh5, qh5, hf⟩ := hq_cE hf
  refine d_ci (pc' := 111) Bh3 (hp_runV (As := [va_rf (some a5), .int a3]) (rest := [.int rh3, .ref b2, .ref b1, .ref b0]) C Bh3 (n_X10_headOf n Γ l α Bh3.2.2.1 b4 (cw_k Bh3.2.2 kb4) (some a5) (fun b h => by cases h; exact (cw_k Bh3.2.2 k5)) a3 (rh5, αh5) qh5) lb_X10_headOf lv_X10_headOf lk_X11_184 (cw_k Bh3.2.2 kb4) rfl (by decide) rfl hl.1 rfl (Nat.le_of_ble_eq_true rfl) dX11_weak_108 ⟨Nat.le_refl _, Nat.le_refl _⟩) (by decide) rfl (fun Hh5 Lh5 Bh5 => ?_)
  obtain ⟨αh6, qh6, hf⟩ := ms_bE hf
  refine d_cv (pc' := 114) Bh5 (hp_runV (As := [.ref b1, .ref b2, .int rh3, .int rh5]) (rest := []) C Bh5 (n_X4_seekThing n Γ l αh5 Bh5.2.2.1 b0 (cw_k Bh5.2.2 kb0) b1 (cw_k Bh5.2.2 kb1) b2 (cw_k Bh5.2.2 kb2) rh3 rh5 αh6 qh6) lb_X4_seekThing lv_X4_seekThing lk_X11_367 (cw_k Bh5.2.2 kb0) rfl (by decide) rfl hl.1 rfl (Nat.le_of_ble_eq_true rfl) dX11_weak_111 ⟨Nat.le_refl _, Nat.le_refl _⟩) (by decide) rfl (fun Hh6 Lh6 Bh6 => ?_)
  refine lv_iload hx hb dX11_weak_114 (lv_at hl 4 rfl) (hp_n (n := 116) rfl ?_)
  refine lv_if_ne (tgt := 129) hx hb dX11_weak_116 (by decide) (fun c7 => ?_) (fun c7 => hp_n (n := 119) rfl ?_)
  ·
    replace hf := ms_iF c7 hf
    refine lv_aload hx hb dX11_weak_129 (lv_at hl 0 rfl) (hp_n (n := 131) rfl ?_)
    refine q_geti (κ := 5) (k := 9) (φ := 259) (pc' := 134) C Bh6 (cw_k Bh6.2.2 kb0) fl_X11_373 rfl rfl rfl dX11_weak_131 rfl (fun x8 ex8 => ?_)
    replace hf := ms_lE ex8 hf
    refine lv_if_ne (tgt := 145) hx hb dX11_weak_134 (by decide) (fun c9 => ?_) (fun c9 => hp_n (n := 137) rfl ?_)
    ·
      replace hf := ms_iF c9 hf
      refine lv_aload_n hx hb dX11_weak_145 rfl (lv_at hl 1 rfl) (hp_n (n := 146) rfl ?_)
      refine lv_aload hx hb dX11_weak_146 (lv_at hl 0 rfl) (hp_n (n := 148) rfl ?_)
      refine q_geti (κ := 5) (k := 10) (φ := 260) (pc' := 151) C Bh6 (cw_k Bh6.2.2 kb0) fl_X11_376 rfl rfl rfl dX11_weak_148 rfl (fun x10 ex10 => ?_)
      replace hf := ms_lE ex10 hf
      obtain ⟨rh11, αh11, qh11, hf⟩ := hq_cE hf
      refine d_ci (pc' := 154) Bh6 (hp_runV (As := [.int x10]) (rest := []) C Bh6 (n_X11_answer n Γ l αh6 Bh6.2.2.1 a0 (cw_k Bh6.2.2 k0) x10 (rh11, αh11) qh11) lb_X11_answer lv_X11_answer lk_X11_115 (cw_k Bh6.2.2 k0) rfl (by decide) rfl hl.1 rfl (Nat.le_of_ble_eq_true rfl) dX11_weak_151 ⟨Nat.le_refl _, Nat.le_refl _⟩) (by decide) rfl (fun Hh11 Lh11 Bh11 => ?_)
      cases hf
      exact q_iret C Bh11 hr hlk (hP Bh11.2.2) dX11_weak_154
    ·
      replace hf := ms_iT c9 hf
      refine lv_aload_n hx hb dX11_weak_137 rfl (lv_at hl 1 rfl) (hp_n (n := 138) rfl ?_)
      refine lv_iconst (v := 5) hx hb dX11_weak_138 (by decide) (hp_n (n := 139) rfl ?_)
      obtain ⟨rh12, αh12, qh12, hf⟩ := hq_cE hf
      refine d_ci (pc' := 142) Bh6 (hp_runV (As := [.int (5 : Int32)]) (rest := []) C Bh6 (n_X11_refuse n Γ l αh6 Bh6.2.2.1 a0 (cw_k Bh6.2.2 k0) (5 : Int32) (rh12, αh12) qh12) lb_X11_refuse lv_X11_refuse lk_X11_98 (cw_k Bh6.2.2 k0) rfl (by decide) rfl hl.1 rfl (Nat.le_of_ble_eq_true rfl) dX11_weak_139 ⟨Nat.le_refl _, Nat.le_refl _⟩) (by decide) rfl (fun Hh12 Lh12 Bh12 => ?_)
      refine lv_goto (tgt := 154) hx hb dX11_weak_142 (by decide) ?_
      cases hf
      exact q_iret C Bh12 hr hlk (hP Bh12.2.2) dX11_weak_154
  ·
    replace hf := ms_iT c7 hf
    refine lv_aload_n hx hb dX11_weak_119 rfl (lv_at hl 1 rfl) (hp_n (n := 120) rfl ?_)
    refine lv_aload hx hb dX11_weak_120 (lv_at hl 0 rfl) (hp_n (n := 122) rfl ?_)
    refine q_geti (κ := 5) (k := 9) (φ := 259) (pc' := 125) C Bh6 (cw_k Bh6.2.2 kb0) fl_X11_373 rfl rfl rfl dX11_weak_122 rfl (fun x13 ex13 => ?_)
    replace hf := ms_lE ex13 hf
    obtain ⟨rh14, αh14, qh14, hf⟩ := hq_cE hf
    refine d_ci (pc' := 128) Bh6 (hp_runV (As := [.int x13]) (rest := []) C Bh6 (n_X11_answer n Γ l αh6 Bh6.2.2.1 a0 (cw_k Bh6.2.2 k0) x13 (rh14, αh14) qh14) lb_X11_answer lv_X11_answer lk_X11_115 (cw_k Bh6.2.2 k0) rfl (by decide) rfl hl.1 rfl (Nat.le_of_ble_eq_true rfl) dX11_weak_125 ⟨Nat.le_refl _, Nat.le_refl _⟩) (by decide) rfl (fun Hh14 Lh14 Bh14 => ?_)
    cases hf
    exact q_iret C Bh14 hr hlk (hP Bh14.2.2) dX11_weak_128
def f_X11_weak_P_J11 (n : Nat) (a0 : Nat) (αh1 : hp_T) : Option (Option Nat × Int32 × hp_T) :=
  hq_c (f_X11_refuse n αh1 a0 (1 : Int32)) fun rh2 αh2 =>
  some (none, rh2, αh2)
def f_X11_weak_P_J46 (n : Nat) (a0 : Nat) (αh8 : hp_T) (v6_h8 : Int32) : Option (Option Nat × Int32 × hp_T) :=
  hq_c (f_X11_refuse n αh8 a0 v6_h8) fun rh9 αh9 =>
  some (none, rh9, αh9)
def f_X11_weak_P (n : Nat) (α : hp_T) (a0 : Nat) (a1 : Int32) (a2 : Int32) (a3 : Int32) (a4 : Int32) : Option (Option Nat × Int32 × hp_T) :=
  if a4 < 0 then
    f_X11_weak_P_J11 n a0 α
  else
    if a4 ≤ (1 : Int32) then
      ms_l (hp_R α 601 a0) fun b5 =>
      ms_b (f_X10_logAt n α b5 a1) fun rh6 =>
      hq_m rh6 (
        ms_b (f_X11_wrongInclusion n α none a2 a3) fun rh7 =>
        if rh7 = 0 then
          f_X11_weak_P_J46 n a0 α rh7
        else
          f_X11_weak_P_J46 n a0 α rh7) fun bh6 =>
      ms_b (f_X11_wrongInclusion n α (some bh6) a2 a3) fun rh11 =>
      if rh11 = 0 then
        ms_l (hp_R α 612 a0) fun b15 =>
        ms_b (f_X8_toThing n α b15 a2 a3) fun αh16 =>
        ms_l (hp_R αh16 601 a0) fun b17 =>
        ms_l (hp_R αh16 612 a0) fun b18 =>
        ms_l (hp_R αh16 614 a0) fun b19 =>
        ms_b (f_X10_marksAlong n αh16 b17 b18 (some bh6) b19) fun αh20 =>
        some (some bh6, 0, αh20)
      else
        f_X11_weak_P_J46 n a0 α rh11
    else
      f_X11_weak_P_J11 n a0 α
set_option maxRecDepth 100000 in
set_option maxHeartbeats 4000000 in
theorem n_X11_weak_N (n : Nat) (Γ : hp_G) (l : Launch) (α : hp_T) (g : GC α) (Hs : Heap) (a0 : Nat) (k0 : hp_K α a0 = 12) (a1 : Int32) (a2 : Int32) (a3 : Int32) (a4 : Int32) (hN : hp_N α 618 a0 = none) (mm : Int32) (M : Nat) (hm : mm.toInt = (M : Int)) (hM : 101 ≤ M) (hM2 : M ≤ 65521) (V : Int32 → hp_T → Prop) (res : Option Nat × Int32 × hp_T) (hf : f_X11_weak_P n α a0 a1 a2 a3 a4 = some res) (hE : res.1 = none → V res.2.1 res.2.2) (hmα : ∀ β, β = res.2.2 → hp_I β 550 (hp_R β 601 a0) = mm) (hT : ∀ {lg : Nat}, res.1 = some lg → ∀ γ b1, (cg w_X4_prepare res.2.2 γ ∧ hp_K γ b1 = 5 ∧ hp_N γ 618 a0 = some b1) → TB γ b1 M → hp_I γ 252 b1 = mm → ∃ t : Int32 × hp_T, f_X11_weak_T n γ a0 a2 a3 a4 lg b1 = some t ∧ V t.1 t.2) : Met l yX11_weak (hp_ws yX11_weak cX11_weak 8 (some .int)) (hp_rm 72 9 131316) (hp_PcH Γ α Hs [.ref a0, .int a1, .int a2, .int a3, .int a4]) (va_Qi (fun r β => cg w_X11_weak_S α β ∧ V r β) (hp_Bz Γ Hs a0) (hp_A Γ)) 9 131316 (hp_A Γ) := by
  unfold f_X11_weak_P at hf
  refine hp_startH (by decide) ?_
  intro p e s m below meth c C hr hlk B0 hHs
  have C : hp_C Γ p m c cX11_weak 8 s ([.ref a0, .int a1, .int a2, .int a3, .int a4] : List Value).toArray RX11 := C
  have hx := C.1.1
  have hb := C.1.2.1
  have hown := C.1.2.2.2.1
  have hts := C.1.2.2.2.2
  have B : hp_B Γ (cw w_X11_weak_S) s α α s.heap [] := ⟨B0.1, B0.2.1, cw_rf g⟩
  have hl := lv_entry ([.ref a0, .int a1, .int a2, .int a3, .int a4]) (n := 8) (Nat.le_of_ble_eq_true rfl)
  show W p l e (hp_rm 72 9 131316) s m ([.ref a0, .int a1, .int a2, .int a3, .int a4] : List Value).toArray below meth c s.heap [] 0 0 (MQ below (va_Qi (fun r β => cg w_X11_weak_S α β ∧ V r β) (hp_Bz Γ Hs a0) (hp_A Γ)) ([.ref a0, .int a1, .int a2, .int a3, .int a4] : List Value).toArray s 9 131316 (hp_A Γ)) (entryFrame m ([.ref a0, .int a1, .int a2, .int a3, .int a4] : List Value).toArray 8)
  rw [lg_entry_eq]
  generalize (lg_sl ([.ref a0, .int a1, .int a2, .int a3, .int a4]) ++ List.replicate (8 - (lg_sl ([.ref a0, .int a1, .int a2, .int a3, .int a4])).length) Slot.unset).toArray = ls at hl ⊢
  have hl : lv_has ls 8 [(0, .ref a0), (1, .int a1), (2, .int a2), (3, .int a3), (4, .int a4)] := hl
  refine lv_iload hx hb dX11_weak_0 (lv_at hl 4 rfl) (hp_n (n := 2) rfl ?_)
  have J11 : ∀ (αh1 : hp_T) (Hh1 : Heap) (Lh1 : List Loc) (Bh1 : hp_B Γ (cw w_X11_weak_S) s α αh1 Hh1 Lh1) (ls : Array Slot) (hl : lv_has ls 8 [(0, .ref a0)]) (hf : f_X11_weak_P_J11 n a0 αh1 = some res), W p l e (hp_rm 72 9 131316) s m ([.ref a0, .int a1, .int a2, .int a3, .int a4] : List Value).toArray below meth c Hh1 Lh1 0 0 (MQ below (va_Qi (fun r β => cg w_X11_weak_S α β ∧ V r β) (hp_Bz Γ Hs a0) (hp_A Γ)) ([.ref a0, .int a1, .int a2, .int a3, .int a4] : List Value).toArray s 9 131316 (hp_A Γ)) (F0 m 11 ls []) := by
    intro αh1 Hh1 Lh1 Bh1 ls hl hf
    unfold f_X11_weak_P_J11 at hf
    refine lv_aload_n hx hb dX11_weak_11 rfl (lv_at hl 0 rfl) (hp_n (n := 12) rfl ?_)
    refine lv_iconst (v := 1) hx hb dX11_weak_12 (by decide) (hp_n (n := 13) rfl ?_)
    obtain ⟨rh2, αh2, qh2, hf⟩ := hq_cE hf
    refine d_ci (pc' := 16) Bh1 (hp_runV (As := [.int (1 : Int32)]) (rest := []) C Bh1 (n_X11_refuse n Γ l αh1 Bh1.2.2.1 a0 (cw_k Bh1.2.2 k0) (1 : Int32) (rh2, αh2) qh2) lb_X11_refuse lv_X11_refuse lk_X11_98 (cw_k Bh1.2.2 k0) rfl (by decide) rfl hl.1 rfl (Nat.le_of_ble_eq_true rfl) dX11_weak_13 ⟨Nat.zero_le _, Nat.zero_le _⟩) (by decide) rfl (fun Hh2 Lh2 Bh2 => ?_)
    cases hf
    exact q_iretZ C Bh2 hr hlk hHs ⟨cg_cw Bh2.2.2, hE rfl⟩ dX11_weak_16
  refine lv_if_lt (tgt := 11) hx hb dX11_weak_2 (by decide) (fun c3 => ?_) (fun c3 => hp_n (n := 5) rfl ?_)
  ·
    replace hf := ms_iT c3 hf
    exact J11 α s.heap [] B ls (lv_sub hl [0] rfl) hf
  ·
    replace hf := ms_iF c3 hf
    refine lv_iload hx hb dX11_weak_5 (lv_at hl 4 rfl) (hp_n (n := 7) rfl ?_)
    refine lv_iconst (v := 1) hx hb dX11_weak_7 (by decide) (hp_n (n := 8) rfl ?_)
    refine lv_icmp_le (tgt := 17) hx hb dX11_weak_8 (by decide) (fun c4 => ?_) (fun c4 => hp_n (n := 11) rfl ?_)
    ·
      replace hf := ms_iT c4 hf
      refine lv_aload_n hx hb dX11_weak_17 rfl (lv_at hl 0 rfl) (hp_n (n := 18) rfl ?_)
      refine q_getr (κ := 12) (k := 1) (φ := 601) (pc' := 21) C B (cw_k B.2.2 k0) fl_X11_16 rfl rfl rfl (cw_r B.2.2 k0 rfl rfl (by decide) (by decide)) dX11_weak_18 rfl (fun b5 eb5 kb5 => ?_)
      replace hf := ms_lE eb5 hf
      refine lv_iload_n hx hb dX11_weak_21 rfl (lv_at hl 1 rfl) (hp_n (n := 22) rfl ?_)
      obtain ⟨rh6, qh6, hf⟩ := ms_bE hf
      refine d_pq (pc' := 25) B (hp_runV (As := [.int a1]) (rest := []) C B (n_X10_logAt n Γ l α B.2.2.1 b5 (cw_k B.2.2 kb5) a1 rh6 qh6) lb_X10_logAt lv_X10_logAt lk_X11_163 (cw_k B.2.2 kb5) rfl (by decide) rfl hl.1 rfl (Nat.le_of_ble_eq_true rfl) dX11_weak_22 ⟨Nat.zero_le _, Nat.zero_le _⟩) rfl (fun Hh6 Lh6 Bh6 kh6 => ?_)
      rcases rh6 with _ | bh6
      ·
        replace hf := hq_N hf
        refine lv_astoreN (lv' := [(5, .null), (0, .ref a0), (1, .int a1), (2, .int a2), (3, .int a3), (4, .int a4)]) hx hb dX11_weak_25 hl (by decide) rfl (fun ls hl => hp_n (n := 27) rfl ?_)
        refine lv_aloadN hx hb dX11_weak_27 (lv_at hl 0 rfl) (hp_n (n := 29) rfl ?_)
        refine lv_iload_n hx hb dX11_weak_29 rfl (lv_at hl 3 rfl) (hp_n (n := 30) rfl ?_)
        refine lv_iload_n hx hb dX11_weak_30 rfl (lv_at hl 4 rfl) (hp_n (n := 31) rfl ?_)
        obtain ⟨rh7, qh7, hf⟩ := ms_bE hf
        refine d_pi (pc' := 34) Bh6 (hp_runS (As := [va_rf none, .int a2, .int a3]) (rest := []) C Bh6 (n_X11_wrongInclusion n Γ l α Bh6.2.2.1 none (fun b h => by cases h) a2 a3 rh7 qh7) lb_X11_wrongInclusion ls_X11_wrongInclusion lk_X11_264 rfl (by decide) rfl hl.1 rfl (Nat.le_of_ble_eq_true rfl) dX11_weak_31 ⟨Nat.zero_le _, Nat.zero_le _⟩) rfl (fun Hh7 Lh7 Bh7 => ?_)
        refine lv_istore (lv' := [(6, .int rh7), (5, .null), (0, .ref a0), (1, .int a1), (2, .int a2), (3, .int a3), (4, .int a4)]) hx hb dX11_weak_34 hl (by decide) rfl (fun ls hl => hp_n (n := 36) rfl ?_)
        refine lv_iload hx hb dX11_weak_36 (lv_at hl 0 rfl) (hp_n (n := 38) rfl ?_)
        have J46 : ∀ (αh8 : hp_T) (Hh8 : Heap) (Lh8 : List Loc) (Bh8 : hp_B Γ (cw w_X11_weak_S) s α αh8 Hh8 Lh8) (v6_h8 : Int32) (ls : Array Slot) (hl : lv_has ls 8 [(0, .ref a0), (6, .int v6_h8)]) (hf : f_X11_weak_P_J46 n a0 αh8 v6_h8 = some res), W p l e (hp_rm 72 9 131316) s m ([.ref a0, .int a1, .int a2, .int a3, .int a4] : List Value).toArray below meth c Hh8 Lh8 0 0 (MQ below (va_Qi (fun r β => cg w_X11_weak_S α β ∧ V r β) (hp_Bz Γ Hs a0) (hp_A Γ)) ([.ref a0, .int a1, .int a2, .int a3, .int a4] : List Value).toArray s 9 131316 (hp_A Γ)) (F0 m 46 ls []) := by
          intro αh8 Hh8 Lh8 Bh8 v6_h8 ls hl hf
          unfold f_X11_weak_P_J46 at hf
          refine lv_aload_n hx hb dX11_weak_46 rfl (lv_at hl 0 rfl) (hp_n (n := 47) rfl ?_)
          refine lv_iload hx hb dX11_weak_47 (lv_at hl 1 rfl) (hp_n (n := 49) rfl ?_)
          obtain ⟨rh9, αh9, qh9, hf⟩ := hq_cE hf
          refine d_ci (pc' := 52) Bh8 (hp_runV (As := [.int v6_h8]) (rest := []) C Bh8 (n_X11_refuse n Γ l αh8 Bh8.2.2.1 a0 (cw_k Bh8.2.2 k0) v6_h8 (rh9, αh9) qh9) lb_X11_refuse lv_X11_refuse lk_X11_98 (cw_k Bh8.2.2 k0) rfl (by decide) rfl hl.1 rfl (Nat.le_of_ble_eq_true rfl) dX11_weak_49 ⟨Nat.zero_le _, Nat.zero_le _⟩) (by decide) rfl (fun Hh9 Lh9 Bh9 => ?_)
          cases hf
          exact q_iretZ C Bh9 hr hlk hHs ⟨cg_cw Bh9.2.2, hE rfl⟩ dX11_weak_52
        refine lv_if_ne (tgt := 46) hx hb dX11_weak_38 (by decide) (fun c10 => ?_) (fun c10 => hp_n (n := 41) rfl ?_)
        ·
          replace hf := ms_iF c10 hf
          exact J46 α Hh7 Lh7 Bh7 rh7 ls (lv_sub hl [2, 0] rfl) hf
        ·
          replace hf := ms_iT c10 hf
          refine lv_aloadN hx hb dX11_weak_41 (lv_at hl 1 rfl) (hp_n (n := 43) rfl ?_)
          refine lv_ifnonnullN hx hb dX11_weak_43 (hp_n (n := 46) rfl ?_)
          exact J46 α Hh7 Lh7 Bh7 rh7 ls (lv_sub hl [2, 0] rfl) hf
      ·
        replace hf := hq_S hf
        have kbh6 := kh6 bh6 rfl
        refine lv_astore (lv' := [(5, .ref bh6), (0, .ref a0), (1, .int a1), (2, .int a2), (3, .int a3), (4, .int a4)]) hx hb dX11_weak_25 hl (by decide) rfl (fun ls hl => hp_n (n := 27) rfl ?_)
        refine lv_aload hx hb dX11_weak_27 (lv_at hl 0 rfl) (hp_n (n := 29) rfl ?_)
        refine lv_iload_n hx hb dX11_weak_29 rfl (lv_at hl 3 rfl) (hp_n (n := 30) rfl ?_)
        refine lv_iload_n hx hb dX11_weak_30 rfl (lv_at hl 4 rfl) (hp_n (n := 31) rfl ?_)
        obtain ⟨rh11, qh11, hf⟩ := ms_bE hf
        refine d_pi (pc' := 34) Bh6 (hp_runS (As := [va_rf (some bh6), .int a2, .int a3]) (rest := []) C Bh6 (n_X11_wrongInclusion n Γ l α Bh6.2.2.1 (some bh6) (fun b h => by cases h; exact (cw_k Bh6.2.2 kbh6)) a2 a3 rh11 qh11) lb_X11_wrongInclusion ls_X11_wrongInclusion lk_X11_264 rfl (by decide) rfl hl.1 rfl (Nat.le_of_ble_eq_true rfl) dX11_weak_31 ⟨Nat.zero_le _, Nat.zero_le _⟩) rfl (fun Hh11 Lh11 Bh11 => ?_)
        refine lv_istore (lv' := [(6, .int rh11), (5, .ref bh6), (0, .ref a0), (1, .int a1), (2, .int a2), (3, .int a3), (4, .int a4)]) hx hb dX11_weak_34 hl (by decide) rfl (fun ls hl => hp_n (n := 36) rfl ?_)
        refine lv_iload hx hb dX11_weak_36 (lv_at hl 0 rfl) (hp_n (n := 38) rfl ?_)
        have J46 : ∀ (αh12 : hp_T) (Hh12 : Heap) (Lh12 : List Loc) (Bh12 : hp_B Γ (cw w_X11_weak_S) s α αh12 Hh12 Lh12) (v6_h12 : Int32) (ls : Array Slot) (hl : lv_has ls 8 [(0, .ref a0), (6, .int v6_h12)]) (hf : f_X11_weak_P_J46 n a0 αh12 v6_h12 = some res), W p l e (hp_rm 72 9 131316) s m ([.ref a0, .int a1, .int a2, .int a3, .int a4] : List Value).toArray below meth c Hh12 Lh12 0 0 (MQ below (va_Qi (fun r β => cg w_X11_weak_S α β ∧ V r β) (hp_Bz Γ Hs a0) (hp_A Γ)) ([.ref a0, .int a1, .int a2, .int a3, .int a4] : List Value).toArray s 9 131316 (hp_A Γ)) (F0 m 46 ls []) := by
          intro αh12 Hh12 Lh12 Bh12 v6_h12 ls hl hf
          unfold f_X11_weak_P_J46 at hf
          refine lv_aload_n hx hb dX11_weak_46 rfl (lv_at hl 0 rfl) (hp_n (n := 47) rfl ?_)
          refine lv_iload hx hb dX11_weak_47 (lv_at hl 1 rfl) (hp_n (n := 49) rfl ?_)
          obtain ⟨rh13, αh13, qh13, hf⟩ := hq_cE hf
          refine d_ci (pc' := 52) Bh12 (hp_runV (As := [.int v6_h12]) (rest := []) C Bh12 (n_X11_refuse n Γ l αh12 Bh12.2.2.1 a0 (cw_k Bh12.2.2 k0) v6_h12 (rh13, αh13) qh13) lb_X11_refuse lv_X11_refuse lk_X11_98 (cw_k Bh12.2.2 k0) rfl (by decide) rfl hl.1 rfl (Nat.le_of_ble_eq_true rfl) dX11_weak_49 ⟨Nat.zero_le _, Nat.zero_le _⟩) (by decide) rfl (fun Hh13 Lh13 Bh13 => ?_)
          cases hf
          exact q_iretZ C Bh13 hr hlk hHs ⟨cg_cw Bh13.2.2, hE rfl⟩ dX11_weak_52
        refine lv_if_ne (tgt := 46) hx hb dX11_weak_38 (by decide) (fun c14 => ?_) (fun c14 => hp_n (n := 41) rfl ?_)
        ·
          replace hf := ms_iF c14 hf
          exact J46 α Hh11 Lh11 Bh11 rh11 ls (lv_sub hl [2, 0] rfl) hf
        ·
          replace hf := ms_iT c14 hf
          refine lv_aload hx hb dX11_weak_41 (lv_at hl 1 rfl) (hp_n (n := 43) rfl ?_)
          refine lv_ifnonnull (tgt := 53) hx hb dX11_weak_43 (by decide) ?_
          refine lv_aload_n hx hb dX11_weak_53 rfl (lv_at hl 2 rfl) (hp_n (n := 54) rfl ?_)
          refine q_getr (κ := 12) (k := 12) (φ := 612) (pc' := 57) C Bh11 (cw_k Bh11.2.2 k0) fl_X11_62 rfl rfl rfl (cw_r Bh11.2.2 k0 rfl rfl (by decide) (by decide)) dX11_weak_54 rfl (fun b15 eb15 kb15 => ?_)
          replace hf := ms_lE eb15 hf
          refine lv_iload_n hx hb dX11_weak_57 rfl (lv_at hl 4 rfl) (hp_n (n := 58) rfl ?_)
          refine lv_iload_n hx hb dX11_weak_58 rfl (lv_at hl 5 rfl) (hp_n (n := 59) rfl ?_)
          obtain ⟨αh16, qh16, hf⟩ := ms_bE hf
          refine d_cv (pc' := 62) Bh11 (hp_runV (As := [.int a2, .int a3]) (rest := []) C Bh11 (n_X8_toThing n Γ l α Bh11.2.2.1 b15 (cw_k Bh11.2.2 kb15) a2 a3 αh16 qh16) lb_X8_toThing lv_X8_toThing lk_X11_267 (cw_k Bh11.2.2 kb15) rfl (by decide) rfl hl.1 rfl (Nat.le_of_ble_eq_true rfl) dX11_weak_59 ⟨Nat.zero_le _, Nat.zero_le _⟩) (by decide) rfl (fun Hh16 Lh16 Bh16 => ?_)
          refine lv_aload_n hx hb dX11_weak_62 rfl (lv_at hl 2 rfl) (hp_n (n := 63) rfl ?_)
          refine q_getr (κ := 12) (k := 1) (φ := 601) (pc' := 66) C Bh16 (cw_k Bh16.2.2 k0) fl_X11_16 rfl rfl rfl (cw_r Bh16.2.2 k0 rfl rfl (by decide) (by decide)) dX11_weak_63 rfl (fun b17 eb17 kb17 => ?_)
          replace hf := ms_lE eb17 hf
          refine lv_aload_n hx hb dX11_weak_66 rfl (lv_at hl 2 rfl) (hp_n (n := 67) rfl ?_)
          refine q_getr (κ := 12) (k := 12) (φ := 612) (pc' := 70) C Bh16 (cw_k Bh16.2.2 k0) fl_X11_62 rfl rfl rfl (cw_r Bh16.2.2 k0 rfl rfl (by decide) (by decide)) dX11_weak_67 rfl (fun b18 eb18 kb18 => ?_)
          replace hf := ms_lE eb18 hf
          refine lv_aload hx hb dX11_weak_70 (lv_at hl 1 rfl) (hp_n (n := 72) rfl ?_)
          refine lv_aload_n hx hb dX11_weak_72 rfl (lv_at hl 2 rfl) (hp_n (n := 73) rfl ?_)
          refine q_getr (κ := 12) (k := 14) (φ := 614) (pc' := 76) C Bh16 (cw_k Bh16.2.2 k0) fl_X11_69 rfl rfl rfl (cw_r Bh16.2.2 k0 rfl rfl (by decide) (by decide)) dX11_weak_73 rfl (fun b19 eb19 kb19 => ?_)
          replace hf := ms_lE eb19 hf
          obtain ⟨αh20, qh20, hf⟩ := ms_bE hf
          refine d_cv (pc' := 79) Bh16 (hp_runV (As := [.ref b18, va_rf (some bh6), .ref b19]) (rest := []) C Bh16 (n_X10_marksAlong n Γ l αh16 Bh16.2.2.1 b17 (cw_k Bh16.2.2 kb17) b18 (cw_k Bh16.2.2 kb18) (some bh6) (fun b h => by cases h; exact (cw_k Bh16.2.2 kbh6)) b19 (cw_k Bh16.2.2 kb19) αh20 qh20) lb_X10_marksAlong lv_X10_marksAlong lk_X11_270 (cw_k Bh16.2.2 kb17) rfl (by decide) rfl hl.1 rfl (Nat.le_of_ble_eq_true rfl) dX11_weak_76 ⟨Nat.zero_le _, Nat.zero_le _⟩) (by decide) rfl (fun Hh20 Lh20 Bh20 => ?_)
          refine lv_aload_n hx hb dX11_weak_79 rfl (lv_at hl 2 rfl) (hp_n (n := 80) rfl ?_)
          cases hf
          have kaN := (cw_k Bh20.2.2 k0)
          have BN : hp_B Γ (fun _ _ => True) s α αh20 Hh20 Lh20 := ⟨Bh20.1, Bh20.2.1, trivial⟩
          refine q_cq (pc' := 83) BN (hp_runV (As := []) (rest := []) C BN (t_X11_preparedRoots_N2 Γ l αh20 Bh20.2.2.1 a0 kaN (by rw [Bh20.2.2.2.2.1]; exact hN) mm M hm hM hM2 (hmα _ rfl)) lb_X11_preparedRoots lv_X11_preparedRoots lk_X11_363 kaN rfl (by decide) rfl hl.1 rfl (Nat.le_of_ble_eq_true rfl) dX11_weak_80 ⟨Nat.le_refl _, Nat.le_refl _⟩) (fun _ _ _ => trivial) rfl (fun rN αN HN LN pN BM => ?_)
          obtain ⟨b0, rfl, cN, kN, nN, tN, iN⟩ := pN
          obtain ⟨t, hf, hV⟩ := hT rfl αN b0 ⟨cN, kN, nN⟩ tN iN
          have ckN : ∀ b, hp_K α b ≠ 0 → hp_K αN b = hp_K α b := fun b hb => by rw [cN.2.1 b (by rw [Bh20.2.2.2.1]; exact hb), Bh20.2.2.2.1]
          exact un_X11_weak n Γ l αN cN.1 a0 ((ckN _ (by rw [k0]; decide)).trans k0) a2 a3 a4 bh6 ((ckN _ (by rw [kbh6]; decide)).trans kbh6) b0 kN t hf C hr hlk HN LN ⟨BM.1, BM.2.1, cw_rf cN.1⟩ _ _ (fun hw => ⟨cg_tr (cg_tr (cg_cw Bh20.2.2) cN (by decide)) (cg_cw hw) (by decide), hV⟩) (fun t2 hw hR => ⟨hR, fun hn => by rw [hw.2.2.1, nN] at hn; cases hn⟩) ls (lv_sub hl [2, 4, 5, 6, 1] rfl)
    ·
      replace hf := ms_iF c4 hf
      exact J11 α s.heap [] B ls (lv_sub hl [0] rfl) hf
set_option maxRecDepth 100000 in
set_option maxHeartbeats 4000000 in
theorem n_X11_weak_S (n : Nat) (Γ : hp_G) (l : Launch) (α : hp_T) (g : GC α) (a0 : Nat) (k0 : hp_K α a0 = 12) (a1 : Int32) (a2 : Int32) (a3 : Int32) (a4 : Int32) (b0 : Nat) (hN : hp_N α 618 a0 = some b0) (mm : Int32) (M : Nat) (hm : mm.toInt = (M : Int)) (hM : 101 ≤ M) (hM2 : M ≤ 65521) (V : Int32 → hp_T → Prop) (res : Option Nat × Int32 × hp_T) (hf : f_X11_weak_P n α a0 a1 a2 a3 a4 = some res) (hE : res.1 = none → V res.2.1 res.2.2) (hmα : ∀ β, β = res.2.2 → hp_I β 550 (hp_R β 601 a0) = mm) (hTB : ∀ β, β = res.2.2 → hp_I β 252 b0 = mm → TB β b0 M) (hT : ∀ {lg : Nat}, res.1 = some lg → ∀ γ b1, (cg w_X4_prepare res.2.2 γ ∧ hp_K γ b1 = 5 ∧ hp_N γ 618 a0 = some b1) → TB γ b1 M → hp_I γ 252 b1 = mm → ∃ t : Int32 × hp_T, f_X11_weak_T n γ a0 a2 a3 a4 lg b1 = some t ∧ V t.1 t.2) : Met l yX11_weak (hp_ws yX11_weak cX11_weak 8 (some .int)) (hp_rm 72 0 0) (hp_Pc Γ α [.ref a0, .int a1, .int a2, .int a3, .int a4]) (hp_Qi Γ (fun r β => cw w_X11_weak_S α β ∧ V r β)) 0 0 (hp_A Γ) := by
  unfold f_X11_weak_P at hf
  refine hp_start (by decide) ?_
  intro p e s m below meth c C hr hlk B0 hnm
  have C : hp_C Γ p m c cX11_weak 8 s ([.ref a0, .int a1, .int a2, .int a3, .int a4] : List Value).toArray RX11 := C
  have hx := C.1.1
  have hb := C.1.2.1
  have hown := C.1.2.2.2.1
  have hts := C.1.2.2.2.2
  have B : hp_B Γ (cw w_X11_weak_S) s α α s.heap [] := ⟨B0.1, B0.2.1, cw_rf g⟩
  have kb0 : hp_K α b0 = 5 := g.2.2.1 a0 b0 k0 hN
  have hl := lv_entry ([.ref a0, .int a1, .int a2, .int a3, .int a4]) (n := 8) (Nat.le_of_ble_eq_true rfl)
  show W p l e (hp_rm 72 0 0) s m ([.ref a0, .int a1, .int a2, .int a3, .int a4] : List Value).toArray below meth c s.heap [] 0 0 (MQ below (hp_Qi Γ (fun r β => cw w_X11_weak_S α β ∧ V r β)) ([.ref a0, .int a1, .int a2, .int a3, .int a4] : List Value).toArray s 0 0 (hp_A Γ)) (entryFrame m ([.ref a0, .int a1, .int a2, .int a3, .int a4] : List Value).toArray 8)
  rw [lg_entry_eq]
  generalize (lg_sl ([.ref a0, .int a1, .int a2, .int a3, .int a4]) ++ List.replicate (8 - (lg_sl ([.ref a0, .int a1, .int a2, .int a3, .int a4])).length) Slot.unset).toArray = ls at hl ⊢
  have hl : lv_has ls 8 [(0, .ref a0), (1, .int a1), (2, .int a2), (3, .int a3), (4, .int a4)] := hl
  refine lv_iload hx hb dX11_weak_0 (lv_at hl 4 rfl) (hp_n (n := 2) rfl ?_)
  have J11 : ∀ (αh1 : hp_T) (Hh1 : Heap) (Lh1 : List Loc) (Bh1 : hp_B Γ (cw w_X11_weak_S) s α αh1 Hh1 Lh1) (ls : Array Slot) (hl : lv_has ls 8 [(0, .ref a0)]) (hf : f_X11_weak_P_J11 n a0 αh1 = some res), W p l e (hp_rm 72 0 0) s m ([.ref a0, .int a1, .int a2, .int a3, .int a4] : List Value).toArray below meth c Hh1 Lh1 0 0 (MQ below (hp_Qi Γ (fun r β => cw w_X11_weak_S α β ∧ V r β)) ([.ref a0, .int a1, .int a2, .int a3, .int a4] : List Value).toArray s 0 0 (hp_A Γ)) (F0 m 11 ls []) := by
    intro αh1 Hh1 Lh1 Bh1 ls hl hf
    unfold f_X11_weak_P_J11 at hf
    refine lv_aload_n hx hb dX11_weak_11 rfl (lv_at hl 0 rfl) (hp_n (n := 12) rfl ?_)
    refine lv_iconst (v := 1) hx hb dX11_weak_12 (by decide) (hp_n (n := 13) rfl ?_)
    obtain ⟨rh2, αh2, qh2, hf⟩ := hq_cE hf
    refine d_ci (pc' := 16) Bh1 (hp_runV (As := [.int (1 : Int32)]) (rest := []) C Bh1 (n_X11_refuse n Γ l αh1 Bh1.2.2.1 a0 (cw_k Bh1.2.2 k0) (1 : Int32) (rh2, αh2) qh2) lb_X11_refuse lv_X11_refuse lk_X11_98 (cw_k Bh1.2.2 k0) rfl (by decide) rfl hl.1 rfl (Nat.le_of_ble_eq_true rfl) dX11_weak_13 ⟨Nat.le_refl _, Nat.le_refl _⟩) (by decide) rfl (fun Hh2 Lh2 Bh2 => ?_)
    cases hf
    exact q_iret C Bh2 hr hlk ⟨Bh2.2.2, hE rfl⟩ dX11_weak_16
  refine lv_if_lt (tgt := 11) hx hb dX11_weak_2 (by decide) (fun c3 => ?_) (fun c3 => hp_n (n := 5) rfl ?_)
  ·
    replace hf := ms_iT c3 hf
    exact J11 α s.heap [] B ls (lv_sub hl [0] rfl) hf
  ·
    replace hf := ms_iF c3 hf
    refine lv_iload hx hb dX11_weak_5 (lv_at hl 4 rfl) (hp_n (n := 7) rfl ?_)
    refine lv_iconst (v := 1) hx hb dX11_weak_7 (by decide) (hp_n (n := 8) rfl ?_)
    refine lv_icmp_le (tgt := 17) hx hb dX11_weak_8 (by decide) (fun c4 => ?_) (fun c4 => hp_n (n := 11) rfl ?_)
    ·
      replace hf := ms_iT c4 hf
      refine lv_aload_n hx hb dX11_weak_17 rfl (lv_at hl 0 rfl) (hp_n (n := 18) rfl ?_)
      refine q_getr (κ := 12) (k := 1) (φ := 601) (pc' := 21) C B (cw_k B.2.2 k0) fl_X11_16 rfl rfl rfl (cw_r B.2.2 k0 rfl rfl (by decide) (by decide)) dX11_weak_18 rfl (fun b5 eb5 kb5 => ?_)
      replace hf := ms_lE eb5 hf
      refine lv_iload_n hx hb dX11_weak_21 rfl (lv_at hl 1 rfl) (hp_n (n := 22) rfl ?_)
      obtain ⟨rh6, qh6, hf⟩ := ms_bE hf
      refine d_pq (pc' := 25) B (hp_runV (As := [.int a1]) (rest := []) C B (n_X10_logAt n Γ l α B.2.2.1 b5 (cw_k B.2.2 kb5) a1 rh6 qh6) lb_X10_logAt lv_X10_logAt lk_X11_163 (cw_k B.2.2 kb5) rfl (by decide) rfl hl.1 rfl (Nat.le_of_ble_eq_true rfl) dX11_weak_22 ⟨Nat.le_refl _, Nat.le_refl _⟩) rfl (fun Hh6 Lh6 Bh6 kh6 => ?_)
      rcases rh6 with _ | bh6
      ·
        replace hf := hq_N hf
        refine lv_astoreN (lv' := [(5, .null), (0, .ref a0), (1, .int a1), (2, .int a2), (3, .int a3), (4, .int a4)]) hx hb dX11_weak_25 hl (by decide) rfl (fun ls hl => hp_n (n := 27) rfl ?_)
        refine lv_aloadN hx hb dX11_weak_27 (lv_at hl 0 rfl) (hp_n (n := 29) rfl ?_)
        refine lv_iload_n hx hb dX11_weak_29 rfl (lv_at hl 3 rfl) (hp_n (n := 30) rfl ?_)
        refine lv_iload_n hx hb dX11_weak_30 rfl (lv_at hl 4 rfl) (hp_n (n := 31) rfl ?_)
        obtain ⟨rh7, qh7, hf⟩ := ms_bE hf
        refine d_pi (pc' := 34) Bh6 (hp_runS (As := [va_rf none, .int a2, .int a3]) (rest := []) C Bh6 (n_X11_wrongInclusion n Γ l α Bh6.2.2.1 none (fun b h => by cases h) a2 a3 rh7 qh7) lb_X11_wrongInclusion ls_X11_wrongInclusion lk_X11_264 rfl (by decide) rfl hl.1 rfl (Nat.le_of_ble_eq_true rfl) dX11_weak_31 ⟨Nat.le_refl _, Nat.le_refl _⟩) rfl (fun Hh7 Lh7 Bh7 => ?_)
        refine lv_istore (lv' := [(6, .int rh7), (5, .null), (0, .ref a0), (1, .int a1), (2, .int a2), (3, .int a3), (4, .int a4)]) hx hb dX11_weak_34 hl (by decide) rfl (fun ls hl => hp_n (n := 36) rfl ?_)
        refine lv_iload hx hb dX11_weak_36 (lv_at hl 0 rfl) (hp_n (n := 38) rfl ?_)
        have J46 : ∀ (αh8 : hp_T) (Hh8 : Heap) (Lh8 : List Loc) (Bh8 : hp_B Γ (cw w_X11_weak_S) s α αh8 Hh8 Lh8) (v6_h8 : Int32) (ls : Array Slot) (hl : lv_has ls 8 [(0, .ref a0), (6, .int v6_h8)]) (hf : f_X11_weak_P_J46 n a0 αh8 v6_h8 = some res), W p l e (hp_rm 72 0 0) s m ([.ref a0, .int a1, .int a2, .int a3, .int a4] : List Value).toArray below meth c Hh8 Lh8 0 0 (MQ below (hp_Qi Γ (fun r β => cw w_X11_weak_S α β ∧ V r β)) ([.ref a0, .int a1, .int a2, .int a3, .int a4] : List Value).toArray s 0 0 (hp_A Γ)) (F0 m 46 ls []) := by
          intro αh8 Hh8 Lh8 Bh8 v6_h8 ls hl hf
          unfold f_X11_weak_P_J46 at hf
          refine lv_aload_n hx hb dX11_weak_46 rfl (lv_at hl 0 rfl) (hp_n (n := 47) rfl ?_)
          refine lv_iload hx hb dX11_weak_47 (lv_at hl 1 rfl) (hp_n (n := 49) rfl ?_)
          obtain ⟨rh9, αh9, qh9, hf⟩ := hq_cE hf
          refine d_ci (pc' := 52) Bh8 (hp_runV (As := [.int v6_h8]) (rest := []) C Bh8 (n_X11_refuse n Γ l αh8 Bh8.2.2.1 a0 (cw_k Bh8.2.2 k0) v6_h8 (rh9, αh9) qh9) lb_X11_refuse lv_X11_refuse lk_X11_98 (cw_k Bh8.2.2 k0) rfl (by decide) rfl hl.1 rfl (Nat.le_of_ble_eq_true rfl) dX11_weak_49 ⟨Nat.le_refl _, Nat.le_refl _⟩) (by decide) rfl (fun Hh9 Lh9 Bh9 => ?_)
          cases hf
          exact q_iret C Bh9 hr hlk ⟨Bh9.2.2, hE rfl⟩ dX11_weak_52
        refine lv_if_ne (tgt := 46) hx hb dX11_weak_38 (by decide) (fun c10 => ?_) (fun c10 => hp_n (n := 41) rfl ?_)
        ·
          replace hf := ms_iF c10 hf
          exact J46 α Hh7 Lh7 Bh7 rh7 ls (lv_sub hl [2, 0] rfl) hf
        ·
          replace hf := ms_iT c10 hf
          refine lv_aloadN hx hb dX11_weak_41 (lv_at hl 1 rfl) (hp_n (n := 43) rfl ?_)
          refine lv_ifnonnullN hx hb dX11_weak_43 (hp_n (n := 46) rfl ?_)
          exact J46 α Hh7 Lh7 Bh7 rh7 ls (lv_sub hl [2, 0] rfl) hf
      ·
        replace hf := hq_S hf
        have kbh6 := kh6 bh6 rfl
        refine lv_astore (lv' := [(5, .ref bh6), (0, .ref a0), (1, .int a1), (2, .int a2), (3, .int a3), (4, .int a4)]) hx hb dX11_weak_25 hl (by decide) rfl (fun ls hl => hp_n (n := 27) rfl ?_)
        refine lv_aload hx hb dX11_weak_27 (lv_at hl 0 rfl) (hp_n (n := 29) rfl ?_)
        refine lv_iload_n hx hb dX11_weak_29 rfl (lv_at hl 3 rfl) (hp_n (n := 30) rfl ?_)
        refine lv_iload_n hx hb dX11_weak_30 rfl (lv_at hl 4 rfl) (hp_n (n := 31) rfl ?_)
        obtain ⟨rh11, qh11, hf⟩ := ms_bE hf
        refine d_pi (pc' := 34) Bh6 (hp_runS (As := [va_rf (some bh6), .int a2, .int a3]) (rest := []) C Bh6 (n_X11_wrongInclusion n Γ l α Bh6.2.2.1 (some bh6) (fun b h => by cases h; exact (cw_k Bh6.2.2 kbh6)) a2 a3 rh11 qh11) lb_X11_wrongInclusion ls_X11_wrongInclusion lk_X11_264 rfl (by decide) rfl hl.1 rfl (Nat.le_of_ble_eq_true rfl) dX11_weak_31 ⟨Nat.le_refl _, Nat.le_refl _⟩) rfl (fun Hh11 Lh11 Bh11 => ?_)
        refine lv_istore (lv' := [(6, .int rh11), (5, .ref bh6), (0, .ref a0), (1, .int a1), (2, .int a2), (3, .int a3), (4, .int a4)]) hx hb dX11_weak_34 hl (by decide) rfl (fun ls hl => hp_n (n := 36) rfl ?_)
        refine lv_iload hx hb dX11_weak_36 (lv_at hl 0 rfl) (hp_n (n := 38) rfl ?_)
        have J46 : ∀ (αh12 : hp_T) (Hh12 : Heap) (Lh12 : List Loc) (Bh12 : hp_B Γ (cw w_X11_weak_S) s α αh12 Hh12 Lh12) (v6_h12 : Int32) (ls : Array Slot) (hl : lv_has ls 8 [(0, .ref a0), (6, .int v6_h12)]) (hf : f_X11_weak_P_J46 n a0 αh12 v6_h12 = some res), W p l e (hp_rm 72 0 0) s m ([.ref a0, .int a1, .int a2, .int a3, .int a4] : List Value).toArray below meth c Hh12 Lh12 0 0 (MQ below (hp_Qi Γ (fun r β => cw w_X11_weak_S α β ∧ V r β)) ([.ref a0, .int a1, .int a2, .int a3, .int a4] : List Value).toArray s 0 0 (hp_A Γ)) (F0 m 46 ls []) := by
          intro αh12 Hh12 Lh12 Bh12 v6_h12 ls hl hf
          unfold f_X11_weak_P_J46 at hf
          refine lv_aload_n hx hb dX11_weak_46 rfl (lv_at hl 0 rfl) (hp_n (n := 47) rfl ?_)
          refine lv_iload hx hb dX11_weak_47 (lv_at hl 1 rfl) (hp_n (n := 49) rfl ?_)
          obtain ⟨rh13, αh13, qh13, hf⟩ := hq_cE hf
          refine d_ci (pc' := 52) Bh12 (hp_runV (As := [.int v6_h12]) (rest := []) C Bh12 (n_X11_refuse n Γ l αh12 Bh12.2.2.1 a0 (cw_k Bh12.2.2 k0) v6_h12 (rh13, αh13) qh13) lb_X11_refuse lv_X11_refuse lk_X11_98 (cw_k Bh12.2.2 k0) rfl (by decide) rfl hl.1 rfl (Nat.le_of_ble_eq_true rfl) dX11_weak_49 ⟨Nat.le_refl _, Nat.le_refl _⟩) (by decide) rfl (fun Hh13 Lh13 Bh13 => ?_)
          cases hf
          exact q_iret C Bh13 hr hlk ⟨Bh13.2.2, hE rfl⟩ dX11_weak_52
        refine lv_if_ne (tgt := 46) hx hb dX11_weak_38 (by decide) (fun c14 => ?_) (fun c14 => hp_n (n := 41) rfl ?_)
        ·
          replace hf := ms_iF c14 hf
          exact J46 α Hh11 Lh11 Bh11 rh11 ls (lv_sub hl [2, 0] rfl) hf
        ·
          replace hf := ms_iT c14 hf
          refine lv_aload hx hb dX11_weak_41 (lv_at hl 1 rfl) (hp_n (n := 43) rfl ?_)
          refine lv_ifnonnull (tgt := 53) hx hb dX11_weak_43 (by decide) ?_
          refine lv_aload_n hx hb dX11_weak_53 rfl (lv_at hl 2 rfl) (hp_n (n := 54) rfl ?_)
          refine q_getr (κ := 12) (k := 12) (φ := 612) (pc' := 57) C Bh11 (cw_k Bh11.2.2 k0) fl_X11_62 rfl rfl rfl (cw_r Bh11.2.2 k0 rfl rfl (by decide) (by decide)) dX11_weak_54 rfl (fun b15 eb15 kb15 => ?_)
          replace hf := ms_lE eb15 hf
          refine lv_iload_n hx hb dX11_weak_57 rfl (lv_at hl 4 rfl) (hp_n (n := 58) rfl ?_)
          refine lv_iload_n hx hb dX11_weak_58 rfl (lv_at hl 5 rfl) (hp_n (n := 59) rfl ?_)
          obtain ⟨αh16, qh16, hf⟩ := ms_bE hf
          refine d_cv (pc' := 62) Bh11 (hp_runV (As := [.int a2, .int a3]) (rest := []) C Bh11 (n_X8_toThing n Γ l α Bh11.2.2.1 b15 (cw_k Bh11.2.2 kb15) a2 a3 αh16 qh16) lb_X8_toThing lv_X8_toThing lk_X11_267 (cw_k Bh11.2.2 kb15) rfl (by decide) rfl hl.1 rfl (Nat.le_of_ble_eq_true rfl) dX11_weak_59 ⟨Nat.le_refl _, Nat.le_refl _⟩) (by decide) rfl (fun Hh16 Lh16 Bh16 => ?_)
          refine lv_aload_n hx hb dX11_weak_62 rfl (lv_at hl 2 rfl) (hp_n (n := 63) rfl ?_)
          refine q_getr (κ := 12) (k := 1) (φ := 601) (pc' := 66) C Bh16 (cw_k Bh16.2.2 k0) fl_X11_16 rfl rfl rfl (cw_r Bh16.2.2 k0 rfl rfl (by decide) (by decide)) dX11_weak_63 rfl (fun b17 eb17 kb17 => ?_)
          replace hf := ms_lE eb17 hf
          refine lv_aload_n hx hb dX11_weak_66 rfl (lv_at hl 2 rfl) (hp_n (n := 67) rfl ?_)
          refine q_getr (κ := 12) (k := 12) (φ := 612) (pc' := 70) C Bh16 (cw_k Bh16.2.2 k0) fl_X11_62 rfl rfl rfl (cw_r Bh16.2.2 k0 rfl rfl (by decide) (by decide)) dX11_weak_67 rfl (fun b18 eb18 kb18 => ?_)
          replace hf := ms_lE eb18 hf
          refine lv_aload hx hb dX11_weak_70 (lv_at hl 1 rfl) (hp_n (n := 72) rfl ?_)
          refine lv_aload_n hx hb dX11_weak_72 rfl (lv_at hl 2 rfl) (hp_n (n := 73) rfl ?_)
          refine q_getr (κ := 12) (k := 14) (φ := 614) (pc' := 76) C Bh16 (cw_k Bh16.2.2 k0) fl_X11_69 rfl rfl rfl (cw_r Bh16.2.2 k0 rfl rfl (by decide) (by decide)) dX11_weak_73 rfl (fun b19 eb19 kb19 => ?_)
          replace hf := ms_lE eb19 hf
          obtain ⟨αh20, qh20, hf⟩ := ms_bE hf
          refine d_cv (pc' := 79) Bh16 (hp_runV (As := [.ref b18, va_rf (some bh6), .ref b19]) (rest := []) C Bh16 (n_X10_marksAlong n Γ l αh16 Bh16.2.2.1 b17 (cw_k Bh16.2.2 kb17) b18 (cw_k Bh16.2.2 kb18) (some bh6) (fun b h => by cases h; exact (cw_k Bh16.2.2 kbh6)) b19 (cw_k Bh16.2.2 kb19) αh20 qh20) lb_X10_marksAlong lv_X10_marksAlong lk_X11_270 (cw_k Bh16.2.2 kb17) rfl (by decide) rfl hl.1 rfl (Nat.le_of_ble_eq_true rfl) dX11_weak_76 ⟨Nat.le_refl _, Nat.le_refl _⟩) (by decide) rfl (fun Hh20 Lh20 Bh20 => ?_)
          refine lv_aload_n hx hb dX11_weak_79 rfl (lv_at hl 2 rfl) (hp_n (n := 80) rfl ?_)
          cases hf
          have kaN := (cw_k Bh20.2.2 k0)
          refine q_cq (pc' := 83) Bh20 (hp_runV (As := []) (rest := []) C Bh20 (t_X11_preparedRoots_S2 Γ l αh20 Bh20.2.2.1 a0 kaN b0 (by rw [Bh20.2.2.2.2.1]; exact hN) mm M hm hM hM2 (hmα _ rfl) (hTB _ rfl)) lb_X11_preparedRoots lv_X11_preparedRoots lk_X11_363 kaN rfl (by decide) rfl hl.1 rfl (Nat.le_of_ble_eq_true rfl) dX11_weak_80 ⟨Nat.le_refl _, Nat.le_refl _⟩) (fun _ _ h => cw_tr Bh20.2.2 h.1.1 (by decide)) rfl (fun rN αN HN LN pN BM => ?_)
          obtain ⟨⟨cS, rfl⟩, tN, iN⟩ := pN
          have kN : hp_K αN b0 = 5 := cw_k BM.2.2 kb0
          have nN : hp_N αN 618 a0 = some b0 := by rw [BM.2.2.2.2.1]; exact hN
          have cN : cg w_X4_prepare αh20 αN := cg_cw cS
          obtain ⟨t, hf, hV⟩ := hT rfl αN b0 ⟨cN, kN, nN⟩ tN iN
          have ckN : ∀ b, hp_K α b ≠ 0 → hp_K αN b = hp_K α b := fun b hb => by rw [BM.2.2.2.1]
          exact un_X11_weakS n Γ l αN BM.2.2.1 a0 ((ckN _ (by rw [k0]; decide)).trans k0) a2 a3 a4 bh6 ((ckN _ (by rw [kbh6]; decide)).trans kbh6) b0 kN t hf C hr hlk HN LN ⟨BM.1, BM.2.1, cw_rf BM.2.2.1⟩ _ (fun hw => ⟨cw_tr BM.2.2 hw (by decide), hV⟩) ls (lv_sub hl [2, 4, 5, 6, 1] rfl)
    ·
      replace hf := ms_iF c4 hf
      exact J11 α s.heap [] B ls (lv_sub hl [0] rfl) hf
def f_X11_forge_T (n : Nat) (α : hp_T) (a0 : Nat) (a1 : Int32) (a4 : Int32) (a5 : Int32) (b0 : Nat) : Option (Int32 × hp_T) :=
  ms_l (hp_R α 612 a0) fun b1 =>
  ms_l (hp_R α 603 a0) fun b2 =>
  ms_l (hp_R α 612 a0) fun b3 =>
  ms_l (hp_R α 601 a0) fun b4 =>
  ms_l (hp_I α 550 b4) fun x5 =>
  ms_l (hp_R α 603 a0) fun b6 =>
  ms_b (f_X8_folded n α b3 x5 b6 a1 a5) fun rh7 =>
  ms_b (f_X4_seekStep n α b0 b1 b2 rh7 a4 a5) fun αh8 =>
  ms_l (hp_I αh8 259 b0) fun x9 =>
  if x9 = 0 then
    hq_c (f_X11_refuse n αh8 a0 (5 : Int32)) fun rh13 αh13 =>
    some (rh13, αh13)
  else
    ms_l (hp_I αh8 260 b0) fun x11 =>
    hq_c (f_X11_answer n αh8 a0 x11) fun rh12 αh12 =>
    some (rh12, αh12)
set_option maxRecDepth 100000 in
set_option maxHeartbeats 4000000 in
theorem un_X11_forge (n : Nat) (Γ : hp_G) (l : Launch) (α : hp_T) (g : GC α) (a0 : Nat) (k0 : hp_K α a0 = 12) (a1 : Int32) (a4 : Int32) (a5 : Int32) (b0 : Nat) (kb0 : hp_K α b0 = 5) (res : Int32 × hp_T) (hf : f_X11_forge_T n α a0 a1 a4 a5 b0 = some res) {p : Program} {e : Env} {s : State} {m : MethodId} {below : List Frame} {meth : Method} {c : Code} {args0 : Array Value} (C : hp_C Γ p m c cX11_forge 7 s args0 RX11) (hr : meth.sig.returnType = (some .int)) (hlk : meth.locks = false) (H0 : Heap) (L0 : List Loc) (B : hp_B Γ (cw w_X11_forge_S) s α α H0 L0) (Pst : Int32 → hp_T → Prop) (Bq : hp_T → State → Prop) (hP : cw w_X11_forge_S α res.2 → Pst res.1 res.2) (hq : ∀ (t : State), cw w_X11_forge_S α res.2 → hp_Rep Γ res.2 t.heap → Bq res.2 t) (ls : Array Slot) (hl : lv_has ls 7 [(0, .ref a0), (1, .int a1), (4, .int a4), (5, .int a5)]) : W p l e (hp_rm 72 9 131316) s m args0 below meth c H0 L0 9 131316 (MQ below (va_Qi Pst Bq (hp_A Γ)) args0 s 9 131316 (hp_A Γ)) (F0 m 84 ls [.ref b0]) := by
  have hx := C.1.1
  have hb := C.1.2.1
  have hown := C.1.2.2.2.1
  have hts := C.1.2.2.2.2
  unfold f_X11_forge_T at hf
  refine lv_astore (lv' := [(6, .ref b0), (0, .ref a0), (1, .int a1), (4, .int a4), (5, .int a5)]) hx hb dX11_forge_84 hl (by decide) rfl (fun ls hl => hp_n (n := 86) rfl ?_)
  refine lv_aload hx hb dX11_forge_86 (lv_at hl 0 rfl) (hp_n (n := 88) rfl ?_)
  refine lv_aload_n hx hb dX11_forge_88 rfl (lv_at hl 1 rfl) (hp_n (n := 89) rfl ?_)
  refine q_getr (κ := 12) (k := 12) (φ := 612) (pc' := 92) C B (cw_k B.2.2 k0) fl_X11_62 rfl rfl rfl (cw_r B.2.2 k0 rfl rfl (by decide) (by decide)) dX11_forge_89 rfl (fun b1 eb1 kb1 => ?_)
  replace hf := ms_lE eb1 hf
  refine lv_aload_n hx hb dX11_forge_92 rfl (lv_at hl 1 rfl) (hp_n (n := 93) rfl ?_)
  refine q_getr (κ := 12) (k := 3) (φ := 603) (pc' := 96) C B (cw_k B.2.2 k0) fl_X11_26 rfl rfl rfl (cw_r B.2.2 k0 rfl rfl (by decide) (by decide)) dX11_forge_93 rfl (fun b2 eb2 kb2 => ?_)
  replace hf := ms_lE eb2 hf
  refine lv_aload_n hx hb dX11_forge_96 rfl (lv_at hl 1 rfl) (hp_n (n := 97) rfl ?_)
  refine q_getr (κ := 12) (k := 12) (φ := 612) (pc' := 100) C B (cw_k B.2.2 k0) fl_X11_62 rfl rfl rfl (cw_r B.2.2 k0 rfl rfl (by decide) (by decide)) dX11_forge_97 rfl (fun b3 eb3 kb3 => ?_)
  replace hf := ms_lE eb3 hf
  refine lv_aload_n hx hb dX11_forge_100 rfl (lv_at hl 1 rfl) (hp_n (n := 101) rfl ?_)
  refine q_getr (κ := 12) (k := 1) (φ := 601) (pc' := 104) C B (cw_k B.2.2 k0) fl_X11_16 rfl rfl rfl (cw_r B.2.2 k0 rfl rfl (by decide) (by decide)) dX11_forge_101 rfl (fun b4 eb4 kb4 => ?_)
  replace hf := ms_lE eb4 hf
  refine q_geti (κ := 11) (k := 0) (φ := 550) (pc' := 107) C B (cw_k B.2.2 kb4) fl_X11_122 rfl rfl rfl dX11_forge_104 rfl (fun x5 ex5 => ?_)
  replace hf := ms_lE ex5 hf
  refine lv_aload_n hx hb dX11_forge_107 rfl (lv_at hl 1 rfl) (hp_n (n := 108) rfl ?_)
  refine q_getr (κ := 12) (k := 3) (φ := 603) (pc' := 111) C B (cw_k B.2.2 k0) fl_X11_26 rfl rfl rfl (cw_r B.2.2 k0 rfl rfl (by decide) (by decide)) dX11_forge_108 rfl (fun b6 eb6 kb6 => ?_)
  replace hf := ms_lE eb6 hf
  refine lv_iload_n hx hb dX11_forge_111 rfl (lv_at hl 2 rfl) (hp_n (n := 112) rfl ?_)
  refine lv_iload hx hb dX11_forge_112 (lv_at hl 4 rfl) (hp_n (n := 114) rfl ?_)
  obtain ⟨rh7, qh7, hf⟩ := ms_bE hf
  refine d_pi (pc' := 117) B (hp_runV (As := [.int x5, .ref b6, .int a1, .int a5]) (rest := [.ref b2, .ref b1, .ref b0]) C B (n_X8_folded n Γ l α B.2.2.1 b3 (cw_k B.2.2 kb3) x5 b6 (cw_k B.2.2 kb6) a1 a5 rh7 qh7) lb_X8_folded lv_X8_folded lk_X11_382 (cw_k B.2.2 kb3) rfl (by decide) rfl hl.1 rfl (Nat.le_of_ble_eq_true rfl) dX11_forge_114 ⟨Nat.le_refl _, Nat.le_refl _⟩) rfl (fun Hh7 Lh7 Bh7 => ?_)
  refine lv_iload hx hb dX11_forge_117 (lv_at hl 3 rfl) (hp_n (n := 119) rfl ?_)
  refine lv_iload hx hb dX11_forge_119 (lv_at hl 4 rfl) (hp_n (n := 121) rfl ?_)
  obtain ⟨αh8, qh8, hf⟩ := ms_bE hf
  refine d_cv (pc' := 124) Bh7 (hp_runV (As := [.ref b1, .ref b2, .int rh7, .int a4, .int a5]) (rest := []) C Bh7 (n_X4_seekStep n Γ l α Bh7.2.2.1 b0 (cw_k Bh7.2.2 kb0) b1 (cw_k Bh7.2.2 kb1) b2 (cw_k Bh7.2.2 kb2) rh7 a4 a5 αh8 qh8) lb_X4_seekStep lv_X4_seekStep lk_X11_388 (cw_k Bh7.2.2 kb0) rfl (by decide) rfl hl.1 rfl (Nat.le_of_ble_eq_true rfl) dX11_forge_121 ⟨Nat.le_refl _, Nat.le_refl _⟩) (by decide) rfl (fun Hh8 Lh8 Bh8 => ?_)
  refine lv_aload hx hb dX11_forge_124 (lv_at hl 0 rfl) (hp_n (n := 126) rfl ?_)
  refine q_geti (κ := 5) (k := 9) (φ := 259) (pc' := 129) C Bh8 (cw_k Bh8.2.2 kb0) fl_X11_373 rfl rfl rfl dX11_forge_126 rfl (fun x9 ex9 => ?_)
  replace hf := ms_lE ex9 hf
  refine lv_if_ne (tgt := 140) hx hb dX11_forge_129 (by decide) (fun c10 => ?_) (fun c10 => hp_n (n := 132) rfl ?_)
  ·
    replace hf := ms_iF c10 hf
    refine lv_aload_n hx hb dX11_forge_140 rfl (lv_at hl 1 rfl) (hp_n (n := 141) rfl ?_)
    refine lv_aload hx hb dX11_forge_141 (lv_at hl 0 rfl) (hp_n (n := 143) rfl ?_)
    refine q_geti (κ := 5) (k := 10) (φ := 260) (pc' := 146) C Bh8 (cw_k Bh8.2.2 kb0) fl_X11_376 rfl rfl rfl dX11_forge_143 rfl (fun x11 ex11 => ?_)
    replace hf := ms_lE ex11 hf
    obtain ⟨rh12, αh12, qh12, hf⟩ := hq_cE hf
    refine d_ci (pc' := 149) Bh8 (hp_runV (As := [.int x11]) (rest := []) C Bh8 (n_X11_answer n Γ l αh8 Bh8.2.2.1 a0 (cw_k Bh8.2.2 k0) x11 (rh12, αh12) qh12) lb_X11_answer lv_X11_answer lk_X11_115 (cw_k Bh8.2.2 k0) rfl (by decide) rfl hl.1 rfl (Nat.le_of_ble_eq_true rfl) dX11_forge_146 ⟨Nat.le_refl _, Nat.le_refl _⟩) (by decide) rfl (fun Hh12 Lh12 Bh12 => ?_)
    cases hf
    exact q_iretQ C Bh12 hr hlk (hP Bh12.2.2) (fun t ht => hq t Bh12.2.2 ht) dX11_forge_149
  ·
    replace hf := ms_iT c10 hf
    refine lv_aload_n hx hb dX11_forge_132 rfl (lv_at hl 1 rfl) (hp_n (n := 133) rfl ?_)
    refine lv_iconst (v := 5) hx hb dX11_forge_133 (by decide) (hp_n (n := 134) rfl ?_)
    obtain ⟨rh13, αh13, qh13, hf⟩ := hq_cE hf
    refine d_ci (pc' := 137) Bh8 (hp_runV (As := [.int (5 : Int32)]) (rest := []) C Bh8 (n_X11_refuse n Γ l αh8 Bh8.2.2.1 a0 (cw_k Bh8.2.2 k0) (5 : Int32) (rh13, αh13) qh13) lb_X11_refuse lv_X11_refuse lk_X11_98 (cw_k Bh8.2.2 k0) rfl (by decide) rfl hl.1 rfl (Nat.le_of_ble_eq_true rfl) dX11_forge_134 ⟨Nat.le_refl _, Nat.le_refl _⟩) (by decide) rfl (fun Hh13 Lh13 Bh13 => ?_)
    refine lv_goto (tgt := 149) hx hb dX11_forge_137 (by decide) ?_
    cases hf
    exact q_iretQ C Bh13 hr hlk (hP Bh13.2.2) (fun t ht => hq t Bh13.2.2 ht) dX11_forge_149
set_option maxRecDepth 100000 in
set_option maxHeartbeats 4000000 in
theorem un_X11_forgeS (n : Nat) (Γ : hp_G) (l : Launch) (α : hp_T) (g : GC α) (a0 : Nat) (k0 : hp_K α a0 = 12) (a1 : Int32) (a4 : Int32) (a5 : Int32) (b0 : Nat) (kb0 : hp_K α b0 = 5) (res : Int32 × hp_T) (hf : f_X11_forge_T n α a0 a1 a4 a5 b0 = some res) {p : Program} {e : Env} {s : State} {m : MethodId} {below : List Frame} {meth : Method} {c : Code} {args0 : Array Value} (C : hp_C Γ p m c cX11_forge 7 s args0 RX11) (hr : meth.sig.returnType = (some .int)) (hlk : meth.locks = false) (H0 : Heap) (L0 : List Loc) (B : hp_B Γ (cw w_X11_forge_S) s α α H0 L0) (Pst : Int32 → hp_T → Prop) (hP : cw w_X11_forge_S α res.2 → Pst res.1 res.2) (ls : Array Slot) (hl : lv_has ls 7 [(0, .ref a0), (1, .int a1), (4, .int a4), (5, .int a5)]) : W p l e (hp_rm 72 0 0) s m args0 below meth c H0 L0 0 0 (MQ below (hp_Qi Γ Pst) args0 s 0 0 (hp_A Γ)) (F0 m 84 ls [.ref b0]) := by
  have hx := C.1.1
  have hb := C.1.2.1
  have hown := C.1.2.2.2.1
  have hts := C.1.2.2.2.2
  unfold f_X11_forge_T at hf
  refine lv_astore (lv' := [(6, .ref b0), (0, .ref a0), (1, .int a1), (4, .int a4), (5, .int a5)]) hx hb dX11_forge_84 hl (by decide) rfl (fun ls hl => hp_n (n := 86) rfl ?_)
  refine lv_aload hx hb dX11_forge_86 (lv_at hl 0 rfl) (hp_n (n := 88) rfl ?_)
  refine lv_aload_n hx hb dX11_forge_88 rfl (lv_at hl 1 rfl) (hp_n (n := 89) rfl ?_)
  refine q_getr (κ := 12) (k := 12) (φ := 612) (pc' := 92) C B (cw_k B.2.2 k0) fl_X11_62 rfl rfl rfl (cw_r B.2.2 k0 rfl rfl (by decide) (by decide)) dX11_forge_89 rfl (fun b1 eb1 kb1 => ?_)
  replace hf := ms_lE eb1 hf
  refine lv_aload_n hx hb dX11_forge_92 rfl (lv_at hl 1 rfl) (hp_n (n := 93) rfl ?_)
  refine q_getr (κ := 12) (k := 3) (φ := 603) (pc' := 96) C B (cw_k B.2.2 k0) fl_X11_26 rfl rfl rfl (cw_r B.2.2 k0 rfl rfl (by decide) (by decide)) dX11_forge_93 rfl (fun b2 eb2 kb2 => ?_)
  replace hf := ms_lE eb2 hf
  refine lv_aload_n hx hb dX11_forge_96 rfl (lv_at hl 1 rfl) (hp_n (n := 97) rfl ?_)
  refine q_getr (κ := 12) (k := 12) (φ := 612) (pc' := 100) C B (cw_k B.2.2 k0) fl_X11_62 rfl rfl rfl (cw_r B.2.2 k0 rfl rfl (by decide) (by decide)) dX11_forge_97 rfl (fun b3 eb3 kb3 => ?_)
  replace hf := ms_lE eb3 hf
  refine lv_aload_n hx hb dX11_forge_100 rfl (lv_at hl 1 rfl) (hp_n (n := 101) rfl ?_)
  refine q_getr (κ := 12) (k := 1) (φ := 601) (pc' := 104) C B (cw_k B.2.2 k0) fl_X11_16 rfl rfl rfl (cw_r B.2.2 k0 rfl rfl (by decide) (by decide)) dX11_forge_101 rfl (fun b4 eb4 kb4 => ?_)
  replace hf := ms_lE eb4 hf
  refine q_geti (κ := 11) (k := 0) (φ := 550) (pc' := 107) C B (cw_k B.2.2 kb4) fl_X11_122 rfl rfl rfl dX11_forge_104 rfl (fun x5 ex5 => ?_)
  replace hf := ms_lE ex5 hf
  refine lv_aload_n hx hb dX11_forge_107 rfl (lv_at hl 1 rfl) (hp_n (n := 108) rfl ?_)
  refine q_getr (κ := 12) (k := 3) (φ := 603) (pc' := 111) C B (cw_k B.2.2 k0) fl_X11_26 rfl rfl rfl (cw_r B.2.2 k0 rfl rfl (by decide) (by decide)) dX11_forge_108 rfl (fun b6 eb6 kb6 => ?_)
  replace hf := ms_lE eb6 hf
  refine lv_iload_n hx hb dX11_forge_111 rfl (lv_at hl 2 rfl) (hp_n (n := 112) rfl ?_)
  refine lv_iload hx hb dX11_forge_112 (lv_at hl 4 rfl) (hp_n (n := 114) rfl ?_)
  obtain ⟨rh7, qh7, hf⟩ := ms_bE hf
  refine d_pi (pc' := 117) B (hp_runV (As := [.int x5, .ref b6, .int a1, .int a5]) (rest := [.ref b2, .ref b1, .ref b0]) C B (n_X8_folded n Γ l α B.2.2.1 b3 (cw_k B.2.2 kb3) x5 b6 (cw_k B.2.2 kb6) a1 a5 rh7 qh7) lb_X8_folded lv_X8_folded lk_X11_382 (cw_k B.2.2 kb3) rfl (by decide) rfl hl.1 rfl (Nat.le_of_ble_eq_true rfl) dX11_forge_114 ⟨Nat.le_refl _, Nat.le_refl _⟩) rfl (fun Hh7 Lh7 Bh7 => ?_)
  refine lv_iload hx hb dX11_forge_117 (lv_at hl 3 rfl) (hp_n (n := 119) rfl ?_)
  refine lv_iload hx hb dX11_forge_119 (lv_at hl 4 rfl) (hp_n (n := 121) rfl ?_)
  obtain ⟨αh8, qh8, hf⟩ := ms_bE hf
  refine d_cv (pc' := 124) Bh7 (hp_runV (As := [.ref b1, .ref b2, .int rh7, .int a4, .int a5]) (rest := []) C Bh7 (n_X4_seekStep n Γ l α Bh7.2.2.1 b0 (cw_k Bh7.2.2 kb0) b1 (cw_k Bh7.2.2 kb1) b2 (cw_k Bh7.2.2 kb2) rh7 a4 a5 αh8 qh8) lb_X4_seekStep lv_X4_seekStep lk_X11_388 (cw_k Bh7.2.2 kb0) rfl (by decide) rfl hl.1 rfl (Nat.le_of_ble_eq_true rfl) dX11_forge_121 ⟨Nat.le_refl _, Nat.le_refl _⟩) (by decide) rfl (fun Hh8 Lh8 Bh8 => ?_)
  refine lv_aload hx hb dX11_forge_124 (lv_at hl 0 rfl) (hp_n (n := 126) rfl ?_)
  refine q_geti (κ := 5) (k := 9) (φ := 259) (pc' := 129) C Bh8 (cw_k Bh8.2.2 kb0) fl_X11_373 rfl rfl rfl dX11_forge_126 rfl (fun x9 ex9 => ?_)
  replace hf := ms_lE ex9 hf
  refine lv_if_ne (tgt := 140) hx hb dX11_forge_129 (by decide) (fun c10 => ?_) (fun c10 => hp_n (n := 132) rfl ?_)
  ·
    replace hf := ms_iF c10 hf
    refine lv_aload_n hx hb dX11_forge_140 rfl (lv_at hl 1 rfl) (hp_n (n := 141) rfl ?_)
    refine lv_aload hx hb dX11_forge_141 (lv_at hl 0 rfl) (hp_n (n := 143) rfl ?_)
    refine q_geti (κ := 5) (k := 10) (φ := 260) (pc' := 146) C Bh8 (cw_k Bh8.2.2 kb0) fl_X11_376 rfl rfl rfl dX11_forge_143 rfl (fun x11 ex11 => ?_)
    replace hf := ms_lE ex11 hf
    obtain ⟨rh12, αh12, qh12, hf⟩ := hq_cE hf
    refine d_ci (pc' := 149) Bh8 (hp_runV (As := [.int x11]) (rest := []) C Bh8 (n_X11_answer n Γ l αh8 Bh8.2.2.1 a0 (cw_k Bh8.2.2 k0) x11 (rh12, αh12) qh12) lb_X11_answer lv_X11_answer lk_X11_115 (cw_k Bh8.2.2 k0) rfl (by decide) rfl hl.1 rfl (Nat.le_of_ble_eq_true rfl) dX11_forge_146 ⟨Nat.le_refl _, Nat.le_refl _⟩) (by decide) rfl (fun Hh12 Lh12 Bh12 => ?_)
    cases hf
    exact q_iret C Bh12 hr hlk (hP Bh12.2.2) dX11_forge_149
  ·
    replace hf := ms_iT c10 hf
    refine lv_aload_n hx hb dX11_forge_132 rfl (lv_at hl 1 rfl) (hp_n (n := 133) rfl ?_)
    refine lv_iconst (v := 5) hx hb dX11_forge_133 (by decide) (hp_n (n := 134) rfl ?_)
    obtain ⟨rh13, αh13, qh13, hf⟩ := hq_cE hf
    refine d_ci (pc' := 137) Bh8 (hp_runV (As := [.int (5 : Int32)]) (rest := []) C Bh8 (n_X11_refuse n Γ l αh8 Bh8.2.2.1 a0 (cw_k Bh8.2.2 k0) (5 : Int32) (rh13, αh13) qh13) lb_X11_refuse lv_X11_refuse lk_X11_98 (cw_k Bh8.2.2 k0) rfl (by decide) rfl hl.1 rfl (Nat.le_of_ble_eq_true rfl) dX11_forge_134 ⟨Nat.le_refl _, Nat.le_refl _⟩) (by decide) rfl (fun Hh13 Lh13 Bh13 => ?_)
    refine lv_goto (tgt := 149) hx hb dX11_forge_137 (by decide) ?_
    cases hf
    exact q_iret C Bh13 hr hlk (hP Bh13.2.2) dX11_forge_149
def f_X11_forge_P_J30 (n : Nat) (a0 : Nat) (αh2 : hp_T) : Option (Option Nat × Int32 × hp_T) :=
  hq_c (f_X11_refuse n αh2 a0 (1 : Int32)) fun rh3 αh3 =>
  some (none, rh3, αh3)
def f_X11_forge_P_J74 (n : Nat) (a0 : Nat) (αh16 : hp_T) : Option (Option Nat × Int32 × hp_T) :=
  hq_c (f_X11_refuse n αh16 a0 (5 : Int32)) fun rh17 αh17 =>
  some (none, rh17, αh17)
def f_X11_forge_P (n : Nat) (α : hp_T) (a0 : Nat) (a1 : Int32) (a2 : Int32) (a3 : Int32) (a4 : Int32) (a5 : Int32) : Option (Option Nat × Int32 × hp_T) :=
  ms_b (f_X11_isThing n a2 a3) fun rh1 =>
  if rh1 = 0 then
    f_X11_forge_P_J30 n a0 α
  else
    if a5 < 0 then
      f_X11_forge_P_J30 n a0 α
    else
      ms_b (f_X11_isMark n α a0 a1) fun rh6 =>
      if rh6 = 0 then
        f_X11_forge_P_J30 n a0 α
      else
        ms_b (f_X11_isMark n α a0 a4) fun rh8 =>
        if rh8 = 0 then
          f_X11_forge_P_J30 n a0 α
        else
          ms_l (hp_R α 612 a0) fun b10 =>
          ms_b (f_X8_toThing n α b10 a2 a3) fun αh11 =>
          ms_l (hp_R αh11 603 a0) fun b12 =>
          ms_l (hp_I αh11 301 b12) fun x13 =>
          ms_l (hp_R αh11 612 a0) fun b14 =>
          ms_l (hp_I αh11 453 b14) fun x15 =>
          if x13 = x15 then
            ms_l (hp_R αh11 603 a0) fun b19 =>
            ms_l (hp_I αh11 301 b19) fun x20 =>
            if a5 < x20 then
              some (some 0, 0, αh11)
            else
              f_X11_forge_P_J74 n a0 αh11
          else
            f_X11_forge_P_J74 n a0 αh11
set_option maxRecDepth 100000 in
set_option maxHeartbeats 4000000 in
theorem n_X11_forge_N (n : Nat) (Γ : hp_G) (l : Launch) (α : hp_T) (g : GC α) (Hs : Heap) (a0 : Nat) (k0 : hp_K α a0 = 12) (a1 : Int32) (a2 : Int32) (a3 : Int32) (a4 : Int32) (a5 : Int32) (hN : hp_N α 618 a0 = none) (mm : Int32) (M : Nat) (hm : mm.toInt = (M : Int)) (hM : 101 ≤ M) (hM2 : M ≤ 65521) (V : Int32 → hp_T → Prop) (res : Option Nat × Int32 × hp_T) (hf : f_X11_forge_P n α a0 a1 a2 a3 a4 a5 = some res) (hE : res.1 = none → V res.2.1 res.2.2) (hmα : ∀ β, β = res.2.2 → hp_I β 550 (hp_R β 601 a0) = mm) (hT : ∀ {lg : Nat}, res.1 = some lg → ∀ γ b1, (cg w_X4_prepare res.2.2 γ ∧ hp_K γ b1 = 5 ∧ hp_N γ 618 a0 = some b1) → TB γ b1 M → hp_I γ 252 b1 = mm → ∃ t : Int32 × hp_T, f_X11_forge_T n γ a0 a1 a4 a5 b1 = some t ∧ V t.1 t.2) : Met l yX11_forge (hp_ws yX11_forge cX11_forge 7 (some .int)) (hp_rm 72 9 131316) (hp_PcH Γ α Hs [.ref a0, .int a1, .int a2, .int a3, .int a4, .int a5]) (va_Qi (fun r β => cg w_X11_forge_S α β ∧ V r β) (hp_Bz Γ Hs a0) (hp_A Γ)) 9 131316 (hp_A Γ) := by
  unfold f_X11_forge_P at hf
  refine hp_startH (by decide) ?_
  intro p e s m below meth c C hr hlk B0 hHs
  have C : hp_C Γ p m c cX11_forge 7 s ([.ref a0, .int a1, .int a2, .int a3, .int a4, .int a5] : List Value).toArray RX11 := C
  have hx := C.1.1
  have hb := C.1.2.1
  have hown := C.1.2.2.2.1
  have hts := C.1.2.2.2.2
  have B : hp_B Γ (cw w_X11_forge_S) s α α s.heap [] := ⟨B0.1, B0.2.1, cw_rf g⟩
  have hl := lv_entry ([.ref a0, .int a1, .int a2, .int a3, .int a4, .int a5]) (n := 7) (Nat.le_of_ble_eq_true rfl)
  show W p l e (hp_rm 72 9 131316) s m ([.ref a0, .int a1, .int a2, .int a3, .int a4, .int a5] : List Value).toArray below meth c s.heap [] 0 0 (MQ below (va_Qi (fun r β => cg w_X11_forge_S α β ∧ V r β) (hp_Bz Γ Hs a0) (hp_A Γ)) ([.ref a0, .int a1, .int a2, .int a3, .int a4, .int a5] : List Value).toArray s 9 131316 (hp_A Γ)) (entryFrame m ([.ref a0, .int a1, .int a2, .int a3, .int a4, .int a5] : List Value).toArray 7)
  rw [lg_entry_eq]
  generalize (lg_sl ([.ref a0, .int a1, .int a2, .int a3, .int a4, .int a5]) ++ List.replicate (7 - (lg_sl ([.ref a0, .int a1, .int a2, .int a3, .int a4, .int a5])).length) Slot.unset).toArray = ls at hl ⊢
  have hl : lv_has ls 7 [(0, .ref a0), (1, .int a1), (2, .int a2), (3, .int a3), (4, .int a4), (5, .int a5)] := hl
  refine lv_iload_n hx hb dX11_forge_0 rfl (lv_at hl 2 rfl) (hp_n (n := 1) rfl ?_)
  refine lv_iload_n hx hb dX11_forge_1 rfl (lv_at hl 3 rfl) (hp_n (n := 2) rfl ?_)
  obtain ⟨rh1, qh1, hf⟩ := ms_bE hf
  refine d_pi (pc' := 5) B (hp_runS (As := [.int a2, .int a3]) (rest := []) C B (n_X11_isThing n Γ l α B.2.2.1 a2 a3 rh1 qh1) lb_X11_isThing ls_X11_isThing lk_X11_301 rfl (by decide) rfl hl.1 rfl (Nat.le_of_ble_eq_true rfl) dX11_forge_2 ⟨Nat.zero_le _, Nat.zero_le _⟩) rfl (fun Hh1 Lh1 Bh1 => ?_)
  have J30 : ∀ (αh2 : hp_T) (Hh2 : Heap) (Lh2 : List Loc) (Bh2 : hp_B Γ (cw w_X11_forge_S) s α αh2 Hh2 Lh2) (ls : Array Slot) (hl : lv_has ls 7 [(0, .ref a0)]) (hf : f_X11_forge_P_J30 n a0 αh2 = some res), W p l e (hp_rm 72 9 131316) s m ([.ref a0, .int a1, .int a2, .int a3, .int a4, .int a5] : List Value).toArray below meth c Hh2 Lh2 0 0 (MQ below (va_Qi (fun r β => cg w_X11_forge_S α β ∧ V r β) (hp_Bz Γ Hs a0) (hp_A Γ)) ([.ref a0, .int a1, .int a2, .int a3, .int a4, .int a5] : List Value).toArray s 9 131316 (hp_A Γ)) (F0 m 30 ls []) := by
    intro αh2 Hh2 Lh2 Bh2 ls hl hf
    unfold f_X11_forge_P_J30 at hf
    refine lv_aload_n hx hb dX11_forge_30 rfl (lv_at hl 0 rfl) (hp_n (n := 31) rfl ?_)
    refine lv_iconst (v := 1) hx hb dX11_forge_31 (by decide) (hp_n (n := 32) rfl ?_)
    obtain ⟨rh3, αh3, qh3, hf⟩ := hq_cE hf
    refine d_ci (pc' := 35) Bh2 (hp_runV (As := [.int (1 : Int32)]) (rest := []) C Bh2 (n_X11_refuse n Γ l αh2 Bh2.2.2.1 a0 (cw_k Bh2.2.2 k0) (1 : Int32) (rh3, αh3) qh3) lb_X11_refuse lv_X11_refuse lk_X11_98 (cw_k Bh2.2.2 k0) rfl (by decide) rfl hl.1 rfl (Nat.le_of_ble_eq_true rfl) dX11_forge_32 ⟨Nat.zero_le _, Nat.zero_le _⟩) (by decide) rfl (fun Hh3 Lh3 Bh3 => ?_)
    cases hf
    exact q_iretZ C Bh3 hr hlk hHs ⟨cg_cw Bh3.2.2, hE rfl⟩ dX11_forge_35
  refine lv_if_eq (tgt := 30) hx hb dX11_forge_5 (by decide) (fun c4 => ?_) (fun c4 => hp_n (n := 8) rfl ?_)
  ·
    replace hf := ms_iT c4 hf
    exact J30 α Hh1 Lh1 Bh1 ls (lv_sub hl [0] rfl) hf
  ·
    replace hf := ms_iF c4 hf
    refine lv_iload hx hb dX11_forge_8 (lv_at hl 5 rfl) (hp_n (n := 10) rfl ?_)
    refine lv_if_lt (tgt := 30) hx hb dX11_forge_10 (by decide) (fun c5 => ?_) (fun c5 => hp_n (n := 13) rfl ?_)
    ·
      replace hf := ms_iT c5 hf
      exact J30 α Hh1 Lh1 Bh1 ls (lv_sub hl [0] rfl) hf
    ·
      replace hf := ms_iF c5 hf
      refine lv_aload_n hx hb dX11_forge_13 rfl (lv_at hl 0 rfl) (hp_n (n := 14) rfl ?_)
      refine lv_iload_n hx hb dX11_forge_14 rfl (lv_at hl 1 rfl) (hp_n (n := 15) rfl ?_)
      obtain ⟨rh6, qh6, hf⟩ := ms_bE hf
      refine d_pi (pc' := 18) Bh1 (hp_runV (As := [.int a1]) (rest := []) C Bh1 (n_X11_isMark n Γ l α Bh1.2.2.1 a0 (cw_k Bh1.2.2 k0) a1 rh6 qh6) lb_X11_isMark lv_X11_isMark lk_X11_188 (cw_k Bh1.2.2 k0) rfl (by decide) rfl hl.1 rfl (Nat.le_of_ble_eq_true rfl) dX11_forge_15 ⟨Nat.zero_le _, Nat.zero_le _⟩) rfl (fun Hh6 Lh6 Bh6 => ?_)
      refine lv_if_eq (tgt := 30) hx hb dX11_forge_18 (by decide) (fun c7 => ?_) (fun c7 => hp_n (n := 21) rfl ?_)
      ·
        replace hf := ms_iT c7 hf
        exact J30 α Hh6 Lh6 Bh6 ls (lv_sub hl [0] rfl) hf
      ·
        replace hf := ms_iF c7 hf
        refine lv_aload_n hx hb dX11_forge_21 rfl (lv_at hl 0 rfl) (hp_n (n := 22) rfl ?_)
        refine lv_iload hx hb dX11_forge_22 (lv_at hl 4 rfl) (hp_n (n := 24) rfl ?_)
        obtain ⟨rh8, qh8, hf⟩ := ms_bE hf
        refine d_pi (pc' := 27) Bh6 (hp_runV (As := [.int a4]) (rest := []) C Bh6 (n_X11_isMark n Γ l α Bh6.2.2.1 a0 (cw_k Bh6.2.2 k0) a4 rh8 qh8) lb_X11_isMark lv_X11_isMark lk_X11_188 (cw_k Bh6.2.2 k0) rfl (by decide) rfl hl.1 rfl (Nat.le_of_ble_eq_true rfl) dX11_forge_24 ⟨Nat.zero_le _, Nat.zero_le _⟩) rfl (fun Hh8 Lh8 Bh8 => ?_)
        refine lv_if_ne (tgt := 36) hx hb dX11_forge_27 (by decide) (fun c9 => ?_) (fun c9 => hp_n (n := 30) rfl ?_)
        ·
          replace hf := ms_iF c9 hf
          refine lv_aload_n hx hb dX11_forge_36 rfl (lv_at hl 0 rfl) (hp_n (n := 37) rfl ?_)
          refine q_getr (κ := 12) (k := 12) (φ := 612) (pc' := 40) C Bh8 (cw_k Bh8.2.2 k0) fl_X11_62 rfl rfl rfl (cw_r Bh8.2.2 k0 rfl rfl (by decide) (by decide)) dX11_forge_37 rfl (fun b10 eb10 kb10 => ?_)
          replace hf := ms_lE eb10 hf
          refine lv_iload_n hx hb dX11_forge_40 rfl (lv_at hl 2 rfl) (hp_n (n := 41) rfl ?_)
          refine lv_iload_n hx hb dX11_forge_41 rfl (lv_at hl 3 rfl) (hp_n (n := 42) rfl ?_)
          obtain ⟨αh11, qh11, hf⟩ := ms_bE hf
          refine d_cv (pc' := 45) Bh8 (hp_runV (As := [.int a2, .int a3]) (rest := []) C Bh8 (n_X8_toThing n Γ l α Bh8.2.2.1 b10 (cw_k Bh8.2.2 kb10) a2 a3 αh11 qh11) lb_X8_toThing lv_X8_toThing lk_X11_267 (cw_k Bh8.2.2 kb10) rfl (by decide) rfl hl.1 rfl (Nat.le_of_ble_eq_true rfl) dX11_forge_42 ⟨Nat.zero_le _, Nat.zero_le _⟩) (by decide) rfl (fun Hh11 Lh11 Bh11 => ?_)
          refine lv_aload_n hx hb dX11_forge_45 rfl (lv_at hl 0 rfl) (hp_n (n := 46) rfl ?_)
          refine q_getr (κ := 12) (k := 3) (φ := 603) (pc' := 49) C Bh11 (cw_k Bh11.2.2 k0) fl_X11_26 rfl rfl rfl (cw_r Bh11.2.2 k0 rfl rfl (by decide) (by decide)) dX11_forge_46 rfl (fun b12 eb12 kb12 => ?_)
          replace hf := ms_lE eb12 hf
          refine q_geti (κ := 6) (k := 1) (φ := 301) (pc' := 52) C Bh11 (cw_k Bh11.2.2 kb12) fl_X11_132 rfl rfl rfl dX11_forge_49 rfl (fun x13 ex13 => ?_)
          replace hf := ms_lE ex13 hf
          refine lv_aload_n hx hb dX11_forge_52 rfl (lv_at hl 0 rfl) (hp_n (n := 53) rfl ?_)
          refine q_getr (κ := 12) (k := 12) (φ := 612) (pc' := 56) C Bh11 (cw_k Bh11.2.2 k0) fl_X11_62 rfl rfl rfl (cw_r Bh11.2.2 k0 rfl rfl (by decide) (by decide)) dX11_forge_53 rfl (fun b14 eb14 kb14 => ?_)
          replace hf := ms_lE eb14 hf
          refine q_geti (κ := 9) (k := 3) (φ := 453) (pc' := 59) C Bh11 (cw_k Bh11.2.2 kb14) fl_X11_312 rfl rfl rfl dX11_forge_56 rfl (fun x15 ex15 => ?_)
          replace hf := ms_lE ex15 hf
          have J74 : ∀ (αh16 : hp_T) (Hh16 : Heap) (Lh16 : List Loc) (Bh16 : hp_B Γ (cw w_X11_forge_S) s α αh16 Hh16 Lh16) (ls : Array Slot) (hl : lv_has ls 7 [(0, .ref a0)]) (hf : f_X11_forge_P_J74 n a0 αh16 = some res), W p l e (hp_rm 72 9 131316) s m ([.ref a0, .int a1, .int a2, .int a3, .int a4, .int a5] : List Value).toArray below meth c Hh16 Lh16 0 0 (MQ below (va_Qi (fun r β => cg w_X11_forge_S α β ∧ V r β) (hp_Bz Γ Hs a0) (hp_A Γ)) ([.ref a0, .int a1, .int a2, .int a3, .int a4, .int a5] : List Value).toArray s 9 131316 (hp_A Γ)) (F0 m 74 ls []) := by
            intro αh16 Hh16 Lh16 Bh16 ls hl hf
            unfold f_X11_forge_P_J74 at hf
            refine lv_aload_n hx hb dX11_forge_74 rfl (lv_at hl 0 rfl) (hp_n (n := 75) rfl ?_)
            refine lv_iconst (v := 5) hx hb dX11_forge_75 (by decide) (hp_n (n := 76) rfl ?_)
            obtain ⟨rh17, αh17, qh17, hf⟩ := hq_cE hf
            refine d_ci (pc' := 79) Bh16 (hp_runV (As := [.int (5 : Int32)]) (rest := []) C Bh16 (n_X11_refuse n Γ l αh16 Bh16.2.2.1 a0 (cw_k Bh16.2.2 k0) (5 : Int32) (rh17, αh17) qh17) lb_X11_refuse lv_X11_refuse lk_X11_98 (cw_k Bh16.2.2 k0) rfl (by decide) rfl hl.1 rfl (Nat.le_of_ble_eq_true rfl) dX11_forge_76 ⟨Nat.zero_le _, Nat.zero_le _⟩) (by decide) rfl (fun Hh17 Lh17 Bh17 => ?_)
            cases hf
            exact q_iretZ C Bh17 hr hlk hHs ⟨cg_cw Bh17.2.2, hE rfl⟩ dX11_forge_79
          refine lv_icmp_ne (tgt := 74) hx hb dX11_forge_59 (by decide) (fun c18 => ?_) (fun c18 => hp_n (n := 62) rfl ?_)
          ·
            replace hf := ms_iF c18 hf
            exact J74 αh11 Hh11 Lh11 Bh11 ls (lv_sub hl [0] rfl) hf
          ·
            replace hf := ms_iT c18 hf
            refine lv_iload hx hb dX11_forge_62 (lv_at hl 5 rfl) (hp_n (n := 64) rfl ?_)
            refine lv_aload_n hx hb dX11_forge_64 rfl (lv_at hl 0 rfl) (hp_n (n := 65) rfl ?_)
            refine q_getr (κ := 12) (k := 3) (φ := 603) (pc' := 68) C Bh11 (cw_k Bh11.2.2 k0) fl_X11_26 rfl rfl rfl (cw_r Bh11.2.2 k0 rfl rfl (by decide) (by decide)) dX11_forge_65 rfl (fun b19 eb19 kb19 => ?_)
            replace hf := ms_lE eb19 hf
            refine q_geti (κ := 6) (k := 1) (φ := 301) (pc' := 71) C Bh11 (cw_k Bh11.2.2 kb19) fl_X11_132 rfl rfl rfl dX11_forge_68 rfl (fun x20 ex20 => ?_)
            replace hf := ms_lE ex20 hf
            refine lv_icmp_lt (tgt := 80) hx hb dX11_forge_71 (by decide) (fun c21 => ?_) (fun c21 => hp_n (n := 74) rfl ?_)
            ·
              replace hf := ms_iT c21 hf
              refine lv_aload_n hx hb dX11_forge_80 rfl (lv_at hl 0 rfl) (hp_n (n := 81) rfl ?_)
              cases hf
              have kaN := (cw_k Bh11.2.2 k0)
              have BN : hp_B Γ (fun _ _ => True) s α αh11 Hh11 Lh11 := ⟨Bh11.1, Bh11.2.1, trivial⟩
              refine q_cq (pc' := 84) BN (hp_runV (As := []) (rest := []) C BN (t_X11_preparedRoots_N2 Γ l αh11 Bh11.2.2.1 a0 kaN (by rw [Bh11.2.2.2.2.1]; exact hN) mm M hm hM hM2 (hmα _ rfl)) lb_X11_preparedRoots lv_X11_preparedRoots lk_X11_363 kaN rfl (by decide) rfl hl.1 rfl (Nat.le_of_ble_eq_true rfl) dX11_forge_81 ⟨Nat.le_refl _, Nat.le_refl _⟩) (fun _ _ _ => trivial) rfl (fun rN αN HN LN pN BM => ?_)
              obtain ⟨b0, rfl, cN, kN, nN, tN, iN⟩ := pN
              obtain ⟨t, hf, hV⟩ := hT rfl αN b0 ⟨cN, kN, nN⟩ tN iN
              have ckN : ∀ b, hp_K α b ≠ 0 → hp_K αN b = hp_K α b := fun b hb => by rw [cN.2.1 b (by rw [Bh11.2.2.2.1]; exact hb), Bh11.2.2.2.1]
              exact un_X11_forge n Γ l αN cN.1 a0 ((ckN _ (by rw [k0]; decide)).trans k0) a1 a4 a5 b0 kN t hf C hr hlk HN LN ⟨BM.1, BM.2.1, cw_rf cN.1⟩ _ _ (fun hw => ⟨cg_tr (cg_tr (cg_cw Bh11.2.2) cN (by decide)) (cg_cw hw) (by decide), hV⟩) (fun t2 hw hR => ⟨hR, fun hn => by rw [hw.2.2.1, nN] at hn; cases hn⟩) ls (lv_sub hl [0, 1, 4, 5] rfl)
            ·
              replace hf := ms_iF c21 hf
              exact J74 αh11 Hh11 Lh11 Bh11 ls (lv_sub hl [0] rfl) hf
        ·
          replace hf := ms_iT c9 hf
          exact J30 α Hh8 Lh8 Bh8 ls (lv_sub hl [0] rfl) hf
set_option maxRecDepth 100000 in
set_option maxHeartbeats 4000000 in
theorem n_X11_forge_S (n : Nat) (Γ : hp_G) (l : Launch) (α : hp_T) (g : GC α) (a0 : Nat) (k0 : hp_K α a0 = 12) (a1 : Int32) (a2 : Int32) (a3 : Int32) (a4 : Int32) (a5 : Int32) (b0 : Nat) (hN : hp_N α 618 a0 = some b0) (mm : Int32) (M : Nat) (hm : mm.toInt = (M : Int)) (hM : 101 ≤ M) (hM2 : M ≤ 65521) (V : Int32 → hp_T → Prop) (res : Option Nat × Int32 × hp_T) (hf : f_X11_forge_P n α a0 a1 a2 a3 a4 a5 = some res) (hE : res.1 = none → V res.2.1 res.2.2) (hmα : ∀ β, β = res.2.2 → hp_I β 550 (hp_R β 601 a0) = mm) (hTB : ∀ β, β = res.2.2 → hp_I β 252 b0 = mm → TB β b0 M) (hT : ∀ {lg : Nat}, res.1 = some lg → ∀ γ b1, (cg w_X4_prepare res.2.2 γ ∧ hp_K γ b1 = 5 ∧ hp_N γ 618 a0 = some b1) → TB γ b1 M → hp_I γ 252 b1 = mm → ∃ t : Int32 × hp_T, f_X11_forge_T n γ a0 a1 a4 a5 b1 = some t ∧ V t.1 t.2) : Met l yX11_forge (hp_ws yX11_forge cX11_forge 7 (some .int)) (hp_rm 72 0 0) (hp_Pc Γ α [.ref a0, .int a1, .int a2, .int a3, .int a4, .int a5]) (hp_Qi Γ (fun r β => cw w_X11_forge_S α β ∧ V r β)) 0 0 (hp_A Γ) := by
  unfold f_X11_forge_P at hf
  refine hp_start (by decide) ?_
  intro p e s m below meth c C hr hlk B0 hnm
  have C : hp_C Γ p m c cX11_forge 7 s ([.ref a0, .int a1, .int a2, .int a3, .int a4, .int a5] : List Value).toArray RX11 := C
  have hx := C.1.1
  have hb := C.1.2.1
  have hown := C.1.2.2.2.1
  have hts := C.1.2.2.2.2
  have B : hp_B Γ (cw w_X11_forge_S) s α α s.heap [] := ⟨B0.1, B0.2.1, cw_rf g⟩
  have kb0 : hp_K α b0 = 5 := g.2.2.1 a0 b0 k0 hN
  have hl := lv_entry ([.ref a0, .int a1, .int a2, .int a3, .int a4, .int a5]) (n := 7) (Nat.le_of_ble_eq_true rfl)
  show W p l e (hp_rm 72 0 0) s m ([.ref a0, .int a1, .int a2, .int a3, .int a4, .int a5] : List Value).toArray below meth c s.heap [] 0 0 (MQ below (hp_Qi Γ (fun r β => cw w_X11_forge_S α β ∧ V r β)) ([.ref a0, .int a1, .int a2, .int a3, .int a4, .int a5] : List Value).toArray s 0 0 (hp_A Γ)) (entryFrame m ([.ref a0, .int a1, .int a2, .int a3, .int a4, .int a5] : List Value).toArray 7)
  rw [lg_entry_eq]
  generalize (lg_sl ([.ref a0, .int a1, .int a2, .int a3, .int a4, .int a5]) ++ List.replicate (7 - (lg_sl ([.ref a0, .int a1, .int a2, .int a3, .int a4, .int a5])).length) Slot.unset).toArray = ls at hl ⊢
  have hl : lv_has ls 7 [(0, .ref a0), (1, .int a1), (2, .int a2), (3, .int a3), (4, .int a4), (5, .int a5)] := hl
  refine lv_iload_n hx hb dX11_forge_0 rfl (lv_at hl 2 rfl) (hp_n (n := 1) rfl ?_)
  refine lv_iload_n hx hb dX11_forge_1 rfl (lv_at hl 3 rfl) (hp_n (n := 2) rfl ?_)
  obtain ⟨rh1, qh1, hf⟩ := ms_bE hf
  refine d_pi (pc' := 5) B (hp_runS (As := [.int a2, .int a3]) (rest := []) C B (n_X11_isThing n Γ l α B.2.2.1 a2 a3 rh1 qh1) lb_X11_isThing ls_X11_isThing lk_X11_301 rfl (by decide) rfl hl.1 rfl (Nat.le_of_ble_eq_true rfl) dX11_forge_2 ⟨Nat.le_refl _, Nat.le_refl _⟩) rfl (fun Hh1 Lh1 Bh1 => ?_)
  have J30 : ∀ (αh2 : hp_T) (Hh2 : Heap) (Lh2 : List Loc) (Bh2 : hp_B Γ (cw w_X11_forge_S) s α αh2 Hh2 Lh2) (ls : Array Slot) (hl : lv_has ls 7 [(0, .ref a0)]) (hf : f_X11_forge_P_J30 n a0 αh2 = some res), W p l e (hp_rm 72 0 0) s m ([.ref a0, .int a1, .int a2, .int a3, .int a4, .int a5] : List Value).toArray below meth c Hh2 Lh2 0 0 (MQ below (hp_Qi Γ (fun r β => cw w_X11_forge_S α β ∧ V r β)) ([.ref a0, .int a1, .int a2, .int a3, .int a4, .int a5] : List Value).toArray s 0 0 (hp_A Γ)) (F0 m 30 ls []) := by
    intro αh2 Hh2 Lh2 Bh2 ls hl hf
    unfold f_X11_forge_P_J30 at hf
    refine lv_aload_n hx hb dX11_forge_30 rfl (lv_at hl 0 rfl) (hp_n (n := 31) rfl ?_)
    refine lv_iconst (v := 1) hx hb dX11_forge_31 (by decide) (hp_n (n := 32) rfl ?_)
    obtain ⟨rh3, αh3, qh3, hf⟩ := hq_cE hf
    refine d_ci (pc' := 35) Bh2 (hp_runV (As := [.int (1 : Int32)]) (rest := []) C Bh2 (n_X11_refuse n Γ l αh2 Bh2.2.2.1 a0 (cw_k Bh2.2.2 k0) (1 : Int32) (rh3, αh3) qh3) lb_X11_refuse lv_X11_refuse lk_X11_98 (cw_k Bh2.2.2 k0) rfl (by decide) rfl hl.1 rfl (Nat.le_of_ble_eq_true rfl) dX11_forge_32 ⟨Nat.le_refl _, Nat.le_refl _⟩) (by decide) rfl (fun Hh3 Lh3 Bh3 => ?_)
    cases hf
    exact q_iret C Bh3 hr hlk ⟨Bh3.2.2, hE rfl⟩ dX11_forge_35
  refine lv_if_eq (tgt := 30) hx hb dX11_forge_5 (by decide) (fun c4 => ?_) (fun c4 => hp_n (n := 8) rfl ?_)
  ·
    replace hf := ms_iT c4 hf
    exact J30 α Hh1 Lh1 Bh1 ls (lv_sub hl [0] rfl) hf
  ·
    replace hf := ms_iF c4 hf
    refine lv_iload hx hb dX11_forge_8 (lv_at hl 5 rfl) (hp_n (n := 10) rfl ?_)
    refine lv_if_lt (tgt := 30) hx hb dX11_forge_10 (by decide) (fun c5 => ?_) (fun c5 => hp_n (n := 13) rfl ?_)
    ·
      replace hf := ms_iT c5 hf
      exact J30 α Hh1 Lh1 Bh1 ls (lv_sub hl [0] rfl) hf
    ·
      replace hf := ms_iF c5 hf
      refine lv_aload_n hx hb dX11_forge_13 rfl (lv_at hl 0 rfl) (hp_n (n := 14) rfl ?_)
      refine lv_iload_n hx hb dX11_forge_14 rfl (lv_at hl 1 rfl) (hp_n (n := 15) rfl ?_)
      obtain ⟨rh6, qh6, hf⟩ := ms_bE hf
      refine d_pi (pc' := 18) Bh1 (hp_runV (As := [.int a1]) (rest := []) C Bh1 (n_X11_isMark n Γ l α Bh1.2.2.1 a0 (cw_k Bh1.2.2 k0) a1 rh6 qh6) lb_X11_isMark lv_X11_isMark lk_X11_188 (cw_k Bh1.2.2 k0) rfl (by decide) rfl hl.1 rfl (Nat.le_of_ble_eq_true rfl) dX11_forge_15 ⟨Nat.le_refl _, Nat.le_refl _⟩) rfl (fun Hh6 Lh6 Bh6 => ?_)
      refine lv_if_eq (tgt := 30) hx hb dX11_forge_18 (by decide) (fun c7 => ?_) (fun c7 => hp_n (n := 21) rfl ?_)
      ·
        replace hf := ms_iT c7 hf
        exact J30 α Hh6 Lh6 Bh6 ls (lv_sub hl [0] rfl) hf
      ·
        replace hf := ms_iF c7 hf
        refine lv_aload_n hx hb dX11_forge_21 rfl (lv_at hl 0 rfl) (hp_n (n := 22) rfl ?_)
        refine lv_iload hx hb dX11_forge_22 (lv_at hl 4 rfl) (hp_n (n := 24) rfl ?_)
        obtain ⟨rh8, qh8, hf⟩ := ms_bE hf
        refine d_pi (pc' := 27) Bh6 (hp_runV (As := [.int a4]) (rest := []) C Bh6 (n_X11_isMark n Γ l α Bh6.2.2.1 a0 (cw_k Bh6.2.2 k0) a4 rh8 qh8) lb_X11_isMark lv_X11_isMark lk_X11_188 (cw_k Bh6.2.2 k0) rfl (by decide) rfl hl.1 rfl (Nat.le_of_ble_eq_true rfl) dX11_forge_24 ⟨Nat.le_refl _, Nat.le_refl _⟩) rfl (fun Hh8 Lh8 Bh8 => ?_)
        refine lv_if_ne (tgt := 36) hx hb dX11_forge_27 (by decide) (fun c9 => ?_) (fun c9 => hp_n (n := 30) rfl ?_)
        ·
          replace hf := ms_iF c9 hf
          refine lv_aload_n hx hb dX11_forge_36 rfl (lv_at hl 0 rfl) (hp_n (n := 37) rfl ?_)
          refine q_getr (κ := 12) (k := 12) (φ := 612) (pc' := 40) C Bh8 (cw_k Bh8.2.2 k0) fl_X11_62 rfl rfl rfl (cw_r Bh8.2.2 k0 rfl rfl (by decide) (by decide)) dX11_forge_37 rfl (fun b10 eb10 kb10 => ?_)
          replace hf := ms_lE eb10 hf
          refine lv_iload_n hx hb dX11_forge_40 rfl (lv_at hl 2 rfl) (hp_n (n := 41) rfl ?_)
          refine lv_iload_n hx hb dX11_forge_41 rfl (lv_at hl 3 rfl) (hp_n (n := 42) rfl ?_)
          obtain ⟨αh11, qh11, hf⟩ := ms_bE hf
          refine d_cv (pc' := 45) Bh8 (hp_runV (As := [.int a2, .int a3]) (rest := []) C Bh8 (n_X8_toThing n Γ l α Bh8.2.2.1 b10 (cw_k Bh8.2.2 kb10) a2 a3 αh11 qh11) lb_X8_toThing lv_X8_toThing lk_X11_267 (cw_k Bh8.2.2 kb10) rfl (by decide) rfl hl.1 rfl (Nat.le_of_ble_eq_true rfl) dX11_forge_42 ⟨Nat.le_refl _, Nat.le_refl _⟩) (by decide) rfl (fun Hh11 Lh11 Bh11 => ?_)
          refine lv_aload_n hx hb dX11_forge_45 rfl (lv_at hl 0 rfl) (hp_n (n := 46) rfl ?_)
          refine q_getr (κ := 12) (k := 3) (φ := 603) (pc' := 49) C Bh11 (cw_k Bh11.2.2 k0) fl_X11_26 rfl rfl rfl (cw_r Bh11.2.2 k0 rfl rfl (by decide) (by decide)) dX11_forge_46 rfl (fun b12 eb12 kb12 => ?_)
          replace hf := ms_lE eb12 hf
          refine q_geti (κ := 6) (k := 1) (φ := 301) (pc' := 52) C Bh11 (cw_k Bh11.2.2 kb12) fl_X11_132 rfl rfl rfl dX11_forge_49 rfl (fun x13 ex13 => ?_)
          replace hf := ms_lE ex13 hf
          refine lv_aload_n hx hb dX11_forge_52 rfl (lv_at hl 0 rfl) (hp_n (n := 53) rfl ?_)
          refine q_getr (κ := 12) (k := 12) (φ := 612) (pc' := 56) C Bh11 (cw_k Bh11.2.2 k0) fl_X11_62 rfl rfl rfl (cw_r Bh11.2.2 k0 rfl rfl (by decide) (by decide)) dX11_forge_53 rfl (fun b14 eb14 kb14 => ?_)
          replace hf := ms_lE eb14 hf
          refine q_geti (κ := 9) (k := 3) (φ := 453) (pc' := 59) C Bh11 (cw_k Bh11.2.2 kb14) fl_X11_312 rfl rfl rfl dX11_forge_56 rfl (fun x15 ex15 => ?_)
          replace hf := ms_lE ex15 hf
          have J74 : ∀ (αh16 : hp_T) (Hh16 : Heap) (Lh16 : List Loc) (Bh16 : hp_B Γ (cw w_X11_forge_S) s α αh16 Hh16 Lh16) (ls : Array Slot) (hl : lv_has ls 7 [(0, .ref a0)]) (hf : f_X11_forge_P_J74 n a0 αh16 = some res), W p l e (hp_rm 72 0 0) s m ([.ref a0, .int a1, .int a2, .int a3, .int a4, .int a5] : List Value).toArray below meth c Hh16 Lh16 0 0 (MQ below (hp_Qi Γ (fun r β => cw w_X11_forge_S α β ∧ V r β)) ([.ref a0, .int a1, .int a2, .int a3, .int a4, .int a5] : List Value).toArray s 0 0 (hp_A Γ)) (F0 m 74 ls []) := by
            intro αh16 Hh16 Lh16 Bh16 ls hl hf
            unfold f_X11_forge_P_J74 at hf
            refine lv_aload_n hx hb dX11_forge_74 rfl (lv_at hl 0 rfl) (hp_n (n := 75) rfl ?_)
            refine lv_iconst (v := 5) hx hb dX11_forge_75 (by decide) (hp_n (n := 76) rfl ?_)
            obtain ⟨rh17, αh17, qh17, hf⟩ := hq_cE hf
            refine d_ci (pc' := 79) Bh16 (hp_runV (As := [.int (5 : Int32)]) (rest := []) C Bh16 (n_X11_refuse n Γ l αh16 Bh16.2.2.1 a0 (cw_k Bh16.2.2 k0) (5 : Int32) (rh17, αh17) qh17) lb_X11_refuse lv_X11_refuse lk_X11_98 (cw_k Bh16.2.2 k0) rfl (by decide) rfl hl.1 rfl (Nat.le_of_ble_eq_true rfl) dX11_forge_76 ⟨Nat.le_refl _, Nat.le_refl _⟩) (by decide) rfl (fun Hh17 Lh17 Bh17 => ?_)
            cases hf
            exact q_iret C Bh17 hr hlk ⟨Bh17.2.2, hE rfl⟩ dX11_forge_79
          refine lv_icmp_ne (tgt := 74) hx hb dX11_forge_59 (by decide) (fun c18 => ?_) (fun c18 => hp_n (n := 62) rfl ?_)
          ·
            replace hf := ms_iF c18 hf
            exact J74 αh11 Hh11 Lh11 Bh11 ls (lv_sub hl [0] rfl) hf
          ·
            replace hf := ms_iT c18 hf
            refine lv_iload hx hb dX11_forge_62 (lv_at hl 5 rfl) (hp_n (n := 64) rfl ?_)
            refine lv_aload_n hx hb dX11_forge_64 rfl (lv_at hl 0 rfl) (hp_n (n := 65) rfl ?_)
            refine q_getr (κ := 12) (k := 3) (φ := 603) (pc' := 68) C Bh11 (cw_k Bh11.2.2 k0) fl_X11_26 rfl rfl rfl (cw_r Bh11.2.2 k0 rfl rfl (by decide) (by decide)) dX11_forge_65 rfl (fun b19 eb19 kb19 => ?_)
            replace hf := ms_lE eb19 hf
            refine q_geti (κ := 6) (k := 1) (φ := 301) (pc' := 71) C Bh11 (cw_k Bh11.2.2 kb19) fl_X11_132 rfl rfl rfl dX11_forge_68 rfl (fun x20 ex20 => ?_)
            replace hf := ms_lE ex20 hf
            refine lv_icmp_lt (tgt := 80) hx hb dX11_forge_71 (by decide) (fun c21 => ?_) (fun c21 => hp_n (n := 74) rfl ?_)
            ·
              replace hf := ms_iT c21 hf
              refine lv_aload_n hx hb dX11_forge_80 rfl (lv_at hl 0 rfl) (hp_n (n := 81) rfl ?_)
              cases hf
              have kaN := (cw_k Bh11.2.2 k0)
              refine q_cq (pc' := 84) Bh11 (hp_runV (As := []) (rest := []) C Bh11 (t_X11_preparedRoots_S2 Γ l αh11 Bh11.2.2.1 a0 kaN b0 (by rw [Bh11.2.2.2.2.1]; exact hN) mm M hm hM hM2 (hmα _ rfl) (hTB _ rfl)) lb_X11_preparedRoots lv_X11_preparedRoots lk_X11_363 kaN rfl (by decide) rfl hl.1 rfl (Nat.le_of_ble_eq_true rfl) dX11_forge_81 ⟨Nat.le_refl _, Nat.le_refl _⟩) (fun _ _ h => cw_tr Bh11.2.2 h.1.1 (by decide)) rfl (fun rN αN HN LN pN BM => ?_)
              obtain ⟨⟨cS, rfl⟩, tN, iN⟩ := pN
              have kN : hp_K αN b0 = 5 := cw_k BM.2.2 kb0
              have nN : hp_N αN 618 a0 = some b0 := by rw [BM.2.2.2.2.1]; exact hN
              have cN : cg w_X4_prepare αh11 αN := cg_cw cS
              obtain ⟨t, hf, hV⟩ := hT rfl αN b0 ⟨cN, kN, nN⟩ tN iN
              have ckN : ∀ b, hp_K α b ≠ 0 → hp_K αN b = hp_K α b := fun b hb => by rw [BM.2.2.2.1]
              exact un_X11_forgeS n Γ l αN BM.2.2.1 a0 ((ckN _ (by rw [k0]; decide)).trans k0) a1 a4 a5 b0 kN t hf C hr hlk HN LN ⟨BM.1, BM.2.1, cw_rf BM.2.2.1⟩ _ (fun hw => ⟨cw_tr BM.2.2 hw (by decide), hV⟩) ls (lv_sub hl [0, 1, 4, 5] rfl)
            ·
              replace hf := ms_iF c21 hf
              exact J74 αh11 Hh11 Lh11 Bh11 ls (lv_sub hl [0] rfl) hf
        ·
          replace hf := ms_iT c9 hf
          exact J30 α Hh8 Lh8 Bh8 ls (lv_sub hl [0] rfl) hf
end JN10_0
section JN10_1
set_option maxRecDepth 100000
def TBX (α : hp_T) (x : Nat) : Prop := ∀ b, hp_N α 618 x = some b → ∀ M : Nat, 101 ≤ M → M ≤ 65521 → (hp_I α 252 b).toInt = (M : Int) → TB α b M
theorem TBX_f {α β : hp_T} {x : Nat} (h : TBX α x) (eN : hp_N β 618 x = hp_N α 618 x) (eI : ∀ b, hp_N α 618 x = some b → hp_I β 252 b = hp_I α 252 b) (eR : ∀ b, hp_N α 618 x = some b → hp_R β 250 b = hp_R α 250 b ∧ hp_R β 251 b = hp_R α 251 b) (eE : ∀ b j, hp_N α 618 x = some b → hp_E β 34 (hp_R α 250 b) j = hp_E α 34 (hp_R α 250 b) j ∧ hp_E β 35 (hp_R α 251 b) j = hp_E α 35 (hp_R α 251 b) j) : TBX β x := by
  intro b hb M h1 h2 hI
  rw [eN] at hb
  rw [eI b hb] at hI
  obtain ⟨t1, t2⟩ := h b hb M h1 h2 hI
  obtain ⟨r1, r2⟩ := eR b hb
  exact ⟨fun t ht => by rw [r1, (eE b t hb).1]; exact t1 t ht, fun g hg => by rw [r2, (eE b g hb).2]; exact t2 g hg⟩
def weD (x : Nat) (α δ : hp_T) : Prop := hp_R δ = hp_R α ∧ hp_K δ = hp_K α ∧ hp_N δ = hp_N α ∧ (∀ φ b, φ ≠ 301 → φ ≠ 453 → φ ≠ 454 → φ ≠ 600 → hp_I δ φ b = hp_I α φ b) ∧ ∀ κ b j, κ ≠ 20 → κ ≠ 21 → κ ≠ 22 → κ ≠ 23 → κ ≠ 33 → hp_E δ κ b j = hp_E α κ b j
theorem weD_rf {x : Nat} {α : hp_T} : weD x α α := ⟨rfl, rfl, rfl, fun _ _ _ _ _ _ => rfl, fun _ _ _ _ _ _ _ _ => rfl⟩
theorem weD_tr {x : Nat} {α β γ : hp_T} (h : weD x α β) (g : weD x β γ) : weD x α γ := ⟨g.1.trans h.1, g.2.1.trans h.2.1, g.2.2.1.trans h.2.2.1, fun φ b p q r s => (g.2.2.2.1 φ b p q r s).trans (h.2.2.2.1 φ b p q r s), fun κ b j p q r s t => (g.2.2.2.2 κ b j p q r s t).trans (h.2.2.2.2 κ b j p q r s t)⟩
theorem weD_wf {x a : Nat} {α β : hp_T} (h : wf a α β) : weD x α β := ⟨h.1, h.2.1, h.2.2.2.1, fun φ b p q r _ => h.2.2.2.2.1 φ b (fun z => by omega), fun κ b j p q r s _ => h.2.2.2.2.2 κ b j (fun z => by omega)⟩
theorem weD_qf {x w a : Nat} {α β : hp_T} (h : qf w a α β) : weD x α β := ⟨h.1, h.2.1, h.2.2.2.1, fun φ b p q r _ => h.2.2.2.2.1 φ b (fun z => by omega), fun κ b j p q r s t => h.2.2.2.2.2 κ b j (fun z => t z.1) (fun z => p z.1)⟩
theorem weD_st {x : Nat} {α : hp_T} {v : Int32} : weD x α (hp_sI α 600 x v) := ⟨rfl, rfl, rfl, fun φ b _ _ _ s => by rw [hI_sI, if_neg (fun z => s z.1)], fun _ _ _ _ _ _ _ _ => rfl⟩
theorem TBX_weD {x : Nat} {α β : hp_T} (h : TBX α x) (d : weD x α β) : TBX β x := by
  obtain ⟨d1, d2, d3, d4, d5⟩ := d
  exact TBX_f h (by rw [d3]) (fun b _ => d4 252 b (by decide) (by decide) (by decide) (by decide)) (fun b _ => by rw [d1]; exact ⟨rfl, rfl⟩) (fun b j _ => ⟨d5 34 _ j (by decide) (by decide) (by decide) (by decide) (by decide), d5 35 _ j (by decide) (by decide) (by decide) (by decide) (by decide)⟩)
theorem k_weakP (n : Nat) (hn : 70000 ≤ n) (α : hp_T) (x : Nat) (f : Nat → Int32) (hC : rC f) (h : RWX α x f) (h14 : hp_R α 614 x = x + 939) (h40 : hp_R α 300 (x + 939) = x + 940) (h39 : 0 ≤ (hp_I α 301 (x + 939)).toInt ∧ (hp_I α 301 (x + 939)).toInt ≤ 64) (a i m what : Int32) : ws (f_X11_weak_P n α x a i m what) (fun res => (weD x α res.2.2 ∧ pkp x α res.2.2) ∧ (res.1 = none → ¬ wkOK f a i m what ∧ res.2.1 = -1) ∧ ∀ lg, res.1 = some lg → wkOK f a i m what ∧ lg = lpA (hp_R α 601 x) a.toInt.toNat ∧ WC res.2.2 (hp_R α 612 x) (wkW i m) ∧ RWL res.2.2 (x + 939) (inL f a i m) ∧ LM res.2.2 lg (EL f a.toInt.toNat)) := by
  obtain ⟨w, u, h1, h2, -, h4, -⟩ := h
  have hm0 := hC.2.1
  have h44 := hC.1
  have bad : ∀ (v : Int32), ¬ wkOK f a i m what → ws (hq_c (f_X11_refuse n α x v) fun r γ => some ((none : Option Nat), r, γ)) (fun res => (weD x α res.2.2 ∧ pkp x α res.2.2) ∧ (res.1 = none → ¬ wkOK f a i m what ∧ res.2.1 = -1) ∧ ∀ lg, res.1 = some lg → wkOK f a i m what ∧ lg = lpA (hp_R α 601 x) a.toInt.toNat ∧ WC res.2.2 (hp_R α 612 x) (wkW i m) ∧ RWL res.2.2 (x + 939) (inL f a i m) ∧ LM res.2.2 lg (EL f a.toInt.toNat)) := fun v hno =>
    ws_hc (k_refuse n α x v) (fun z γ hz => ws_s ⟨by rw [show γ = hp_sI α 600 x v from hz.2]; exact ⟨weD_st, pkp_st⟩, fun _ => ⟨hno, hz.1⟩, fun lg q => (by cases q)⟩)
  unfold f_X11_weak_P f_X11_weak_P_J11 f_X11_weak_P_J46
  refine ws_lt (fun e => bad 1 (fun q => by rw [lt0] at e; have := q.1.1; omega)) (fun e => ws_le (fun e2 => ws_l ?_) (fun e2 => bad 1 (fun q => by rw [lt1] at e2; have := q.1.2; omega)))
  rw [lt0] at e
  rw [lt1] at e2
  have bad2 := bad
  rw [h1] at bad2
  rw [h1]
  refine ws_b (k_logAt n h4 hC a) (fun o ho => ?_)
  by_cases hr : 0 ≤ a.toInt ∧ a.toInt < (f 0).toInt
  · rw [if_pos hr] at ho
    subst ho
    have q152 := (h4.2.2.1 a.toInt.toNat (by omega)).1
    have hsz := hC.2.2.2.2.1 a.toInt.toNat (by omega)
    refine ws_hS ?_
    unfold f_X11_wrongInclusion f_X11_wrongInclusions_J29
    refine ws_b (S := fun v => (v = 0 ∧ inOK f a i m) ∨ (¬ v = 0 ∧ ¬ inOK f a i m)) (ws_hS (ws_lt (fun e => ws_s (Or.inr ⟨by decide, fun q => by rw [lt0] at e; have := q.1.1; omega⟩)) (fun e => ws_le (fun e2 => ws_l ?_) (fun e2 => ws_s (Or.inr ⟨by decide, fun q => by rw [lt0] at e2; have := q.1.2; omega⟩))))) (fun v hv => ?_)
    · rw [lt0] at e e2
      rw [q152]
      exact ws_lt (fun e3 => ws_s (Or.inr ⟨by decide, fun q => by have := q.2.2.1; omega⟩)) (fun e3 => ws_lt (fun e4 => ws_s (Or.inl ⟨rfl, ⟨e, e2⟩, hr, e3, e4⟩)) (fun e4 => ws_s (Or.inr ⟨by decide, fun q => by have := q.2.2.2; omega⟩)))
    · rcases hv with ⟨rfl, ok⟩ | ⟨hv, no⟩
      · refine ws_i (fun _ => ws_l ?_) (fun q => absurd rfl q)
        obtain ⟨ok1, ok2, ok3, ok4⟩ := id ok
        refine ws_b (k_toThing n hn α _ i m ok1.1 ok4) (fun β hβ => ws_l (ws_l (ws_l ?_)))
        obtain ⟨hWC, hwf⟩ := hβ
        have hWβ := WR_wf h4 hC hwf
        rw [hwf.1, h1, h14]
        obtain ⟨l0, hl0⟩ := RWL_any (α := β) (a := x + 939) (by rw [hwf.2.2.2.2.1 301 _ (fun z => by omega)]; exact h39.1) (by rw [hwf.2.2.2.2.1 301 _ (fun z => by omega)]; exact h39.2)
        refine ws_b (k_marksAlong n hn w (x + 939) _ β (f 1) (by omega) hWβ.2.1.1 (lpA w a.toInt.toNat) (EL f a.toInt.toNat) (WR_LM hWβ hC (by omega)) _ hWC (by rw [List.length_reverse]; exact Nat.le_trans (wyT_len _ _ _ _) (by decide)) (fun q hq => ?_) l0 hl0) (fun δ hδ => ws_s ?_)
        · have := wyT_rin (N := m.toInt.toNat) (I := i.toInt.toNat) (by omega) q hq
          rw [EL_len]; omega
        obtain ⟨hL, hqf⟩ := hδ
        refine ⟨⟨weD_tr (weD_wf hwf) (weD_qf hqf), pkp_tr (pkp_wf hwf) (pkp_qf hqf (by omega) (by rw [hwf.1, h40]; omega))⟩, fun q => (by cases q), fun lg q => ?_⟩
        have q : some (lpA w a.toInt.toNat) = some lg := q
        cases q
        exact ⟨⟨⟨e, e2⟩, ok⟩, rfl, WC_qf hWC hqf, hL, LM_qf (WR_LM hWβ hC (r := a.toInt.toNat) (by omega)) hqf⟩
      · exact ws_i (fun q => absurd q hv) (fun _ => bad2 v (fun q => no q.2))
  · rw [if_neg hr] at ho
    subst ho
    have no : ¬ wkOK f a i m what := fun q => hr q.2.2.1
    refine ws_hN ?_
    unfold f_X11_wrongInclusion
    refine ws_b (S := fun _ => True) (ws_hN (ws_lt (fun _ => ws_s trivial) (fun _ => ws_le (fun _ => ws_s trivial) (fun _ => ws_s trivial)))) (fun v _ => ws_i (fun _ => bad2 v no) (fun _ => bad2 v no))
theorem TB_jf {α β : hp_T} {w r M : Nat} (h : TB α r M) (f : jf w α β) : TB β r M := by
  obtain ⟨f1, -, -, -, -, f6⟩ := f
  unfold TB at h ⊢
  rw [f1]
  exact ⟨fun t ht => by rw [f6 34 _ t (fun z => absurd z.1 (by decide))]; exact h.1 t ht, fun t ht => by rw [f6 35 _ t (fun z => absurd z.1 (by decide))]; exact h.2 t ht⟩
theorem TBX_1 {α : hp_T} {x b M : Nat} {m : Int32} (hm : m.toInt = (M : Int)) (hN : hp_N α 618 x = some b) (h252 : hp_I α 252 b = m) (hT : TB α b M) : TBX α x := by
  intro b' hb M' _ _ hI
  rw [hN] at hb
  cases hb
  rw [h252, hm] at hI
  have : M = M' := by omega
  rw [← this]; exact hT
theorem TB_st {α : hp_T} {x r M : Nat} {v : Int32} (h : TB α r M) : TB (hp_sI α 600 x v) r M := h
section WT
variable {α δ γ : hp_T} {x b1 M : Nat} {f : Nat → Int32}
theorem kg_cg (g : GC α) (d : weD x α δ) (c : cg w_X4_prepare δ γ) {b : Nat} {κ : Nat} (k : hp_K α b = κ) (h0 : κ ≠ 0) : (∀ φ, hp_R γ φ b = hp_R α φ b) ∧ (∀ φ, φ ≠ 252 → hp_I γ φ b = hp_I δ φ b) ∧ ∀ κ' j, κ' ≠ 34 → κ' ≠ 35 → hp_E γ κ' b j = hp_E δ κ' b j := by
  have kd : hp_K δ b ≠ 0 := by rw [d.2.1, k]; exact h0
  exact ⟨fun φ => (c.2.2.2.1 φ b kd (by simp [w_X4_prepare])).trans (by rw [d.1]), fun φ p => c.2.2.1 φ b kd (by simp [w_X4_prepare, p]), fun κ' j p q => c.2.2.2.2.1 κ' b j kd (by simp [w_X4_prepare, p, q])⟩
theorem pkp_kg (g : GC α) (kx : hp_K α x = 12) (d : weD x α δ) (h6 : hp_R α 603 x = x + 919) (h3 : hp_R α 300 (x + 919) = x + 920) (c : cg w_X4_prepare δ γ) : pkp x δ γ := by
  have k6 : hp_K α (x + 919) = 6 := gkR g kx h6 rfl (by decide) (by decide)
  have k20 : hp_K α (x + 920) = 20 := gkR g k6 h3 rfl (by decide) (by decide)
  obtain ⟨r1, r2, -⟩ := kg_cg g d c k6 (by decide)
  obtain ⟨-, -, s3⟩ := kg_cg g d c k20 (by decide)
  exact ⟨r2 301 (by decide), (r1 300).trans (by rw [d.1]), fun j => s3 20 j (by decide) (by decide)⟩
theorem RWL_kg (g : GC α) (d : weD x α δ) (c : cg w_X4_prepare δ γ) {a : Nat} {l : List Int32} (k : hp_K α a = 6) (h : RWL δ a l) : RWL γ a l := by
  obtain ⟨r1, r2, -⟩ := kg_cg g d c k (by decide)
  have ka : hp_K α (hp_R α 300 a) = 20 := gkR g k rfl rfl (by decide) (by decide)
  obtain ⟨-, -, s3⟩ := kg_cg g d c ka (by decide)
  exact ⟨h.1, by rw [r2 301 (by decide)]; exact h.2.1, fun j hj => by rw [r1, s3 20 j (by decide) (by decide), ← d.1]; exact h.2.2 j hj⟩
theorem WC_kg (g : GC α) (d : weD x α δ) (c : cg w_X4_prepare δ γ) {a : Nat} {l : List (Nat × Nat × Bool)} (k : hp_K α a = 9) (h : WC δ a l) : WC γ a l := by
  obtain ⟨r1, r2, -⟩ := kg_cg g d c k (by decide)
  have k1 : hp_K α (hp_R α 450 a) = 21 := gkR g k rfl rfl (by decide) (by decide)
  have k2 : hp_K α (hp_R α 451 a) = 22 := gkR g k rfl rfl (by decide) (by decide)
  have k3 : hp_K α (hp_R α 452 a) = 23 := gkR g k rfl rfl (by decide) (by decide)
  obtain ⟨-, -, s1⟩ := kg_cg g d c k1 (by decide)
  obtain ⟨-, -, s2⟩ := kg_cg g d c k2 (by decide)
  obtain ⟨-, -, s3⟩ := kg_cg g d c k3 (by decide)
  refine ⟨by rw [r2 453 (by decide)]; exact h.1, fun j q hq => ?_⟩
  rw [r1, r1, r1, s1 21 j (by decide) (by decide), s2 22 j (by decide) (by decide), s3 23 j (by decide) (by decide), ← d.1]
  exact h.2 j q hq
theorem LM_kg (g : GC α) (d : weD x α δ) (c : cg w_X4_prepare δ γ) {a : Nat} {l : List Int32} (k : hp_K α a = 3) (h : LM δ a l) : LM γ a l := by
  obtain ⟨r1, r2, -⟩ := kg_cg g d c k (by decide)
  have ka : hp_K α (hp_R α 151 a) = 29 := gkR g k rfl rfl (by decide) (by decide)
  obtain ⟨-, -, s3⟩ := kg_cg g d c ka (by decide)
  exact ⟨h.1, by rw [r2 152 (by decide)]; exact h.2.1, fun j hj => by rw [r1, s3 29 j (by decide) (by decide), ← d.1]; exact h.2.2 j hj⟩
theorem k_weakT (n : Nat) (hn : 70000 ≤ n) (g : GC α) (kx : hp_K α x = 12) (hC : rC f) (hMR : MRL f) (h : RWX α x f) (h14 : hp_R α 614 x = x + 939) (hm : (f 1).toInt = (M : Int)) (a i m what : Int32) (ok : wkOK f a i m what) (d : weD x α δ) (hWC : WC δ (hp_R α 612 x) (wkW i m)) (hL : RWL δ (x + 939) (inL f a i m)) (hLM : LM δ (lpA (hp_R α 601 x) a.toInt.toNat) (EL f a.toInt.toNat)) (c : cg w_X4_prepare δ γ) (hN : hp_N γ 618 x = some b1) (hT : TB γ b1 M) (h252 : hp_I γ 252 b1 = f 1) : ∃ t : Int32 × hp_T, f_X11_weak_T n γ x i m what (lpA (hp_R α 601 x) a.toInt.toNat) b1 = some t ∧ (t.1 = wkA f a i m what ∧ TBX t.2 x ∧ pkp x γ t.2) := by
  obtain ⟨w, u, h1, h2, -, h4, -⟩ := h
  have hm0 := hC.2.1
  have h44 := hC.1
  obtain ⟨ok0, ok1, ok2, ok3, ok4⟩ := id ok
  have hsz := hC.2.2.2.2.1 a.toInt.toNat (by omega)
  have kw : hp_K α w = 11 := gkR g kx h1 rfl (by decide) (by decide)
  have kwy : hp_K α (hp_R α 612 x) = 9 := gkR g kx rfl rfl (by decide) (by decide)
  have krow : hp_K α (x + 939) = 6 := gkR g kx h14 rfl (by decide) (by decide)
  obtain ⟨a1, -, -, -, -, -, a7, -, -, -, -, -, -⟩ := h4.1
  have k1 : hp_K α (w + 1) = 30 := gkR g kw a1 rfl (by decide) (by decide)
  have klg : hp_K α (lpA w a.toInt.toNat) = 3 := gkQ g k1 (a7 a.toInt.toNat (by omega)) rfl (by decide)
  obtain ⟨x1, x2, -⟩ := kg_cg g d c kx (by decide)
  obtain ⟨w1, w2, -⟩ := kg_cg g d c kw (by decide)
  rw [h1] at hLM ⊢
  have hWCγ := WC_kg g d c kwy hWC
  have hLγ := RWL_kg g d c krow hL
  have hLMγ := LM_kg g d c klg hLM
  have h550 : hp_I γ 550 w = f 1 := by rw [w2 550 (by decide), d.2.2.2.1 550 w (by decide) (by decide) (by decide) (by decide)]; exact h4.2.1.1
  have hil : i.toInt.toNat < (EL f a.toInt.toNat).length := by rw [EL_len]; omega
  have hWl : (wkW i m).length = (wyT 31 i.toInt.toNat 0 m.toInt.toNat).length := by unfold wkW; rw [List.length_reverse]
  have hW31 : (wkW i m).length ≤ 31 := by rw [hWl]; exact wyT_len _ _ _ _
  unfold f_X11_weak_T
  refine ws_l (ws_l ?_)
  refine ws_b (k_markAt n hLMγ i.toInt.toNat i (by omega) hil) (fun em hem => ws_l ?_)
  replace hem : em = EM f a.toInt.toNat i.toInt.toNat := by
    have := EL_get f a.toInt.toNat i.toInt.toNat (by omega)
    rw [List.getElem?_eq_getElem hil] at this
    rw [hem]; exact Option.some.inj this
  rw [x1 612, x1 614, x1 601, h14, h1]
  refine ws_hc (k_headOf n hn w γ (f 1) (by omega) h550 (lpA w a.toInt.toNat) (EL f a.toInt.toNat) hLMγ m.toInt.toNat (by rw [EL_len]; omega) m (by omega)) (fun hd γ1 hγ1 => ?_)
  obtain ⟨hhd, hjf⟩ := hγ1
  replace hhd : hd = _ := hhd
  have emr := hMR a.toInt.toNat (by omega) (EM f a.toInt.toNat i.toInt.toNat) (List.mem_of_getElem? (EL_get f a.toInt.toNat i.toInt.toNat (by omega)))
  have hdr := TMK_lt hC (L := EL f a.toInt.toNat) (hMR a.toInt.toNat (by omega)) 0 m.toInt.toNat
  have hXlen : (inL f a i m).length = (wkW i m).length := by unfold inL wkW; rw [mkl_len]
  have hXr : ∀ j, j < (wkW i m).length → 0 ≤ ((inL f a i m).getD j 0).toInt ∧ ((inL f a i m).getD j 0).toInt ≤ 65521 := fun j hj => by
    have hj2 : j < ((wyT 31 i.toInt.toNat 0 m.toInt.toNat).reverse).length := hj
    have e := mkl_get (f 1) (EL f a.toInt.toNat) (wyT 31 i.toInt.toNat 0 m.toInt.toNat).reverse j hj2
    have e2 : (inL f a i m).getD j 0 = TMK (f 1) (EL f a.toInt.toNat) ((wyT 31 i.toInt.toNat 0 m.toInt.toNat).reverse[j]).1 ((wyT 31 i.toInt.toNat 0 m.toInt.toNat).reverse[j]).2.1 := by
      rw [List.getD_eq_getElem?_getD]
      unfold inL
      rw [e]; rfl
    rw [e2]
    have := TMK_lt hC (L := EL f a.toInt.toNat) (hMR a.toInt.toNat (by omega)) ((wyT 31 i.toInt.toNat 0 m.toInt.toNat).reverse[j]).1 ((wyT 31 i.toInt.toNat 0 m.toInt.toNat).reverse[j]).2.1
    omega
  have jI : hp_I γ1 = hp_I γ := hjf.2.2.2.2.1
  have hN1 : hp_N γ1 618 x = some b1 := by rw [hjf.2.2.2.1]; exact hN
  refine ws_b (k_seekThing n hn (M := M) (e := wkE f a i) hm (by omega) (by omega) (wkW i m) (inL f a i m) (WC_jfc hWCγ hjf) (by omega) (RWL_jf hLγ hjf) (by omega) hXr (by rw [jI]; exact h252) (TB_jf hT hjf) em hd (by rw [hem]; unfold wkE; omega) hd.toInt.toNat (by rw [hhd]; omega) (by rw [hhd]; omega)) (fun β hβ => ?_)
  obtain ⟨hS, hTβ, hIβ, hNβ, e1, -, -, e4, e5⟩ := hβ
  have pk : pkp x γ β := pkp_tr (pkp_jf hjf) ⟨e5 301 _ (by omega), e1 300 _ (by decide) (by decide), fun j => by rw [e4]⟩
  have hNb : hp_N β 618 x = some b1 := by rw [hNβ]; exact hN1
  have fold := gb_fold (M := M) (by omega) (fun j => wfl (wkW i m) j) (fun j => ((inL f a i m).getD j 0).toInt.toNat) (wkW i m).length (wkE f a i) hd.toInt.toNat (by rw [hhd]; omega) (wkP f a i m) (fun v hv => by
    have q := fwd_gF hm (by omega) (by omega) (fun j => (inL f a i m).getD j 0) (wkW i m) (fun j => wfl (wkW i m) j) (fun j => ((inL f a i m).getD j 0).toInt.toNat) (fun j _ => rfl) (fun j hj => by have := hXr j hj; show ((inL f a i m).getD j 0).toInt = _; omega) (Int32.ofNat v) v (by rw [Int32.toInt_ofNat_of_lt (by omega)]) (wkW i m).length (Nat.le_refl _)
    rw [List.take_length] at q
    unfold wkP
    rw [decide_eq_true_iff, ← hhd]
    constructor
    · intro z
      rw [z] at q; omega
    · intro z
      exact Int32.toInt_inj.mp (by rw [q, z, hhd]; omega)) (0, 0)
  rw [fold] at hS
  obtain ⟨s1, s2⟩ := hS
  unfold wkA
  rw [if_pos ok]
  have eM : (f 1).toInt.toNat = M := by omega
  rw [eM]
  unfold wkR
  refine ws_i (fun w0 => ws_l (ws_hc (k_answer n β x _) (fun z ε hz => ws_s ⟨?_, ?_⟩))) (fun w0 => ws_l (ws_i (fun z0 => ws_hc (k_refuse n β x 5) (fun z ε hz => ws_s ⟨?_, ?_⟩)) (fun z0 => ws_l (ws_hc (k_answer n β x _) (fun z ε hz => ws_s ⟨?_, ?_⟩)))))
  · rw [if_pos w0, show z = hp_I β 259 b1 from hz.1]; exact i_ofN s1
  · rw [show ε = hp_sI β 600 x 0 from hz.2]; exact ⟨TBX_1 hm hNb hIβ (TB_st hTβ), pkp_tr pk pkp_st⟩
  · rw [if_neg w0, if_pos (by rw [z0, lt0] at s1; omega)]; exact hz.1
  · rw [show ε = hp_sI β 600 x 5 from hz.2]; exact ⟨TBX_1 hm hNb hIβ (TB_st hTβ), pkp_tr pk pkp_st⟩
  · rw [if_neg w0, if_neg (fun q => z0 (Int32.toInt_inj.mp (by rw [s1, q]; rfl))), show z = hp_I β 260 b1 from hz.1]; exact i_ofN s2
  · rw [show ε = hp_sI β 600 x 0 from hz.2]; exact ⟨TBX_1 hm hNb hIβ (TB_st hTβ), pkp_tr pk pkp_st⟩
end WT
end JN10_1
section JN10_2
set_option maxRecDepth 100000
section WI
variable {x : Nat} {f : Nat → Int32}
theorem wkV (α : hp_T) (hC : rC f) (hTB : TBX α x) (hRW : RWX α x f) (a i m what : Int32) {res : Option Nat × Int32 × hp_T} (hd : weD x α res.2.2 ∧ pkp x α res.2.2) (h1 : res.1 = none → ¬ wkOK f a i m what ∧ res.2.1 = -1) : res.1 = none → (res.2.1 = wkA f a i m what ∧ TBX res.2.2 x ∧ pkp x α res.2.2) := fun e => by
  obtain ⟨no, q⟩ := h1 e
  refine ⟨?_, TBX_weD hTB hd.1, hd.2⟩
  unfold wkA
  rw [if_neg no]; exact q
theorem mm_weD {α δ : hp_T} (hRW : RWX α x f) (d : weD x α δ) : ∀ β, β = δ → hp_I β 550 (hp_R β 601 x) = f 1 := fun β e => by
  obtain ⟨w, u, h1, -, -, h4, -⟩ := hRW
  rw [e, d.1, d.2.2.2.1 550 _ (by decide) (by decide) (by decide) (by decide), h1]
  exact h4.2.1.1
theorem tb_weD {α δ : hp_T} {b0 M : Nat} (hTB : TBX α x) (hN : hp_N α 618 x = some b0) (hm : (f 1).toInt = (M : Int)) (hM : 101 ≤ M) (hM2 : M ≤ 65521) (d : weD x α δ) : ∀ β, β = δ → hp_I β 252 b0 = f 1 → TB β b0 M := fun β e h => by
  subst e
  exact TBX_weD hTB d b0 (by rw [d.2.2.1]; exact hN) M hM hM2 (by rw [h]; exact hm)
theorem w_weak_S (Γ : hp_G) (l : Launch) (α : hp_T) (g : GC α) (kx : hp_K α x = 12) (b0 : Nat) (hN : hp_N α 618 x = some b0) (hC : rC f) (hRW : RWX α x f) (h14 : hp_R α 614 x = x + 939) (h40 : hp_R α 300 (x + 939) = x + 940) (h6 : hp_R α 603 x = x + 919) (h3 : hp_R α 300 (x + 919) = x + 920) (h39 : 0 ≤ (hp_I α 301 (x + 939)).toInt ∧ (hp_I α 301 (x + 939)).toInt ≤ 64) (hTB : TBX α x) (a i m what : Int32) : Met l yX11_weak (hp_ws yX11_weak cX11_weak 8 (some .int)) (hp_rm 72 0 0) (hp_Pc Γ α [.ref x, .int a, .int i, .int m, .int what]) (hp_Qi Γ (fun r β => cw w_X11_weak_S α β ∧ (r = wkA f a i m what ∧ TBX β x ∧ pkp x α β))) 0 0 (hp_A Γ) := by
  have hm0 := hC.2.1
  have hm : (f 1).toInt = ((f 1).toInt.toNat : Int) := by omega
  obtain ⟨res, hq, hd, h1, h2⟩ := k_weakP 70000 (by decide) α x f hC hRW h14 h40 h39 a i m what
  refine n_X11_weak_S 70000 Γ l α g x kx a i m what b0 hN (f 1) (f 1).toInt.toNat hm (by omega) (by omega) (fun r β => r = wkA f a i m what ∧ TBX β x ∧ pkp x α β) res hq (wkV α hC hTB hRW a i m what hd h1) (mm_weD hRW hd.1) (tb_weD hTB hN hm (by omega) (by omega) hd.1) (fun {lg} e γ b1 p tb ib => ?_)
  obtain ⟨ok, elg, q1, q2, q3⟩ := h2 lg e
  subst elg
  obtain ⟨t, t1, t2, t3, t4⟩ := k_weakT 70000 (by decide) g kx hC (MRL_X hRW hC) hRW h14 hm a i m what ok hd.1 q1 q2 q3 p.1 p.2.2 tb ib
  exact ⟨t, t1, t2, t3, pkp_tr hd.2 (pkp_tr (pkp_kg g kx hd.1 h6 h3 p.1) t4)⟩
theorem w_weak_N (Γ : hp_G) (l : Launch) (α : hp_T) (g : GC α) (Hs : Heap) (kx : hp_K α x = 12) (hN : hp_N α 618 x = none) (hC : rC f) (hRW : RWX α x f) (h14 : hp_R α 614 x = x + 939) (h40 : hp_R α 300 (x + 939) = x + 940) (h6 : hp_R α 603 x = x + 919) (h3 : hp_R α 300 (x + 919) = x + 920) (h39 : 0 ≤ (hp_I α 301 (x + 939)).toInt ∧ (hp_I α 301 (x + 939)).toInt ≤ 64) (hTB : TBX α x) (a i m what : Int32) : Met l yX11_weak (hp_ws yX11_weak cX11_weak 8 (some .int)) (hp_rm 72 9 131316) (hp_PcH Γ α Hs [.ref x, .int a, .int i, .int m, .int what]) (va_Qi (fun r β => cg w_X11_weak_S α β ∧ (r = wkA f a i m what ∧ TBX β x ∧ pkp x α β)) (hp_Bz Γ Hs x) (hp_A Γ)) 9 131316 (hp_A Γ) := by
  have hm0 := hC.2.1
  have hm : (f 1).toInt = ((f 1).toInt.toNat : Int) := by omega
  obtain ⟨res, hq, hd, h1, h2⟩ := k_weakP 70000 (by decide) α x f hC hRW h14 h40 h39 a i m what
  refine n_X11_weak_N 70000 Γ l α g Hs x kx a i m what hN (f 1) (f 1).toInt.toNat hm (by omega) (by omega) (fun r β => r = wkA f a i m what ∧ TBX β x ∧ pkp x α β) res hq (wkV α hC hTB hRW a i m what hd h1) (mm_weD hRW hd.1) (fun {lg} e γ b1 p tb ib => ?_)
  obtain ⟨ok, elg, q1, q2, q3⟩ := h2 lg e
  subst elg
  obtain ⟨t, t1, t2, t3, t4⟩ := k_weakT 70000 (by decide) g kx hC (MRL_X hRW hC) hRW h14 hm a i m what ok hd.1 q1 q2 q3 p.1 p.2.2 tb ib
  exact ⟨t, t1, t2, t3, pkp_tr hd.2 (pkp_tr (pkp_kg g kx hd.1 h6 h3 p.1) t4)⟩
end WI
end JN10_2
section JN10_3
set_option maxRecDepth 100000
def fu (P : Nat → Bool) : Nat → Nat → Option Nat
  | 0, _ => none
  | d + 1, c => if P c = true then some c else fu P d (c + 1)
theorem fu_end (P : Nat → Bool) : ∀ (d c : Nat), fu P (d + 1) c = match fu P d c with
    | some v => some v
    | none => if P (c + d) = true then some (c + d) else none := by
  intro d
  induction d with
  | zero => intro c; rfl
  | succ d ih =>
    intro c
    rw [show fu P (d + 1 + 1) c = if P c = true then some c else fu P (d + 1) (c + 1) from rfl, show fu P (d + 1) c = if P c = true then some c else fu P d (c + 1) from rfl]
    by_cases q : P c = true
    · simp only [if_pos q]
    · rw [if_neg q, if_neg q, ih (c + 1), show c + 1 + d = c + (d + 1) by omega]
theorem tk_fu (P : Nat → Bool) (e : Nat) : ∀ (n : Nat) (s : Nat × Nat), n ≤ e → (¬ s.1 = 0 → n ≤ s.2) → (fu P n 0 = none → (dnL P n).foldl (tk e) s = s) ∧ ∀ v, fu P n 0 = some v → ¬ ((dnL P n).foldl (tk e) s).1 = 0 ∧ ((dnL P n).foldl (tk e) s).2 = v := by
  intro n
  induction n with
  | zero => intro s _ _; exact ⟨fun _ => rfl, fun v h => (by cases h)⟩
  | succ n ih =>
    intro s hn hs
    have e2 := fu_end P n 0
    rw [Nat.zero_add] at e2
    by_cases q : P n = true
    · have et : tk e s n = (s.1 + 1, n) := by
        unfold tk
        rw [if_neg (by omega)]
        by_cases z : s.1 = 0
        · rw [if_pos z]
        · have := hs z
          rw [if_neg z, Nat.min_eq_right (by omega)]
      have ed : dnL P (n + 1) = n :: dnL P n := by rw [dnL, if_pos q]
      rw [ed, List.foldl_cons, et]
      obtain ⟨i1, i2⟩ := ih (s.1 + 1, n) (by omega) (fun _ => Nat.le_refl _)
      cases hf : fu P n 0 with
      | some v =>
        rw [hf] at e2
        replace e2 : fu P (n + 1) 0 = some v := e2
        rw [e2]
        exact ⟨fun h => (by cases h), fun u hu => (by cases hu; exact i2 v hf)⟩
      | none =>
        rw [hf] at e2
        replace e2 : fu P (n + 1) 0 = some n := e2.trans (if_pos q)
        rw [e2]
        refine ⟨fun h => (by cases h), fun u hu => ?_⟩
        cases hu
        rw [i1 hf]
        exact ⟨by show ¬ s.1 + 1 = 0; omega, rfl⟩
    · have ed : dnL P (n + 1) = dnL P n := by rw [dnL, if_neg q]
      rw [ed]
      obtain ⟨i1, i2⟩ := ih s (by omega) (fun z => by have := hs z; omega)
      cases hf : fu P n 0 with
      | some v =>
        rw [hf] at e2
        replace e2 : fu P (n + 1) 0 = some v := e2
        rw [e2]
        exact ⟨fun h => (by cases h), fun u hu => (by cases hu; exact i2 v hf)⟩
      | none =>
        rw [hf] at e2
        replace e2 : fu P (n + 1) 0 = none := e2.trans (if_neg q)
        rw [e2]
        exact ⟨fun _ => i1 hf, fun u hu => (by cases hu)⟩
abbrev fgOK (f : Nat → Int32) (mark i m head k : Int32) : Prop := (((0 ≤ i.toInt ∧ i.toInt < m.toInt) ∧ 0 ≤ k.toInt) ∧ (0 ≤ mark.toInt ∧ mark.toInt < (f 1).toInt) ∧ 0 ≤ head.toInt ∧ head.toInt < (f 1).toInt) ∧ (f 2).toInt.toNat = (wkW i m).length ∧ k.toInt.toNat < (wkW i m).length
def fgX (f : Nat → Int32) (k v : Nat) : Nat → Int32 := fun j => if j = k then Int32.ofNat v else f (8 + j)
def fgP (f : Nat → Int32) (mark i m head k : Int32) (v : Nat) : Bool := decide (fwd (f 1) (fgX f k.toInt.toNat v) (wkW i m) 0 mark = head)
def fgV : Option Nat → Int32
  | none => -1
  | some v => Int32.ofNat v
def fgA (f : Nat → Int32) (mark i m head k : Int32) : Int32 := if fgOK f mark i m head k then fgV (fu (fgP f mark i m head k) (f 1).toInt.toNat 0) else -1
theorem v_forge_L (n : Nat) (mark iI NI head kI m : Int32) (k : Nat) (hk : kI.toInt = (k : Int)) (xs : Nat → Int32) (G : Int32 → Int32) (hG : ∀ (σ : ms_T) (x : Int32), ms_E σ 40 1 = m → (∀ j, ¬ j = k → ms_E σ 44 j = xs j) → ms_E σ 44 k = x → pr (f_X12_folded n σ mark iI NI) (fun res => res.1 = G x ∧ fr [658] [] σ res.2)) (B : Nat) (hB : m.toInt = (B : Int)) (P : Nat → Bool) (hP : ∀ v, v < B → (P v = true ↔ G (Int32.ofNat v) = head)) : ∀ (d c : Nat) (σ : ms_T) (v6 : Int32), c ≤ B → v6.toInt = (c : Int) → ms_E σ 40 1 = m → (∀ j, ¬ j = k → ms_E σ 44 j = xs j) → pr (f_X12_forge_L80 n d σ mark iI NI head kI v6) (fun res => res.1 = fgV (fu P (B - c) c)) := by
  intro d
  induction d with
  | zero => intro c σ v6 _ _ _ _; rw [f_X12_forge_L80.eq_1]; exact pr_0
  | succ d ih =>
    intro c σ v6 hc h6 h40 h44
    have cl1 : ((1 : Int32)).toNatClampNeg = 1 := by decide
    have hmb := ib_hi m
    rw [f_X12_forge_L80.eq_2, cl1, h40]
    refine pr_g (fun _ _ => pr_le (fun z => ?_) (fun z => pr_g (fun _ _ => pr_ln (fun τ hτ => ?_))))
    · rw [show B - c = 0 by omega]
      exact pr_c (v_refuse n σ 5) (fun r τ hr => pr_s hr)
    · have hcB : c < B := by omega
      have e1 : (v6 + 1).toInt = ((c + 1 : Nat) : Int) := by rw [iw_add, lt1]; omega
      have ev : v6 = Int32.ofNat c := i_ofN h6
      rw [cl_n hk] at hτ
      have g40 : ms_E τ 40 1 = m := by rw [hτ, mE_sE, if_neg (fun z => absurd z.1 (by decide))]; exact h40
      have g44 : ∀ j, ¬ j = k → ms_E τ 44 j = xs j := fun j hj => by rw [hτ, mE_sE, if_neg (fun z => hj z.2)]; exact h44 j hj
      have g4k : ms_E τ 44 k = v6 := by rw [hτ, mE_sE, if_pos ⟨rfl, rfl⟩]
      refine pr_c (hG τ v6 g40 g44 g4k) (fun r υ hr => ?_)
      obtain ⟨r1, r2⟩ := hr
      replace r1 : r = G v6 := r1
      rw [ev] at r1
      rw [show B - c = (B - (c + 1)) + 1 by omega, fu]
      refine pr_i (fun y => pr_s ?_) (fun y => pr_l ?_)
      · rw [if_pos ((hP c hcB).mpr (r1.symm.trans y))]
        exact ev
      · rw [if_neg (fun q => y (r1.trans ((hP c hcB).mp q)))]
        exact ih (c + 1) υ _ (by omega) e1 ((r2.2 40 (by decide) 1).trans g40) (fun j hj => (r2.2 44 (by decide) j).trans (g44 j hj))
theorem v_forge (n : Nat) (σ : ms_T) (hC : rC (ms_E σ 40)) (mark i m head k : Int32) : pr (f_X12_forge n σ mark i m head k) (fun res => res.1 = fgA (ms_E σ 40) mark i m head k) := by
  have h64 := hC.2.2.1
  have hm0 := hC.2.1
  have bad : ¬ fgOK (ms_E σ 40) mark i m head k → pr (f_X12_forge_J37 n σ mark i m head k 1) (fun res => res.1 = fgA (ms_E σ 40) mark i m head k) := fun hno => by
    unfold f_X12_forge_J37 fgA
    rw [if_neg hno]
    exact v_is1 n σ 1 (by decide) (pr_s rfl)
  unfold f_X12_forge f_X12_forge_J36
  refine pr_bo (v_isThing n σ i m) (fun z => bad (fun q => z q.1.1.1)) (fun z1 => pr_lt (fun e => bad (fun q => by rw [lt0] at e; have := q.1.1.2; omega)) (fun e => pr_bo (pr_w (s_isMark hC mark)) (fun z => bad (fun q => z q.1.2.1)) (fun z2 => pr_bo (pr_w (s_isMark hC head)) (fun z => bad (fun q => z q.1.2.2)) (fun z3 => ?_))))
  rw [lt0] at e
  unfold f_X12_forge_J37 f_X12_forge_J71
  refine v_is0 n σ ?_
  obtain ⟨τ0, hτ0⟩ : ∃ τ, τ = ms_sI (ms_sI σ 653 0) 652 0 := ⟨_, rfl⟩
  have e0 : ms_E τ0 40 = ms_E σ 40 := by rw [hτ0]; rfl
  rw [← hτ0]
  refine pr_b (T := fun τ => WS τ (wkW i m) ∧ fr [657] [42, 43] τ0 τ) (fun t ht => ⟨v_inclusion n τ0 i m z1.1 z1.2 t ht, v_incl_fr n τ0 i m t ht⟩) (fun σ1 hs1 => ?_)
  obtain ⟨hWS, g1⟩ := hs1
  have s1 : ms_E σ1 40 = ms_E σ 40 := by rw [show ms_E σ1 40 = ms_E τ0 40 from funext (fun j => g1.2 40 (by decide) j), e0]
  refine pr_c (v_fromPad n σ1 (by rw [s1]; exact hC)) (fun c σ2 hs2 => ?_)
  obtain ⟨p1, p2, p3⟩ := hs2
  replace p1 : c = ms_E σ1 40 2 := p1
  rw [s1] at p1 p2
  have s2 : ms_E σ2 40 = ms_E σ 40 := by rw [show ms_E σ2 40 = ms_E σ1 40 from funext (fun j => p3.2 40 (by decide) j), s1]
  have i7 : (ms_I σ2 657).toInt = ((wkW i m).length : Int) := by rw [p3.1 657 (by decide)]; exact hWS.1
  have no : ∀ υ : ms_T, ¬ fgOK (ms_E σ 40) mark i m head k → pr (ms_c (f_X12_refuse n υ (5 : Int32)) fun r ξ => some (r, ξ)) (fun res => res.1 = fgA (ms_E σ 40) mark i m head k) := fun υ hno => by
    unfold fgA
    rw [if_neg hno]
    exact pr_c (v_refuse n υ 5) (fun r ξ hr => pr_s hr)
  have hWl : (wkW i m).length = (wyT 31 i.toInt.toNat 0 m.toInt.toNat).length := by unfold wkW; rw [List.length_reverse]
  refine pr_e (fun ce => pr_lt (fun d => ?_) (fun d => no σ2 (fun q => by have := q.2.2; omega))) (fun ce => no σ2 (fun q => ce (by rw [p1, i7]; have := q.2.1; omega)))
  have cT : (ms_E σ 40 2).toInt.toNat = (wkW i m).length := by
    have := congrArg Int32.toInt ce
    rw [p1, i7] at this; omega
  have ok : fgOK (ms_E σ 40) mark i m head k := ⟨⟨⟨z1, e⟩, z2, z3⟩, cT, by omega⟩
  unfold fgA
  rw [if_pos ok]
  have hkW : k.toInt.toNat < (wkW i m).length := ok.2.2
  have vl := v_forge_L n mark i m head k (ms_E σ 40 1) k.toInt.toNat (by omega) (ms_E σ2 44) (fun x => fwd (ms_E σ 40 1) (fun j => if j = k.toInt.toNat then x else ms_E σ 40 (8 + j)) (wkW i m) 0 mark) (fun τ x q1 q2 q3 => by
    refine pr_m (v_folded n τ mark i.toInt.toNat m.toInt.toNat i m (by omega) (by omega) (by omega)) (fun res hres => ⟨?_, hres.2⟩)
    rw [hres.1, q1]
    refine fwd_c _ _ _ _ (fun j _ hj => ?_)
    by_cases ej : j = k.toInt.toNat
    · rw [if_pos ej, ej]; exact q3
    · rw [if_neg ej, q2 j ej]
      exact p2 j (by rw [cT]; unfold wkW; omega)) (ms_E σ 40 1).toInt.toNat (by omega) (fgP (ms_E σ 40) mark i m head k) (fun v _ => by
    unfold fgP fgX
    rw [decide_eq_true_iff]) n 0 σ2 0 (Nat.zero_le _) rfl (by rw [s2]) (fun j _ => rfl)
  rw [Nat.sub_zero] at vl
  exact vl
theorem fwd_r {m : Int32} (hm : 2 ≤ m.toInt) (hm2 : m.toInt ≤ 65521) (xs : Nat → Int32) (W : List (Nat × Nat × Bool)) (s : Int32) (hs : 0 ≤ s.toInt ∧ s.toInt ≤ 65521) (hx : ∀ j, j < W.length → 0 ≤ (xs j).toInt ∧ (xs j).toInt ≤ 65521) : ∀ k, k ≤ W.length → 0 ≤ (fwd m xs (W.take k) 0 s).toInt ∧ (fwd m xs (W.take k) 0 s).toInt ≤ 65521 := by
  intro k
  induction k with
  | zero => intro _; rw [List.take_zero, fwd]; exact hs
  | succ k ih =>
    intro hk
    have q := ih (by omega)
    have hkl : k < W.length := by omega
    have hxk := hx k hkl
    rw [fwd_ts m xs W s hkl]
    split
    · have := bt_r m (xs k) (fwd m xs (W.take k) 0 s) (by omega) hm2 hxk.1 (by omega) q.1 (by omega)
      omega
    · have := bt_r m (fwd m xs (W.take k) 0 s) (xs k) (by omega) hm2 q.1 (by omega) hxk.1 (by omega)
      omega
theorem fwd_gK {m : Int32} {M : Nat} (hm : m.toInt = (M : Int)) (hM : 0 < M) (hM2 : M ≤ 65521) (xs : Nat → Int32) (W : List (Nat × Nat × Bool)) (k : Nat) (hk : k < W.length) (s sf : Int32) (SF : Nat) (hsf : sf = fwd m xs (W.take k) 0 s) (hSF : sf.toInt = (SF : Int)) (ss : Nat → Bool) (kn : Nat → Nat) (hs0 : ss 0 = !(wfl W k)) (hk0 : kn 0 = SF) (hss : ∀ j, 0 < j → k + j < W.length → ss j = wfl W (k + j)) (hkn : ∀ j, 0 < j → k + j < W.length → (xs (k + j)).toInt = (kn j : Int)) (x : Int32) (X : Nat) (hx : x.toInt = (X : Int)) : ∀ j, k + (j + 1) ≤ W.length → (fwd m (fun q => if q = k then x else xs q) (W.take (k + (j + 1))) 0 s).toInt = ((gF M ss kn (j + 1) X : Nat) : Int) := by
  intro j
  induction j with
  | zero =>
    intro _
    have e : fwd m (fun q => if q = k then x else xs q) (W.take k) 0 s = sf := by
      rw [hsf]
      exact fwd_c m (W.take k) 0 s (fun q _ hq => by rw [List.length_take] at hq; rw [if_neg (by omega)])
    rw [show k + (0 + 1) = k + 1 from rfl, fwd_ts m _ W s hk, e, if_pos rfl, gF, gF, hs0, wfl_g W hk, hk0]
    by_cases c : W[k].2.2 = true
    · rw [if_pos c, c]
      exact bt_N hm hM hM2 hx hSF
    · have c2 : W[k].2.2 = false := by
        cases y : W[k].2.2 with
        | false => rfl
        | true => exact absurd y c
      rw [if_neg c, c2]
      exact bt_N hm hM hM2 hSF hx
  | succ j ih =>
    intro hj
    have q := ih (by omega)
    have hjl : k + (j + 1) < W.length := by omega
    rw [show k + (j + 1 + 1) = k + (j + 1) + 1 by omega, fwd_ts m _ W s hjl, if_neg (show ¬ k + (j + 1) = k by omega), gF, hss (j + 1) (by omega) hjl, wfl_g W hjl]
    have hkj := hkn (j + 1) (by omega) hjl
    by_cases c : W[k + (j + 1)].2.2 = true
    · rw [if_pos c, if_pos c]
      exact bt_N hm hM hM2 hkj q
    · rw [if_neg c, if_neg c]
      exact bt_N hm hM hM2 q hkj
end JN10_3
section JN10_4
set_option maxRecDepth 100000
section GK
variable {r way row M : Nat} {m : Int32} {W : List (Nat × Nat × Bool)} {XL : List Int32}
theorem k_seekStep (n : Nat) (hn : 70000 ≤ n) {γ : hp_T} (hm : m.toInt = (M : Int)) (hM : 101 ≤ M) (hM2 : M ≤ 65521) (hWC : WC γ way W) (hW60 : W.length ≤ 60) (hRW : RWL γ row XL) (hXL : W.length ≤ XL.length) (hXr : ∀ j, j < W.length → 0 ≤ (XL.getD j 0).toInt ∧ (XL.getD j 0).toInt ≤ 65521) (h252 : hp_I γ 252 r = m) (hT : TB γ r M) (sf tI kI : Int32) (k : Nat) (hk : kI.toInt = (k : Int)) (hkW : k < W.length) (SF T : Nat) (hSF : sf.toInt = (SF : Int)) (hSF2 : SF ≤ 65521) (ht : tI.toInt = (T : Int)) (hTM : T < M) : ws (f_X4_seekStep n γ r way row sf tI kI) (fun β => STN β r ((gbL M (fun j => wfl W (k + j) != decide (kI.toInt = ((k + j : Nat) : Int))) (fun j => if j = 0 then SF else (XL.getD (k + j) 0).toInt.toNat) (W.length - k) T).foldl (tk M) (0, 0)) ∧ TB β r M ∧ hp_I β 252 r = m ∧ hp_N β = hp_N γ ∧ sef γ β) := by
  unfold f_X4_seekStep f_X4_seek
  refine ws_l (ws_l (ws_l (ws_l (ws_l (ws_ln (fun β5 h5 => ?_))))))
  refine ws_b (ws_l (ws_ln (fun β7 h7 => ws_l ?_))) (fun β hβ => ws_s hβ)
  have eR : hp_R β7 253 r = way ∧ hp_R β7 254 r = row := by
    rw [h7, h5]
    constructor
    · rw [hR_sI, hR_sI, hR_sI, hR_sI, hR_sI, hR_sI, hR_sR, if_neg (fun z => absurd z.1 (by decide)), hR_sR, if_pos ⟨rfl, rfl⟩]
    · rw [hR_sI, hR_sI, hR_sI, hR_sI, hR_sI, hR_sI, hR_sR, if_pos ⟨rfl, rfl⟩]
  have eRo : ∀ φ b, φ ≠ 253 → φ ≠ 254 → hp_R β7 φ b = hp_R γ φ b := fun φ b p q => by
    rw [h7, h5, hR_sI, hR_sI, hR_sI, hR_sI, hR_sI, hR_sI, hR_sR, if_neg (fun z => q z.1), hR_sR, if_neg (fun z => p z.1)]
  have eI : ∀ φ b, (φ < 255 ∨ 260 < φ) → hp_I β7 φ b = hp_I γ φ b := fun φ b p => by
    rw [h7, h5, hI_sI, if_neg (fun z => by omega), hI_sI, if_neg (fun z => by omega), hI_sI, if_neg (fun z => by omega), hI_sI, if_neg (fun z => by omega), hI_sI, if_neg (fun z => by omega), hI_sI, if_neg (fun z => by omega), hI_sR, hI_sR]
  have eE : hp_E β7 = hp_E γ := by rw [h7, h5]; rfl
  have eN : hp_N β7 = hp_N γ := by rw [h7, h5]; rfl
  have eK : hp_K β7 = hp_K γ := by rw [h7, h5]; rfl
  have i255 : hp_I β7 255 r = kI := by rw [h7, h5, hI_sI, if_neg (fun z => absurd z.1 (by decide)), hI_sI, if_neg (fun z => absurd z.1 (by decide)), hI_sI, if_neg (fun z => absurd z.1 (by decide)), hI_sI, if_neg (fun z => absurd z.1 (by decide)), hI_sI, if_neg (fun z => absurd z.1 (by decide)), hI_sI, if_pos ⟨rfl, rfl⟩]
  have i256 : hp_I β7 256 r = kI := by rw [h7, h5, hI_sI, if_neg (fun z => absurd z.1 (by decide)), hI_sI, if_neg (fun z => absurd z.1 (by decide)), hI_sI, if_neg (fun z => absurd z.1 (by decide)), hI_sI, if_neg (fun z => absurd z.1 (by decide)), hI_sI, if_pos ⟨rfl, rfl⟩]
  have i257 : hp_I β7 257 r = sf := by rw [h7, h5, hI_sI, if_neg (fun z => absurd z.1 (by decide)), hI_sI, if_neg (fun z => absurd z.1 (by decide)), hI_sI, if_neg (fun z => absurd z.1 (by decide)), hI_sI, if_pos ⟨rfl, rfl⟩]
  have i258 : hp_I β7 258 r = -1 := by rw [h7, h5, hI_sI, if_neg (fun z => absurd z.1 (by decide)), hI_sI, if_neg (fun z => absurd z.1 (by decide)), hI_sI, if_pos ⟨rfl, rfl⟩]
  have i259 : hp_I β7 259 r = 0 := by rw [h7, hI_sI, if_neg (fun z => absurd z.1 (by decide)), hI_sI, if_pos ⟨rfl, rfl⟩]
  have i260 : hp_I β7 260 r = 0 := by rw [h7, hI_sI, if_pos ⟨rfl, rfl⟩]
  have i252 : hp_I β7 252 r = m := (eI 252 r (by omega)).trans h252
  have hWC7 : WC β7 way W := ⟨by rw [eI 453 way (by omega)]; exact hWC.1, fun k q hq => by rw [eRo 450 way (by decide) (by decide), eRo 451 way (by decide) (by decide), eRo 452 way (by decide) (by decide), eE]; exact hWC.2 k q hq⟩
  have hRW7 : RWL β7 row XL := ⟨hRW.1, by rw [eI 301 row (by omega)]; exact hRW.2.1, fun k hk => by rw [eRo 300 row (by decide) (by decide), eE]; exact hRW.2.2 k hk⟩
  have hT7 : TB β7 r M := by
    unfold TB at hT ⊢
    rw [eRo 250 r (by decide) (by decide), eRo 251 r (by decide) (by decide), eE]
    exact hT
  rw [i252]
  refine ws_le (fun c => by rw [lt0] at c; omega) (fun _ => ws_l (ws_l ?_))
  rw [eR.1]
  have h453 := hWC7.1
  have tm1 : (-1 : Int32).toInt = -1 := by decide
  have hlen := gb_len (M := M) (by omega) (fun j => wfl W (k + j) != decide (kI.toInt = ((k + j : Nat) : Int))) (fun j => if j = 0 then SF else (XL.getD (k + j) 0).toInt.toNat) (W.length - k) hTM
  refine ws_b (k_goBack (lo := k) (e := M) (W := W) (XL := XL) (ss := fun j => wfl W (k + j) != decide (kI.toInt = ((k + j : Nat) : Int))) (kn := fun j => if j = 0 then SF else (XL.getD (k + j) 0).toInt.toNat) n hn hm (by omega) hM2 (lastI := kI) (openI := kI) (kw := sf) (ex := -1) hk (by omega) hXL (fun a A ha hA => ⟨fun q => by rw [q, tm1] at ha; omega, fun q => by omega⟩) (fun j hj => rfl) (fun j hj q => ?_) (fun j hj q => ?_) (fun j hj => ?_) 64 (W.length - k) β7 _ tI T (0, 0) (by omega) (by omega) (by rw [iw_sub, lt1]; omega) ht hTM ⟨i252, i255, i256, i257, i258, eR.1, eR.2, hWC7, hRW7, hT7⟩ ⟨by rw [i259]; rfl, by rw [i260]; rfl⟩ (by omega)) (fun β hβ => ws_s ?_)
  · have j0 : j = 0 := by omega
    show sf.toInt = ((if j = 0 then SF else (XL.getD (k + j) 0).toInt.toNat : Nat) : Int)
    rw [if_pos j0]; exact hSF
  · have j0 : ¬ j = 0 := fun z => q (by rw [z, hk, Nat.add_zero])
    have := hXr (k + j) hj
    show _ = ((if j = 0 then SF else (XL.getD (k + j) 0).toInt.toNat : Nat) : Int)
    rw [if_neg j0]; omega
  · have := hXr (k + j) hj
    show (if j = 0 then SF else (XL.getD (k + j) 0).toInt.toNat) ≤ 65521
    split
    · exact hSF2
    · omega
  obtain ⟨⟨f1, f2, f3, f4⟩, hS⟩ := hβ
  refine ⟨hS, ?_, by rw [f4 252 r (by omega)]; exact i252, f2.2.trans eN, ⟨fun φ b p q => by rw [f1]; exact eRo φ b p q, f2.1.trans eK, f2.2.trans eN, f3.trans eE, fun φ b p => by rw [f4 φ b (by omega)]; exact eI φ b p⟩⟩
  unfold TB at hT7 ⊢
  rw [f1, f3]; exact hT7
end GK
theorem k_forgePV (n : Nat) (hn : 70000 ≤ n) (α : hp_T) (x : Nat) (f : Nat → Int32) (hC : rC f) (h : RWX α x f) (h6 : hp_R α 603 x = x + 919) (hP : RWL α (x + 919) (pdl f)) (mark i m head k : Int32) : ws (f_X11_forge_P n α x mark i m head k) (fun res => (weD x α res.2.2 ∧ pkp x α res.2.2) ∧ (res.1 = none → ¬ fgOK f mark i m head k ∧ res.2.1 = -1) ∧ ∀ lg, res.1 = some lg → fgOK f mark i m head k ∧ WC res.2.2 (hp_R α 612 x) (wkW i m) ∧ RWL res.2.2 (x + 919) (pdl f)) := by
  obtain ⟨w, u, h1, h2, -, h4, -⟩ := h
  have bad : ∀ (β : hp_T) (v : Int32), (weD x α β ∧ pkp x α β) → ¬ fgOK f mark i m head k → ws (hq_c (f_X11_refuse n β x v) fun r γ => some ((none : Option Nat), r, γ)) (fun res => (weD x α res.2.2 ∧ pkp x α res.2.2) ∧ (res.1 = none → ¬ fgOK f mark i m head k ∧ res.2.1 = -1) ∧ ∀ lg, res.1 = some lg → fgOK f mark i m head k ∧ WC res.2.2 (hp_R α 612 x) (wkW i m) ∧ RWL res.2.2 (x + 919) (pdl f)) := fun β v hd hno =>
    ws_hc (k_refuse n β x v) (fun z γ hz => ws_s ⟨by rw [show γ = hp_sI β 600 x v from hz.2]; exact ⟨weD_tr hd.1 weD_st, pkp_tr hd.2 pkp_st⟩, fun _ => ⟨hno, hz.1⟩, fun lg q => (by cases q)⟩)
  unfold f_X11_forge_P f_X11_forge_P_J30 f_X11_forge_P_J74
  refine ws_bo (k_isThing n i m) (fun z => bad α 1 ⟨weD_rf, pkp_rf⟩ (fun q => z q.1.1.1)) (fun z1 => ws_lt (fun e => bad α 1 ⟨weD_rf, pkp_rf⟩ (fun q => by rw [lt0] at e; have := q.1.1.2; omega)) (fun e => ws_bo (k_isMark n h1 h4.2.1.1 mark) (fun z => bad α 1 ⟨weD_rf, pkp_rf⟩ (fun q => z q.1.2.1)) (fun z2 => ws_bo (k_isMark n h1 h4.2.1.1 head) (fun z => bad α 1 ⟨weD_rf, pkp_rf⟩ (fun q => z q.1.2.2)) (fun z3 => ws_l ?_))))
  rw [lt0] at e
  refine ws_b (k_toThing n hn α _ i m z1.1 z1.2) (fun β hβ => ws_l (ws_l (ws_l (ws_l ?_))))
  obtain ⟨hWC, hwf⟩ := hβ
  have hP2 := RWL_wf hP hwf
  rw [hwf.1, h6]
  have e301 := hP2.2.1
  have e453 := hWC.1
  rw [pdl_len] at e301
  have hWl : (wkW i m).length = (wyT 31 i.toInt.toNat 0 m.toInt.toNat).reverse.length := rfl
  refine ws_e (fun c => ws_l (ws_l (ws_lt (fun d => ?_) (fun d => bad β 5 ⟨weD_wf hwf, pkp_wf hwf⟩ (fun q => by have q1 := q.2.1; have q2 := q.2.2; omega))))) (fun c => bad β 5 ⟨weD_wf hwf, pkp_wf hwf⟩ (fun q => c (by rw [e301, e453]; have := q.2.1; omega)))
  have cI := congrArg Int32.toInt c
  rw [e301, e453] at cI
  exact ws_s ⟨⟨weD_wf hwf, pkp_wf hwf⟩, fun q => (by cases q), fun lg _ => ⟨⟨⟨⟨z1, e⟩, z2, z3⟩, by omega, by omega⟩, hWC, hP2⟩⟩
section FK
variable {α δ γ : hp_T} {x b1 M : Nat} {f : Nat → Int32}
theorem k_forgeTV (n : Nat) (hn : 70000 ≤ n) (g : GC α) (kx : hp_K α x = 12) (hC : rC f) (hPM : ∀ v ∈ pdl f, 0 ≤ v.toInt ∧ v.toInt ≤ 65521) (h : RWX α x f) (h6 : hp_R α 603 x = x + 919) (hm : (f 1).toInt = (M : Int)) (mark i m head kI : Int32) (ok : fgOK f mark i m head kI) (d : weD x α δ) (hWC : WC δ (hp_R α 612 x) (wkW i m)) (hL : RWL δ (x + 919) (pdl f)) (c : cg w_X4_prepare δ γ) (hN : hp_N γ 618 x = some b1) (hT : TB γ b1 M) (h252 : hp_I γ 252 b1 = f 1) : ∃ t : Int32 × hp_T, f_X11_forge_T n γ x mark head kI b1 = some t ∧ (t.1 = fgA f mark i m head kI ∧ TBX t.2 x ∧ pkp x γ t.2) := by
  obtain ⟨w, u, h1, h2, -, h4, -⟩ := h
  have hm0 := hC.2.1
  obtain ⟨⟨⟨z1, ze⟩, z2, z3⟩, zl, zk⟩ := id ok
  obtain ⟨k, hk⟩ : ∃ k, k = kI.toInt.toNat := ⟨_, rfl⟩
  have hkI : kI.toInt = (k : Int) := by omega
  rw [← hk] at zk
  have hXl : (pdl f).length = (wkW i m).length := by rw [pdl_len]; exact zl
  have kw : hp_K α w = 11 := gkR g kx h1 rfl (by decide) (by decide)
  have kwy : hp_K α (hp_R α 612 x) = 9 := gkR g kx rfl rfl (by decide) (by decide)
  have krow : hp_K α (x + 919) = 6 := gkR g kx h6 rfl (by decide) (by decide)
  obtain ⟨x1, x2, -⟩ := kg_cg g d c kx (by decide)
  obtain ⟨w1, w2, -⟩ := kg_cg g d c kw (by decide)
  have hWCγ := WC_kg g d c kwy hWC
  have hLγ := RWL_kg g d c krow hL
  have h550 : hp_I γ 550 w = f 1 := by rw [w2 550 (by decide), d.2.2.2.1 550 w (by decide) (by decide) (by decide) (by decide)]; exact h4.2.1.1
  have hW31 : (wkW i m).length ≤ 31 := by unfold wkW; rw [List.length_reverse]; exact wyT_len _ _ _ _
  have hXr : ∀ j, j < (wkW i m).length → 0 ≤ ((pdl f).getD j 0).toInt ∧ ((pdl f).getD j 0).toInt ≤ 65521 := fun j hj => by
    have hj2 : j < (pdl f).length := by omega
    rw [List.getD_eq_getElem?_getD, List.getElem?_eq_getElem hj2]
    exact hPM _ (List.getElem_mem hj2)
  have hXe : ∀ j, j < (wkW i m).length → (pdl f).getD j 0 = f (8 + j) := fun j hj => pdl_gD f (by omega)
  unfold f_X11_forge_T
  refine ws_l (ws_l (ws_l (ws_l (ws_l (ws_l ?_)))))
  rw [x1 612, x1 603, x1 601, h6, h1, h550]
  refine ws_b (k_folded n hn γ _ (x + 919) (wkW i m) hWCγ (by omega) (pdl f) hLγ (f 1) (by omega) k kI hkI (by omega) (by omega) mark) (fun sf hsf => ?_)
  have hsr := fwd_r (m := f 1) (by omega) (by omega) (fun j => (pdl f).getD j 0) (wkW i m) mark ⟨z2.1, by omega⟩ hXr k (by omega)
  rw [← hsf] at hsr
  have hsf2 : sf = fwd (f 1) (fun j => f (8 + j)) ((wkW i m).take k) 0 mark := by
    rw [hsf]
    exact fwd_c (f 1) ((wkW i m).take k) 0 mark (fun j _ hj => by rw [List.length_take] at hj; exact hXe j (by omega))
  refine ws_b (k_seekStep (M := M) (m := f 1) n hn hm (by omega) (by omega) hWCγ (by omega) hLγ (by omega) hXr h252 hT sf head kI k hkI zk sf.toInt.toNat head.toInt.toNat (by omega) (by omega) (by omega) (by omega)) (fun β hβ => ws_l ?_)
  obtain ⟨hS, hTβ, hIβ, hNβ, e1, -, -, e4, e5⟩ := hβ
  have pk : pkp x γ β := ⟨e5 301 _ (by omega), e1 300 _ (by decide) (by decide), fun j => by rw [e4]⟩
  have hNb : hp_N β 618 x = some b1 := by rw [hNβ]; exact hN
  have eM : (f 1).toInt.toNat = M := by omega
  have fold := gb_fold (M := M) (by omega) (fun j => wfl (wkW i m) (k + j) != decide (kI.toInt = ((k + j : Nat) : Int))) (fun j => if j = 0 then sf.toInt.toNat else ((pdl f).getD (k + j) 0).toInt.toNat) ((wkW i m).length - k) M head.toInt.toNat (by omega) (fgP f mark i m head kI) (fun v hv => by
    obtain ⟨J, hJ⟩ : ∃ J, (wkW i m).length - k = J + 1 := ⟨(wkW i m).length - k - 1, by omega⟩
    have q := fwd_gK (M := M) hm (by omega) (by omega) (fun j => f (8 + j)) (wkW i m) k zk mark sf sf.toInt.toNat hsf2 (by omega) (fun j => wfl (wkW i m) (k + j) != decide (kI.toInt = ((k + j : Nat) : Int))) (fun j => if j = 0 then sf.toInt.toNat else ((pdl f).getD (k + j) 0).toInt.toNat) (by
        show (wfl (wkW i m) (k + 0) != decide (kI.toInt = ((k + 0 : Nat) : Int))) = _
        rw [Nat.add_zero, decide_eq_true hkI]
        cases wfl (wkW i m) k <;> rfl) rfl (fun j j0 _ => by
        show (wfl (wkW i m) (k + j) != decide (kI.toInt = ((k + j : Nat) : Int))) = _
        rw [decide_eq_false (by omega)]
        cases wfl (wkW i m) (k + j) <;> rfl) (fun j j0 hj => by
        have := hXr (k + j) hj
        show (f (8 + (k + j))).toInt = ((if j = 0 then sf.toInt.toNat else ((pdl f).getD (k + j) 0).toInt.toNat : Nat) : Int)
        rw [if_neg (by omega), ← hXe (k + j) hj]; omega) (Int32.ofNat v) v (by rw [Int32.toInt_ofNat_of_lt (by omega)]) J (by omega)
    rw [show k + (J + 1) = (wkW i m).length by omega, List.take_length] at q
    rw [hJ]
    unfold fgP fgX
    rw [decide_eq_true_iff, ← hk]
    constructor
    · intro z
      rw [z] at q; omega
    · intro z
      exact Int32.toInt_inj.mp (by rw [q, z]; omega)) (0, 0)
  rw [fold] at hS
  obtain ⟨s1, s2⟩ := hS
  obtain ⟨t1, t2⟩ := tk_fu (fgP f mark i m head kI) M M (0, 0) (Nat.le_refl _) (fun z => absurd rfl z)
  unfold fgA
  rw [if_pos ok, eM]
  cases hf : fu (fgP f mark i m head kI) M 0 with
  | none =>
    rw [t1 hf] at s1
    refine ws_i (fun z0 => ws_hc (k_refuse n β x 5) (fun z ε hz => ws_s ⟨hz.1, ?_⟩)) (fun z0 => absurd (Int32.toInt_inj.mp (by rw [s1]; rfl)) z0)
    rw [show ε = hp_sI β 600 x 5 from hz.2]; exact ⟨TBX_1 hm hNb hIβ (TB_st hTβ), pkp_tr pk pkp_st⟩
  | some v =>
    obtain ⟨u1, u2⟩ := t2 v hf
    rw [u2] at s2
    refine ws_i (fun z0 => absurd (by rw [z0, lt0] at s1; omega) u1) (fun z0 => ws_l (ws_hc (k_answer n β x _) (fun z ε hz => ws_s ⟨?_, ?_⟩)))
    · show z = Int32.ofNat v
      rw [show z = hp_I β 260 b1 from hz.1]; exact i_ofN s2
    · rw [show ε = hp_sI β 600 x 0 from hz.2]; exact ⟨TBX_1 hm hNb hIβ (TB_st hTβ), pkp_tr pk pkp_st⟩
end FK
section FI
variable {x : Nat} {f : Nat → Int32}
theorem fgV0 (α : hp_T) (hTB : TBX α x) (mark i m head k : Int32) {res : Option Nat × Int32 × hp_T} (hd : weD x α res.2.2 ∧ pkp x α res.2.2) (h1 : res.1 = none → ¬ fgOK f mark i m head k ∧ res.2.1 = -1) : res.1 = none → (res.2.1 = fgA f mark i m head k ∧ TBX res.2.2 x ∧ pkp x α res.2.2) := fun e => by
  obtain ⟨no, q⟩ := h1 e
  refine ⟨?_, TBX_weD hTB hd.1, hd.2⟩
  unfold fgA
  rw [if_neg no]; exact q
theorem w_forge_SV (Γ : hp_G) (l : Launch) (α : hp_T) (g : GC α) (kx : hp_K α x = 12) (b0 : Nat) (hN : hp_N α 618 x = some b0) (hC : rC f) (hPM : ∀ v ∈ pdl f, 0 ≤ v.toInt ∧ v.toInt ≤ 65521) (hRW : RWX α x f) (h6 : hp_R α 603 x = x + 919) (h3 : hp_R α 300 (x + 919) = x + 920) (hP : RWL α (x + 919) (pdl f)) (hTB : TBX α x) (mark i m head k : Int32) : Met l yX11_forge (hp_ws yX11_forge cX11_forge 7 (some .int)) (hp_rm 72 0 0) (hp_Pc Γ α [.ref x, .int mark, .int i, .int m, .int head, .int k]) (hp_Qi Γ (fun r β => cw w_X11_forge_S α β ∧ (r = fgA f mark i m head k ∧ TBX β x ∧ pkp x α β))) 0 0 (hp_A Γ) := by
  have hm0 := hC.2.1
  have hm : (f 1).toInt = ((f 1).toInt.toNat : Int) := by omega
  obtain ⟨res, hq, hd, h1, h2⟩ := k_forgePV 70000 (by decide) α x f hC hRW h6 hP mark i m head k
  refine n_X11_forge_S 70000 Γ l α g x kx mark i m head k b0 hN (f 1) (f 1).toInt.toNat hm (by omega) (by omega) (fun r β => r = fgA f mark i m head k ∧ TBX β x ∧ pkp x α β) res hq (fgV0 α hTB mark i m head k hd h1) (mm_weD hRW hd.1) (tb_weD hTB hN hm (by omega) (by omega) hd.1) (fun {lg} e γ b1 p tb ib => ?_)
  obtain ⟨ok, c4, c5⟩ := h2 lg e
  obtain ⟨t, t1, t2, t3, t4⟩ := k_forgeTV 70000 (by decide) g kx hC hPM hRW h6 hm mark i m head k ok hd.1 c4 c5 p.1 p.2.2 tb ib
  exact ⟨t, t1, t2, t3, pkp_tr hd.2 (pkp_tr (pkp_kg g kx hd.1 h6 h3 p.1) t4)⟩
theorem w_forge_NV (Γ : hp_G) (l : Launch) (α : hp_T) (g : GC α) (Hs : Heap) (kx : hp_K α x = 12) (hN : hp_N α 618 x = none) (hC : rC f) (hPM : ∀ v ∈ pdl f, 0 ≤ v.toInt ∧ v.toInt ≤ 65521) (hRW : RWX α x f) (h6 : hp_R α 603 x = x + 919) (h3 : hp_R α 300 (x + 919) = x + 920) (hP : RWL α (x + 919) (pdl f)) (hTB : TBX α x) (mark i m head k : Int32) : Met l yX11_forge (hp_ws yX11_forge cX11_forge 7 (some .int)) (hp_rm 72 9 131316) (hp_PcH Γ α Hs [.ref x, .int mark, .int i, .int m, .int head, .int k]) (va_Qi (fun r β => cg w_X11_forge_S α β ∧ (r = fgA f mark i m head k ∧ TBX β x ∧ pkp x α β)) (hp_Bz Γ Hs x) (hp_A Γ)) 9 131316 (hp_A Γ) := by
  have hm0 := hC.2.1
  have hm : (f 1).toInt = ((f 1).toInt.toNat : Int) := by omega
  obtain ⟨res, hq, hd, h1, h2⟩ := k_forgePV 70000 (by decide) α x f hC hRW h6 hP mark i m head k
  refine n_X11_forge_N 70000 Γ l α g Hs x kx mark i m head k hN (f 1) (f 1).toInt.toNat hm (by omega) (by omega) (fun r β => r = fgA f mark i m head k ∧ TBX β x ∧ pkp x α β) res hq (fgV0 α hTB mark i m head k hd h1) (mm_weD hRW hd.1) (fun {lg} e γ b1 p tb ib => ?_)
  obtain ⟨ok, c4, c5⟩ := h2 lg e
  obtain ⟨t, t1, t2, t3, t4⟩ := k_forgeTV 70000 (by decide) g kx hC hPM hRW h6 hm mark i m head k ok hd.1 c4 c5 p.1 p.2.2 tb ib
  exact ⟨t, t1, t2, t3, pkp_tr hd.2 (pkp_tr (pkp_kg g kx hd.1 h6 h3 p.1) t4)⟩
end FI
end JN10_4
section JN10_5
set_option maxRecDepth 100000
def pmL (l : List Int32) : Prop := ∀ v ∈ l, 0 ≤ v.toInt ∧ v.toInt ≤ 65521
def PM (f : Nat → Int32) : Prop := pmL (pdl f)
theorem pm_0 : pmL [] := fun v hv => absurd hv List.not_mem_nil
theorem TBX_0 {α : hp_T} {x : Nat} (h : hp_N α 618 x = none) : TBX α x := fun b hb => by rw [h] at hb; cases hb
theorem PM_0 (σ : ms_T) (hσ : ms_i0 σ) : PM (ms_E σ 40) := by
  obtain ⟨-, -, -, -, s5⟩ := hσ
  have e2 : ms_E σ 40 2 = 0 := s5 2 (by omega) (by omega)
  have e : pdl (ms_E σ 40) = [] := by
    unfold pdl
    rw [e2]; rfl
  unfold PM
  rw [e]; exact pm_0
theorem wap_e {α β : hp_T} {x : Nat} (h : wap α x) (e : ∀ φ b, φ = 612 ∨ φ = 613 ∨ φ = 450 ∨ φ = 451 ∨ φ = 452 → b = x ∨ b = x + 931 ∨ b = x + 935 → hp_R β φ b = hp_R α φ b) : wap β x := by
  obtain ⟨h1, h2, h3, h4, h5, h6, h7, h8⟩ := h
  refine ⟨?_, ?_, ?_, ?_, ?_, ?_, ?_, ?_⟩
  · rw [e 612 x (by decide) (Or.inl rfl)]; exact h1
  · rw [e 613 x (by decide) (Or.inl rfl)]; exact h2
  · rw [e 450 _ (by decide) (Or.inr (Or.inl rfl))]; exact h3
  · rw [e 451 _ (by decide) (Or.inr (Or.inl rfl))]; exact h4
  · rw [e 452 _ (by decide) (Or.inr (Or.inl rfl))]; exact h5
  · rw [e 450 _ (by decide) (Or.inr (Or.inr rfl))]; exact h6
  · rw [e 451 _ (by decide) (Or.inr (Or.inr rfl))]; exact h7
  · rw [e 452 _ (by decide) (Or.inr (Or.inr rfl))]; exact h8
theorem wap_C {α β : hp_T} {x : Nat} (h : wap α x) (h1 : hp_K α (x + 931) = 9) (h2 : hp_K α (x + 935) = 9) (hk : hp_K α x = 12) (c : ∀ q, hp_K α q ≠ 0 → saC α β q) : wap β x := by
  have c1 := c x (by rw [hk]; decide)
  have c2 := c (x + 931) (by rw [h1]; decide)
  have c3 := c (x + 935) (by rw [h2]; decide)
  refine wap_e h (fun φ b hφ hb => ?_)
  rcases hb with rfl | rfl | rfl
  · exact c1.2.2.1 φ
  · exact c2.2.2.1 φ
  · exact c3.2.2.1 φ
theorem k_status (n : Nat) (α : hp_T) (x : Nat) : ws (f_X11_status n α x) (fun res => res = hp_I α 600 x) := by
  unfold f_X11_status
  exact ws_s rfl
theorem v_status (n : Nat) (σ : ms_T) : pr (f_X12_status n σ) (fun res => res.1 = ms_I σ 652) := by
  unfold f_X12_status
  exact pr_l (pr_s rfl)
end JN10_5
section JN10_6
set_option maxRecDepth 100000
def CX_co (α : hp_T) (x : Nat) (σ : ms_T) : Prop := ∃ T, TDS σ T ∧ TDC α x T
theorem CX_0_co (α : hp_T) (x : Nat) (σ : ms_T) (hσ : ms_i0 σ) (_ : XSH (F_X11_init α (x + 1) x) x) : CX_co (F_X11_init α (x + 1) x) x σ := by
  obtain ⟨s1, -⟩ := hσ
  refine ⟨[], ⟨by rw [s1 697, if_neg (by decide)]; rfl, fun k hk => absurd hk (by simp)⟩, ⟨?_, by decide, fun k hk => absurd hk (by simp)⟩⟩
  rw [fd_X11_611 α (x + 1) x (by omega)]; rfl
theorem CX_f {α β : hp_T} {x : Nat} {σ : ms_T} (h : CX_co α x σ) (e1 : hp_I β 611 x = hp_I α 611 x) (e2 : hp_R β 610 x = hp_R α 610 x) (e3 : ∀ j, hp_E β 25 (hp_R α 610 x) j = hp_E α 25 (hp_R α 610 x) j) : CX_co β x σ := by
  obtain ⟨T, h1, h2, h3, h4⟩ := h
  exact ⟨T, h1, by rw [e1]; exact h2, h3, fun k hk => by rw [e2, e3]; exact h4 k hk⟩
theorem CX_C_co {α β : hp_T} {x : Nat} {σ : ms_T} (g : GC α) (hk : hp_K α x = 12) (_ : XSH α x) (h : CX_co α x σ) (c : ∀ q, hp_K α q ≠ 0 → saC α β q) : CX_co β x σ := by
  have k25 : hp_K α (hp_R α 610 x) = 25 := gkr g hk (by decide) (by decide)
  have c1 := c x (nz hk (by decide))
  have c2 := c (hp_R α 610 x) (nz k25 (by decide))
  exact CX_f h (c1.2.1 611 (by decide)) (c1.2.2.1 610) (fun j => c2.2.2.2.2.1 25 j (by decide))
def ouA (T : List Int32) (i : Int32) : Int32 := if 0 ≤ i.toInt ∧ i.toInt < (T.length : Int) then T.getD i.toInt.toNat 0 else -1
theorem gD_some {T : List Int32} {k : Nat} {v : Int32} (h : some v = T[k]?) : T.getD k 0 = v := by
  rw [List.getD_eq_getElem?_getD, ← h]; rfl
theorem v_out (n : Nat) (σ : ms_T) {T : List Int32} (hT : TDS σ T) (i : Int32) : pr (f_X12_out n σ i) (fun res => res.1 = ouA T i) := by
  have bad : ∀ v : Int32, ¬ v = 0 → ¬ (0 ≤ i.toInt ∧ i.toInt < (T.length : Int)) → pr (f_X12_out_J22 n σ i v) (fun res => res.1 = ouA T i) := fun v hv no => by
    unfold f_X12_out_J22 ouA
    rw [if_neg no]
    exact v_is1 n σ v hv (pr_s rfl)
  have h1 := hT.1
  unfold f_X12_out
  refine pr_le (fun c => pr_lt (fun c1 => ?_) (fun c1 => bad 5 (by decide) (fun q => by omega))) (fun c => bad 1 (by decide) (fun q => by rw [lt0] at c; omega))
  rw [lt0] at c
  unfold f_X12_out_J22 ouA
  rw [if_pos ⟨c, by omega⟩]
  refine v_is0 n σ (pr_g (fun _ _ => pr_s ?_))
  have e : i.toNatClampNeg = i.toInt.toNat := cl_n (by omega)
  rw [e]
  exact (gD_some (hT.2 i.toInt.toNat (by omega))).symm
theorem k_out (n : Nat) (α : hp_T) (x : Nat) {T : List Int32} (hT : TDC α x T) (i : Int32) : ws (f_X11_out n α x i) (fun res => res.1 = ouA T i) := by
  have t256 : (256 : Int32).toInt = 256 := by decide
  obtain ⟨h1, h2, h3⟩ := hT
  have bad : ∀ v : Int32, ¬ (0 ≤ i.toInt ∧ i.toInt < (T.length : Int)) → ws (hq_c (f_X11_refuse n α x v) fun r β => some (r, β)) (fun res => res.1 = ouA T i) := fun v no => by
    unfold ouA
    rw [if_neg no]
    exact ws_hc (k_refuse n α x v) (fun z γ hz => ws_s hz.1)
  unfold f_X11_out f_X11_out_J40
  refine ws_le (fun c => ws_l (ws_le (fun c1 => bad 5 (fun q => by omega)) (fun c1 => ws_l (ws_le (fun c2 => by rw [t256] at c2; omega) (fun c2 => ?_))))) (fun c => bad 1 (fun q => by rw [lt0] at c; omega))
  rw [lt0] at c
  rw [t256] at c2
  refine ws_l (ws_g c (by omega) (ws_hc (k_answer n α x _) (fun z γ hz => ws_s ?_)))
  have e : i.toNatClampNeg = i.toInt.toNat := cl_n (by omega)
  unfold ouA
  rw [if_pos ⟨c, by omega⟩, gD_some (h3 i.toInt.toNat (by omega)), ← e]
  exact hz.1
end JN10_6
section JN10_7
set_option maxRecDepth 100000
def hrA (l : List Int32) (k : Int32) : Int32 := if 0 ≤ k.toInt ∧ k.toInt < (l.length : Int) then l.getD k.toInt.toNat 0 else -1
theorem hdl_len (σ : ms_T) : (hdl σ).length = (ms_I σ 682).toInt.toNat := by
  unfold hdl
  rw [List.length_map, List.length_range]
theorem hdl_at (σ : ms_T) {j : Nat} (h : j < (hdl σ).length) : (hdl σ).getD j 0 = ms_E σ 49 j := by
  rw [List.getD_eq_getElem?_getD, List.getElem?_eq_getElem h]
  simp [hdl]
theorem v_heard (n : Nat) (σ : ms_T) (k : Int32) : pr (f_X12_heard n σ k) (fun res => res.1 = hrA (hdl σ) k) := by
  have hl := hdl_len σ
  have bad : ∀ v : Int32, ¬ v = 0 → ¬ (0 ≤ k.toInt ∧ k.toInt < ((hdl σ).length : Int)) → pr (f_X12_heard_J22 n σ k v) (fun res => res.1 = hrA (hdl σ) k) := fun v hv hno => by
    unfold f_X12_heard_J22 hrA
    rw [if_neg hno]
    exact v_is1 n σ v hv (pr_s rfl)
  unfold f_X12_heard
  refine pr_le (fun e => pr_lt (fun e2 => ?_) (fun e2 => bad 5 (by decide) (fun q => by rw [hl] at q; rw [lt0] at e; have := q.2; omega))) (fun e => bad 1 (by decide) (fun q => by rw [lt0] at e; have := q.1; omega))
  rw [lt0] at e
  have hj : k.toInt.toNat < (hdl σ).length := by omega
  unfold f_X12_heard_J22
  refine v_is0 n σ (pr_g (fun _ _ => pr_s ?_))
  show ms_E σ 49 k.toNatClampNeg = _
  unfold hrA
  rw [if_pos ⟨e, by omega⟩, hdl_at σ hj, cl_n (i := k) (k := k.toInt.toNat) (by omega)]
theorem k_heard (n : Nat) (α : hp_T) (x : Nat) (l : List Int32) (hP : RWL α (hp_R α 608 x) l) (k : Int32) : ws (f_X11_heard n α x k) (fun res => res.1 = hrA l k) := by
  have hl := hP.2.1
  have bad : ∀ v : Int32, ¬ (0 ≤ k.toInt ∧ k.toInt < (l.length : Int)) → ws (hq_c (f_X11_refuse n α x v) fun r β => some (r, β)) (fun res => res.1 = hrA l k) := fun v hno => by
    unfold hrA
    rw [if_neg hno]
    exact ws_hc (k_refuse n α x v) (fun z γ hz => ws_s hz.1)
  unfold f_X11_heard
  refine ws_le (fun e => ws_l (ws_l ?_)) (fun e => bad 1 (fun q => by rw [lt0] at e; have := q.1; omega))
  rw [lt0] at e
  refine ws_lt (fun e2 => ws_l ?_) (fun e2 => bad 5 (fun q => by have := q.2; omega))
  refine ws_b (k_rat n hP k.toInt.toNat (by omega) k (by omega)) (fun r hr => ws_hc (k_answer n α x r) (fun z γ hz => ws_s ?_))
  unfold hrA
  rw [if_pos ⟨e, by omega⟩, show z = r from hz.1, hr]
end JN10_7
section JN10_8
set_option maxRecDepth 100000
def CX_hx (α : hp_T) (x : Nat) (σ : ms_T) : Prop := CZ α x σ ∧ PRX α x ∧ HDX α x σ
theorem HDX_0 (α : hp_T) (x : Nat) (σ : ms_T) (hσ : ms_i0 σ) : HDX (F_X11_init α (x + 1) x) x σ := by
  obtain ⟨s1, -⟩ := hσ
  have e : hdl σ = [] := by
    unfold hdl
    rw [s1 682, if_neg (by decide)]; rfl
  have r := tl_X11_21 α (x + 1) x (x + 926) (by omega) (by omega)
  have f : hp_I (F_X5_init (F_X11_init_20 α (x + 1) x) (x + 1 + 926) (x + 1 + 925)) 301 (x + 1 + 925) = _ := fd_X5_301 _ _ _ (by omega)
  have z : hp_I (F_X11_init α (x + 1) x) 301 (x + 926) = 0 := by
    rw [r.2.1 301, show x + 926 = x + 1 + 925 by omega]
    exact f
  unfold HDX
  rw [e, show hp_R (F_X11_init α (x + 1) x) 608 x = x + 926 by rw [fd_X11_608 α (x + 1) x (by omega)]]
  exact ⟨by simp, by rw [z]; rfl, fun k hk => absurd hk (by simp)⟩
theorem CX_0_hx (α : hp_T) (x : Nat) (σ : ms_T) (hσ : ms_i0 σ) (hX : XSH (F_X11_init α (x + 1) x) x) : CX_hx (F_X11_init α (x + 1) x) x σ := ⟨CZ_0 α x σ hσ hX, PRX_0 α x, HDX_0 α x σ hσ⟩
def hkp (x : Nat) (α β : hp_T) : Prop := (∀ b, b = x + 926 ∨ b = x + 928 → hp_I β 301 b = hp_I α 301 b) ∧ ∀ b j, b = x + 927 ∨ b = x + 929 → hp_E β 20 b j = hp_E α 20 b j
theorem HDX_k {α β : hp_T} {x : Nat} {σ : ms_T} (h : HDX α x σ) (hX : XHR α x) (hY : XHR β x) (e8 : hp_R β 608 x = hp_R α 608 x) (c : hkp x α β) : HDX β x σ := by
  obtain ⟨-, h2, h3, h4⟩ := hX
  obtain ⟨-, -, g3, g4⟩ := hY
  obtain ⟨l1, l2, l3⟩ := h
  have hb : hp_R α 608 x = x + 926 ∨ hp_R α 608 x = x + 928 := by
    rcases h2 with q | q
    · exact Or.inl q.1
    · exact Or.inr q.1
  have e3 : hp_R β 300 (hp_R α 608 x) = hp_R α 300 (hp_R α 608 x) := by
    rcases hb with e | e
    · rw [e, g3, h3]
    · rw [e, g4, h4]
  have e4 : hp_R α 300 (hp_R α 608 x) = x + 927 ∨ hp_R α 300 (hp_R α 608 x) = x + 929 := by
    rcases hb with e | e
    · rw [e]; exact Or.inl h3
    · rw [e]; exact Or.inr h4
  unfold HDX
  rw [e8]
  refine ⟨l1, by rw [c.1 _ hb]; exact l2, fun k hk => ?_⟩
  rw [e3, c.2 _ k e4]
  exact l3 k hk
theorem HDX_nz {α : hp_T} {x : Nat} (g : GC α) (hk : hp_K α x = 12) (hX : XHR α x) : (hp_K α (x + 926) ≠ 0 ∧ hp_K α (x + 928) ≠ 0) ∧ hp_K α (x + 927) ≠ 0 ∧ hp_K α (x + 929) ≠ 0 := by
  obtain ⟨-, h2, h3, h4⟩ := hX
  have k : hp_K α (x + 926) = 6 ∧ hp_K α (x + 928) = 6 := by
    rcases h2 with q | q
    · exact ⟨gkR g hk q.1 rfl (by decide) (by decide), gkR g hk q.2 rfl (by decide) (by decide)⟩
    · exact ⟨gkR g hk q.2 rfl (by decide) (by decide), gkR g hk q.1 rfl (by decide) (by decide)⟩
  have k7 : hp_K α (x + 927) = 20 := gkR g k.1 h3 rfl (by decide) (by decide)
  have k9 : hp_K α (x + 929) = 20 := gkR g k.2 h4 rfl (by decide) (by decide)
  exact ⟨⟨nz k.1 (by decide), nz k.2 (by decide)⟩, nz k7 (by decide), nz k9 (by decide)⟩
theorem PRX_nz {α : hp_T} {x : Nat} (g : GC α) (hk : hp_K α x = 12) (hX : XSH α x) : hp_K α (x + 919) = 6 := by
  obtain ⟨z1, z2, -⟩ := hX
  exact gkR g hk z1 rfl (by decide) (by decide)
theorem CX_C_hx {α β : hp_T} {x : Nat} {σ : ms_T} (g : GC α) (hk : hp_K α x = 12) (hX : XSH α x) (h : CX_hx α x σ) (c : ∀ q, hp_K α q ≠ 0 → saC α β q) : CX_hx β x σ := by
  have k := PRX_nz g hk hX
  have kh := HDX_nz g hk h.1.1
  have k39 : hp_K α (x + 939) = 6 := gkR g hk h.2.1.1 rfl (by decide) (by decide)
  have c0 := c x (nz hk (by decide))
  have c9 := c (x + 919) (nz k (by decide))
  have c39 := c (x + 939) (nz k39 (by decide))
  have h1 := CZ_C g hk hX h.1 c
  refine ⟨h1, PRX_f h.2.1 (c0.2.2.1 614) (c39.2.2.1 300) (c9.2.2.1 300), HDX_k h.2.2 h.1.1 h1.1 (c0.2.2.1 608) ⟨fun b hb => ?_, fun b j hb => ?_⟩⟩
  · rcases hb with e | e
    · rw [e]; exact (c _ kh.1.1).2.1 301 (by decide)
    · rw [e]; exact (c _ kh.1.2).2.1 301 (by decide)
  · rcases hb with e | e
    · rw [e]; exact (c _ kh.2.1).2.2.2.2.1 20 j (by decide)
    · rw [e]; exact (c _ kh.2.2).2.2.2.2.1 20 j (by decide)
end JN10_8
section JN10_9
set_option maxRecDepth 100000
def skL (f : Nat → Int32) (i : Nat) : List Int32 := mkl (f 1) (EL f (f (92 + 10 * i)).toInt.toNat) (pks 6 (f (93 + 10 * i)).toInt.toNat 0)
def skB (L : List Int32) (g : Nat → Int32) : Nat → Int32
  | 0 => 0
  | k + 1 => if L.getD k 0 = g k then skB L g k else skB L g k ||| ((1 : Int32) <<< (Int32.ofNat k &&& 31))
abbrev skOK (f : Nat → Int32) (a : Int32) : Prop := 0 ≤ a.toInt ∧ a.toInt < (f 3).toInt
def skA (f : Nat → Int32) (a : Int32) : Int32 := if skOK f a then skB (skL f a.toInt.toNat) (fun k => f (96 + 10 * a.toInt.toNat + k)) (skL f a.toInt.toNat).length else -1
theorem sk_ofN {kI : Int32} {k : Nat} (h : kI.toInt = (k : Int)) (hk : k ≤ 64) : kI = Int32.ofNat k := Int32.toInt_inj.mp (by rw [h, Int32.toInt_ofNat_of_lt (by omega)])
theorem sk_or0 (v : Int32) : v ||| 0 = v := Int32.toBitVec_inj.mp (by simp)
theorem sk_fz {f : Nat → Int32} (hC : rC f) (hF : FRI f) {i : Nat} (hi : i < (f 3).toInt.toNat) : 0 ≤ (f (92 + 10 * i)).toInt ∧ (f (92 + 10 * i)).toInt.toNat < (f 0).toInt.toNat ∧ (f (92 + 10 * i)).toInt.toNat < 4 ∧ 0 ≤ (f (93 + 10 * i)).toInt ∧ (f (93 + 10 * i)).toInt.toNat ≤ (EL f (f (92 + 10 * i)).toInt.toNat).length ∧ (f (93 + 10 * i)).toInt.toNat < 64 := by
  have h4 := hC.1
  have h16 := hC.2.2.2.1
  obtain ⟨b1, b2⟩ := hF i hi
  have b0 := (hC.2.2.2.2.2.2.1 i (by omega)).1
  have b3 := hC.2.2.2.2.2.2.2.1 i (by omega)
  have hs := hC.2.2.2.2.1 (f (92 + 10 * i)).toInt.toNat (by omega)
  rw [EL_len]
  have := b3.1
  refine ⟨b0, by omega, by omega, by omega, by omega, by omega⟩
theorem skL_len {f : Nat → Int32} {i : Nat} (h : (f (93 + 10 * i)).toInt.toNat < 64) : (skL f i).length = pkn (f (93 + 10 * i)).toInt.toNat := by
  unfold skL mkl
  rw [List.length_map]
  exact pks_pkn _ h
theorem v_sick_L (n : Nat) (i : Nat) (hi : i < 16) (iI : Int32) (hiI : iI.toInt = (i : Int)) (σ : ms_T) (L : List Int32) (h6 : L.length ≤ 6) (pl : List (Nat × Nat × Bool)) (hW : WS σ pl) (hpl : pl.length = L.length) (hM : MKS σ L) : ∀ (d k : Nat) (vI kI : Int32), kI.toInt = (k : Int) → k ≤ L.length → vI = skB L (fun j => ms_E σ 40 (96 + 10 * i + j)) k → pr (f_X12_sick_L56 n d σ iI vI kI) (fun res => res.1 = skB L (fun j => ms_E σ 40 (96 + 10 * i + j)) L.length) := by
  intro d
  induction d with
  | zero => intro k vI kI _ _ _; rw [f_X12_sick_L56.eq_1]; exact pr_0
  | succ d ih =>
    intro k vI kI hk hkL hv
    have t4 := t_4
    have hw1 := hW.1
    rw [f_X12_sick_L56.eq_2]
    refine pr_le (fun e => pr_s ?_) (fun e => pr_g (fun _ _ => ?_))
    · show vI = _
      rw [hv, show k = L.length by omega]
    · have hkl : k < L.length := by omega
      have e1 : (kI + 1).toInt = ((k + 1 : Nat) : Int) := by rw [iw_add, lt1]; omega
      have e44 : ms_E σ 44 k = L.getD k 0 := by rw [List.getD_eq_getElem?_getD, ← hM k hkl]; rfl
      refine pr_b (v_froze n σ i hi iI hiI (4 + k) (by omega) _ (by rw [iw_add, t4]; omega)) (fun v hv1 => ?_)
      rw [show 92 + 10 * i + (4 + k) = 96 + 10 * i + k by omega] at hv1
      unfold f_X12_sick_J89
      rw [cl_n hk, e44, hv1]
      refine pr_i (fun c => pr_l (pr_l (ih (k + 1) _ _ e1 (by omega) ?_))) (fun c => pr_l (pr_l (ih (k + 1) _ _ e1 (by omega) ?_)))
      · rw [sk_or0, skB, if_pos c]; exact hv
      · rw [skB, if_neg c, hv, sk_ofN hk (by omega)]
theorem v_sick (n : Nat) (σ : ms_T) (hC : rC (ms_E σ 40)) (hF : FRI (ms_E σ 40)) (a : Int32) : pr (f_X12_sick n σ a) (fun res => res.1 = skA (ms_E σ 40) a) := by
  have h16 := hC.2.2.2.1
  have h4 := hC.1
  have c3 : ((3 : Int32)).toNatClampNeg = 3 := by decide
  have bad : ∀ v : Int32, ¬ v = 0 → ¬ skOK (ms_E σ 40) a → pr (f_X12_sick_J24 n σ a v) (fun res => res.1 = skA (ms_E σ 40) a) := fun v hv hno => by
    unfold f_X12_sick_J24 skA
    rw [if_neg hno]
    exact v_is1 n σ v hv (pr_s rfl)
  unfold f_X12_sick
  rw [c3]
  refine pr_le (fun e => pr_g (fun _ _ => pr_lt (fun c => ?_) (fun c => bad 5 (by decide) (fun q => by have := q.2; omega)))) (fun e => bad 1 (by decide) (fun q => by rw [lt0] at e; have := q.1; omega))
  rw [lt0] at e
  have ok : skOK (ms_E σ 40) a := ⟨e, c⟩
  obtain ⟨i, hi⟩ : ∃ i, i = a.toInt.toNat := ⟨_, rfl⟩
  have hiI : a.toInt = (i : Int) := by omega
  have hi3 : i < (ms_E σ 40 3).toInt.toNat := by omega
  obtain ⟨z1, z2, z3, z4, z5, z6⟩ := sk_fz hC hF hi3
  unfold f_X12_sick_J24 skA
  rw [if_pos ok, ← hi]
  refine v_is0 n σ ?_
  obtain ⟨τ0, hτ0⟩ : ∃ τ, τ = ms_sI (ms_sI σ 653 0) 652 0 := ⟨_, rfl⟩
  have e0 : ms_E τ0 40 = ms_E σ 40 := by rw [hτ0]; rfl
  rw [← hτ0]
  refine pr_b (v_froze n τ0 i (by omega) a hiI 1 (by decide) 1 (by decide)) (fun N hN => ?_)
  rw [e0, show 92 + 10 * i + 1 = 93 + 10 * i by omega] at hN
  refine pr_b (v_peaksOf n τ0 (ms_E σ 40 (93 + 10 * i)).toInt.toNat z6 N (by rw [hN]; omega)) (fun τ hτ => ?_)
  obtain ⟨hW, hk⟩ := hτ
  have e1 : ms_E τ 40 = ms_E σ 40 := by rw [show ms_E τ 40 = ms_E τ0 40 from funext (fun j => hk.2 40 (by decide) j), e0]
  refine pr_b (v_froze n τ i (by omega) a hiI 0 (by decide) 0 (by decide)) (fun r hr => ?_)
  rw [e1, show 92 + 10 * i + 0 = 92 + 10 * i by omega] at hr
  refine pr_b (v_fetches n τ (by rw [e1]; exact hC) (ms_E σ 40 (92 + 10 * i)).toInt.toNat z3 r (by rw [hr]; omega) _ hW (fun q hq => ?_)) (fun υ hυ => ?_)
  · have := pks_in (ms_E σ 40 (93 + 10 * i)).toInt.toNat z6 q hq
    rw [e1]; omega
  · obtain ⟨hM, hW2, hk2⟩ := hυ
    rw [e1] at hM
    have e2 : ms_E υ 40 = ms_E σ 40 := by rw [show ms_E υ 40 = ms_E τ 40 from funext (fun j => hk2.2 40 (by decide) j), e1]
    have hlen : (skL (ms_E σ 40) i).length = (pks 6 (ms_E σ 40 (93 + 10 * i)).toInt.toNat 0).length := by unfold skL mkl; rw [List.length_map]
    have hq := v_sick_L n i (by omega) a hiI υ (skL (ms_E σ 40) i) (by rw [hlen]; exact Nat.le_trans (pks_len _ _ _) (by decide)) _ hW2 hlen.symm hM n 0 0 0 rfl (Nat.zero_le _) rfl
    rw [e2] at hq
    exact hq
theorem k_sickBits_L (n w : Nat) (α : hp_T) (a v1 b10 : Nat) (hb : hp_R α 104 v1 = b10) (L M : List Int32) (hL : RWL α a L) (hM : RWL α b10 M) (hl : M.length = L.length) (h6 : L.length ≤ 6) (g : Nat → Int32) (hg : ∀ j, j < L.length → M.getD j 0 = g j) : ∀ (d k : Nat) (vI kI : Int32), kI.toInt = (k : Int) → k ≤ L.length → L.length + 1 - k ≤ d → vI = skB L g k → ws (f_X10_sickBits_L22 n w d α v1 a vI kI) (fun r => r.1 = skB L g L.length ∧ r.2 = α) := by
  intro d
  induction d with
  | zero => intro k vI kI _ hk hd; omega
  | succ d ih =>
    intro k vI kI hk hkL hd hv
    have t31 : (31 : Int32).toInt = 31 := by decide
    rw [f_X10_sickBits_L22.eq_2]
    refine ws_l (ws_le (fun e => ws_s ⟨?_, rfl⟩) (fun e => ws_le (fun e2 => by rw [t31] at e2; omega) (fun _ => ?_)))
    · show vI = _
      rw [hL.2.1] at e
      rw [hv, show k = L.length by omega]
    · rw [hL.2.1] at e
      have hkl : k < L.length := by omega
      have e1 : (kI + 1).toInt = ((k + 1 : Nat) : Int) := by rw [iw_add, lt1]; omega
      refine ws_b (k_rat n hL k hkl kI hk) (fun r hr => ws_l ?_)
      rw [hb]
      refine ws_b (k_rat n hM k (by omega) kI hk) (fun s hs => ?_)
      rw [hg k hkl] at hs
      unfold f_X10_sickBits_J63
      rw [hr, hs]
      refine ws_i (fun c => ws_l (ih (k + 1) _ _ e1 (by omega) (by omega) ?_)) (fun c => ws_l (ws_l (ih (k + 1) _ _ e1 (by omega) (by omega) ?_)))
      · rw [skB, if_pos c]; exact hv
      · rw [skB, if_neg c, hv, sk_ofN hk (by omega)]
theorem k_sick (n : Nat) (hn : 70000 ≤ n) (hrw : rwP) (α : hp_T) (x : Nat) (f : Nat → Int32) (hC : rC f) (hF : FRI f) (h : RWX α x f) (h14 : hp_R α 614 x = x + 939) (h40 : hp_R α 300 (x + 939) = x + 940) (h39 : 0 ≤ (hp_I α 301 (x + 939)).toInt ∧ (hp_I α 301 (x + 939)).toInt ≤ 64) (a : Int32) : ws (f_X11_sick n α x a) (fun res => res.1 = skA f a ∧ rofw [x + 939] [x + 940] α res.2) := by
  obtain ⟨w, u, h1, h2, h3, h4, -⟩ := h
  have h44 := hC.1
  have h16 := hC.2.2.2.1
  have bad : ∀ v : Int32, ¬ skOK f a → ws (hq_c (f_X11_refuse n α x v) fun r β => some (r, β)) (fun res => res.1 = skA f a ∧ rofw [x + 939] [x + 940] α res.2) := fun v hno => by
    unfold skA
    rw [if_neg hno]
    exact ws_hc (k_refuse n α x v) (fun z γ hz => ws_s ⟨hz.1, by rw [show γ = hp_sI α 600 x v from hz.2]; exact rofw_sI rofw_rf (by decide)⟩)
  unfold f_X11_sick
  refine ws_le (fun e => ws_l ?_) (fun e => bad 1 (fun q => by rw [lt0] at e; have := q.1; omega))
  rw [lt0] at e
  rw [h1]
  refine ws_b (k_frozenAt n h4 hC a) (fun o ho => ?_)
  by_cases c : a.toInt < (f 3).toInt
  · rw [if_pos ⟨e, c⟩] at ho
    subst ho
    have ok : skOK f a := ⟨e, c⟩
    obtain ⟨i, hi⟩ : ∃ i, i = a.toInt.toNat := ⟨_, rfl⟩
    have hi3 : i < (f 3).toInt.toNat := by omega
    obtain ⟨z1, z2, z3, z4, z5, z6⟩ := sk_fz hC hF hi3
    rw [← hi]
    obtain ⟨y1, y2, -, -, y5, y6⟩ := h4.2.2.2.1 i hi3
    obtain ⟨s1, s2⟩ := h4.1.2.2.2.2.2.2.2.2.2.2.2.2 i (by omega)
    have hb := hF i hi3
    refine ws_hS (ws_l (ws_l ?_))
    rw [h14]
    obtain ⟨l0, hl0⟩ := RWL_any h39.1 h39.2
    have hfz : fzA w i + 1 ≠ x + 939 ∧ fzA w i + 2 ≠ x + 940 := by unfold fzA; omega
    have hsb : ws (f_X10_sickBits n α w (fzA w i) (x + 939)) (fun r => r.1 = skB (skL f i) (fun k => f (96 + 10 * i + k)) (skL f i).length ∧ rofw [x + 939] [x + 940] α r.2) := by
      unfold f_X10_sickBits
      refine ws_l ?_
      rw [y1]
      refine ws_b (k_logAt n h4 hC _) (fun o ho => ?_)
      rw [if_pos ⟨z1, hb.1⟩] at ho
      subst ho
      refine ws_hS (ws_l ?_)
      rw [y2]
      refine ws_b (k_peaksOf n hn w (x + 939) α (f 1) (by have := hC.2.1; omega) h4.2.1.1 _ (EL f (f (92 + 10 * i)).toInt.toNat) (WR_LM h4 hC z2) (f (93 + 10 * i)).toInt.toNat z5 _ (by omega) l0 hl0) (fun γ hγ => ?_)
      obtain ⟨hRγ, g1, -, -, -, g5, g6⟩ := hγ
      have hlen := skL_len (f := f) (i := i) z6
      have hpk : pkn (f (93 + 10 * i)).toInt.toNat ≤ 6 := by unfold pkn; omega
      have hMl : ((List.range (pkn (f (93 + 10 * i)).toInt.toNat)).map (fun k => f (96 + 10 * i + k))).length = pkn (f (93 + 10 * i)).toInt.toNat := by rw [List.length_map, List.length_range]
      have hM : RWL γ (fzA w i + 1) ((List.range (pkn (f (93 + 10 * i)).toInt.toNat)).map (fun k => f (96 + 10 * i + k))) := by
        refine ⟨by rw [hMl]; omega, ?_, fun k hk => ?_⟩
        · rw [hMl, g5 301 _ (fun q => hfz.1 q.1)]
          exact y5 hrw
        · rw [hMl] at hk
          rw [g1, s2, g6 20 _ k (fun q => absurd q.1 (by decide)) (fun q => hfz.2 (by rw [q.2, h40])), y6 k hk hrw]
          rw [List.getElem?_map, List.getElem?_range hk]
          rfl
      refine ws_m (k_sickBits_L n w γ (x + 939) (fzA w i) (fzA w i + 1) (by rw [g1]; exact s1) (skL f i) _ hRγ hM (by rw [hMl, hlen]) (by rw [hlen]; exact hpk) (fun k => f (96 + 10 * i + k)) (fun j hj => ?_) n 0 0 0 rfl (Nat.zero_le _) (by omega) rfl) (fun r hr => ⟨hr.1, by rw [hr.2]; exact ⟨fun b q => g5 301 b (fun z => q (by rw [z.1]; exact List.mem_cons_self)), fun b j q => g6 20 b j (fun z => absurd z.1 (by decide)) (fun z => q (by rw [z.2, h40]; exact List.mem_cons_self))⟩⟩)
      rw [hlen] at hj
      rw [List.getD_eq_getElem?_getD, List.getElem?_map, List.getElem?_range hj]
      rfl
    refine ws_hc hsb (fun r β hr => ws_hc (k_answer n β x r) (fun z γ hz => ws_s ⟨?_, ?_⟩))
    · unfold skA
      rw [if_pos ok, ← hi]
      exact hz.1.trans hr.1
    · rw [show γ = hp_sI β 600 x 0 from hz.2]
      exact rofw_sI hr.2 (by decide)
  · rw [if_neg (fun q => c q.2)] at ho
    subst ho
    exact ws_hN (bad 5 (fun q => c q.2))
end JN10_9
section JN10_10
set_option maxRecDepth 100000
def CX_rx (α : hp_T) (x : Nat) (σ : ms_T) : Prop := CZ α x σ ∧ PRX α x ∧ PKX α x (ms_E σ 40)
theorem PKX_0 (α : hp_T) (x : Nat) (σ : ms_T) (hσ : ms_i0 σ) : PKX (F_X11_init α (x + 1) x) x (ms_E σ 40) := by
  obtain ⟨-, -, -, -, s5⟩ := hσ
  have e3 : ms_E σ 40 3 = 0 := s5 3 (by omega) (by omega)
  refine ⟨Or.inl (by rw [fd_X11_601 α (x + 1) x (by omega)]), by rw [e3]; decide, fun i hi => ?_⟩
  rw [e3, lt0] at hi
  exact absurd hi (by simp)
theorem CX_0_rx (α : hp_T) (x : Nat) (σ : ms_T) (hσ : ms_i0 σ) (hX : XSH (F_X11_init α (x + 1) x) x) : CX_rx (F_X11_init α (x + 1) x) x σ := ⟨CZ_0 α x σ hσ hX, PRX_0 α x, PKX_0 α x σ hσ⟩
def fzr (x b : Nat) : Prop := (x + 409 ≤ b ∧ b < x + 465) ∨ (x + 868 ≤ b ∧ b < x + 919)
theorem PKX_nz {α : hp_T} {x : Nat} {f : Nat → Int32} (g : GC α) (hk : hp_K α x = 12) (h : PKX α x f) (hW : RWZ α x f) {i : Nat} (hi : i < 16) : hp_K α (fzA (hp_R α 601 x) i + 1) ≠ 0 ∧ hp_K α (fzA (hp_R α 601 x) i + 2) ≠ 0 := by
  obtain ⟨w, u, h1, -, -, h4, -⟩ := hW
  have kw : hp_K α w = 11 := gkR g hk h1 rfl (by decide) (by decide)
  obtain ⟨-, a2, -, -, -, -, -, a8, -, -, -, -, a15⟩ := h4.1
  obtain ⟨s1, s2⟩ := a15 i hi
  have kq : hp_K α (w + 2) = 31 := gkR g kw a2 rfl (by decide) (by decide)
  have kf : hp_K α (fzA w i) = 2 := gkQ g kq (a8 i hi) rfl (by decide)
  have k1 : hp_K α (fzA w i + 1) = 6 := gkR g kf s1 rfl (by decide) (by decide)
  have k2 : hp_K α (fzA w i + 2) = 20 := gkR g k1 s2 rfl (by decide) (by decide)
  rw [h1]
  exact ⟨nz k1 (by decide), nz k2 (by decide)⟩
theorem PKX_kz {α β : hp_T} {x : Nat} {f : Nat → Int32} (g : GC α) (hk : hp_K α x = 12) (h : PKX α x f) (hW : RWZ α x f) (e : hp_R β 601 x = hp_R α 601 x) (c1 : ∀ b, hp_K α b ≠ 0 → fzr x b → hp_I β 301 b = hp_I α 301 b) (c2 : ∀ b j, hp_K α b ≠ 0 → fzr x b → hp_E β 20 b j = hp_E α 20 b j) : PKX β x f := by
  have hh := h
  obtain ⟨h1, h2, h3⟩ := h
  refine ⟨by rw [e]; exact h1, h2, fun i hi => ?_⟩
  rw [e]
  obtain ⟨a1, a2⟩ := h3 i hi
  have z := PKX_nz g hk hh hW (i := i) (by omega)
  exact ⟨by rw [c1 _ z.1 (by unfold fzr fzA; omega)]; exact a1, fun k hk => by rw [c2 _ k z.2 (by unfold fzr fzA; omega)]; exact a2 k hk⟩
theorem CX_C_rx {α β : hp_T} {x : Nat} {σ : ms_T} (g : GC α) (hk : hp_K α x = 12) (hX : XSH α x) (hW : RWZ α x (ms_E σ 40)) (h : CX_rx α x σ) (c : ∀ q, hp_K α q ≠ 0 → saC α β q) : CX_rx β x σ := by
  have k := PRX_nz g hk hX
  have k39 : hp_K α (x + 939) = 6 := gkR g hk h.2.1.1 rfl (by decide) (by decide)
  have c0 := c x (nz hk (by decide))
  have c9 := c (x + 919) (nz k (by decide))
  have c39 := c (x + 939) (nz k39 (by decide))
  exact ⟨CZ_C g hk hX h.1 c, PRX_f h.2.1 (c0.2.2.1 614) (c39.2.2.1 300) (c9.2.2.1 300), PKX_kz g hk h.2.2 hW (c0.2.2.1 601) (fun b p _ => (c b p).2.1 301 (by decide)) (fun b j p _ => (c b p).2.2.2.2.1 20 j (by decide))⟩
theorem LXW_LXp_rx {α : hp_T} {x : Nat} {σ : ms_T} (g : GC α) (h : LX α x σ) (hc : CX_rx α x σ) : LXW α x σ := ⟨h.2.1, RWX_Z g h.2.2.1 hc.2.2, h.2.2.2.1, h.2.2.2.2.1, hc.1.2, fun p => p.elim⟩
end JN10_10
