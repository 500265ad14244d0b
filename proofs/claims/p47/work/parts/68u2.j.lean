section JN11_0
set_option maxRecDepth 100000
set_option maxRecDepth 100000 in
set_option maxHeartbeats 4000000 in
theorem t_X11_preparedRoots_N2 (Γ : hp_G) (l : Launch) (α : hp_T) (g : GC α) (a0 : Nat) (k0 : hp_K α a0 = 12) (hN : hp_N α 618 a0 = none) (mm : Int32) (M : Nat) (hm : mm.toInt = (M : Int)) (hM : 101 ≤ M) (hM2 : M ≤ 65521) (hmα : hp_I α 550 (hp_R α 601 a0) = mm) : Met l yX11_preparedRoots (hp_ws yX11_preparedRoots cX11_preparedRoots 1 (some (.object "ProvenRecord$Roots"))) (hp_rm 3 9 131316) (hp_Pc Γ α [.ref a0]) (hp_Qq Γ (fun r β => ∃ b0, r = some b0 ∧ cg w_X4_prepare α β ∧ hp_K β b0 = 5 ∧ hp_N β 618 a0 = some b0 ∧ TB β b0 M ∧ hp_I β 252 b0 = mm)) 9 131316 (hp_A Γ) := by
  refine hp_start (by decide) ?_
  intro p e s m below meth c C hr hlk B hnm
  have C : hp_C Γ p m c cX11_preparedRoots 1 s ([.ref a0] : List Value).toArray RX11 := C
  have hx := C.1.1
  have hb := C.1.2.1
  have hown := C.1.2.2.2.1
  have hts := C.1.2.2.2.2
  have hl := lv_entry ([.ref a0]) (n := 1) (Nat.le_of_ble_eq_true rfl)
  rw [lg_entry_eq]
  generalize (lg_sl ([.ref a0]) ++ List.replicate (1 - (lg_sl ([.ref a0])).length) Slot.unset).toArray = ls at hl ⊢
  have hl : lv_has ls 1 [(0, .ref a0)] := hl
  refine lv_aload_n hx hb dX11_preparedRoots_0 rfl (lv_at hl 0 rfl) (hp_n (n := 1) rfl ?_)
  refine q_get (v := .null) (κ := 12) (k := 18) (t := 3) (pc' := 4) C B k0 fl_X11_90 rfl rfl (by show va_rf (hp_N α 618 a0) = _; rw [hN]; rfl) dX11_preparedRoots_1 rfl ?_
  refine lv_ifnonnullN hx hb dX11_preparedRoots_4 (hp_n (n := 7) rfl ?_)
  refine lv_aload_n hx hb dX11_preparedRoots_7 rfl (lv_at hl 0 rfl) (hp_n (n := 8) rfl ?_)
  refine q_new (κ := 5) (N := 11) (pc' := 11) C B cl_X11_368 it_X4 iz_X4 rfl in_5 tyX4_ok df_5 (by decide) rfl rfl rfl (by omega) (by omega) dX11_preparedRoots_8 rfl (fun _ _ => trivial) (fun β1 h H1 f1 e1 B1 => ?_)
  have g1 : GC β1 := by rw [e1]; exact gc_nw g f1 (by decide)
  have k1 : hp_K β1 h = 105 := by rw [e1]; exact nw_k
  have z1 : ∀ φ, hp_I β1 φ h = 0 := fun φ => by rw [e1]; exact nw_i
  have s1 : ∀ b, hp_K α b ≠ 0 → b ≠ h ∧ sa α β1 b := fun b hb => by
    have hne : b ≠ h := fun q => hb (by rw [q]; exact f1)
    exact ⟨hne, by rw [e1]; exact sa_nw hne⟩
  refine lv_dup hx hb dX11_preparedRoots_11 rfl (hp_n (n := 12) rfl ?_)
  refine q_cv (pc' := 15) B1 (hp_runI (As := []) (rest := [.ref h, .ref a0]) C B1 (t_X4_init Γ l β1 g1 h k1 z1) lb_X4_init rfl li_X4_init lk_X11_474 rfl (by decide) rfl hl.1 rfl (Nat.le_of_ble_eq_true rfl) dX11_preparedRoots_12 ⟨by omega, by omega⟩) (fun _ _ => trivial) rfl (fun β2 H2 L2 p2 B2 => ?_)
  have s2 : ∀ b, hp_K α b ≠ 0 → sa α β2 b := fun b hb => by
    obtain ⟨h1, h2⟩ := s1 b hb
    exact sa_tr h2 (p2.1.2 b h1 (by rw [h2.1]; exact hb))
  have ka2 : hp_K β2 a0 = 12 := (s2 a0 (by rw [k0]; decide)).1.trans k0
  refine q_putn (κ := 12) (k := 18) (φ := 618) (pc' := 18) C B2 ka2 fl_X11_90 rfl rfl rfl rfl rfl rfl trivial dX11_preparedRoots_15 rfl (fun β3 H3 L3 e3 B3 => ?_)
  have g3 : GC β3 := by rw [e3]; exact gc_sN5 p2.1.1 p2.2.1
  have n3 : hp_N β3 618 a0 = some h := by rw [e3]; exact sN_at
  have ka3 : hp_K β3 a0 = 12 := by rw [e3]; exact ka2
  have kh3 : hp_K β3 h = 5 := by rw [e3]; exact p2.2.1
  have c3 : cg w_X4_prepare α β3 := cg_tr (v := w_X4_prepare) (cg_sa p2.1.1 s2) (by rw [e3]; exact cg_sN (by rw [← e3]; exact g3)) (by decide)
  refine lv_aload_n hx hb dX11_preparedRoots_18 rfl (lv_at hl 0 rfl) (hp_n (n := 19) rfl ?_)
  refine q_get (v := .ref h) (κ := 12) (k := 18) (t := 3) (pc' := 22) C B3 ka3 fl_X11_90 rfl rfl (by show va_rf (hp_N β3 618 a0) = _; rw [n3]; rfl) dX11_preparedRoots_19 rfl ?_
  refine lv_aload_n hx hb dX11_preparedRoots_22 rfl (lv_at hl 0 rfl) (hp_n (n := 23) rfl ?_)
  have kw : hp_K β3 (hp_R β3 601 a0) = 11 := by
    rcases g3.2.1 601 a0 (by rw [ka3]) (by decide) with q | q
    · exact q
    · exact absurd q.1 (by decide)
  refine q_get (v := .ref (hp_R β3 601 a0)) (κ := 12) (k := 1) (t := 1) (pc' := 26) C B3 ka3 fl_X11_16 rfl rfl rfl dX11_preparedRoots_23 rfl ?_
  refine q_geti (κ := 11) (k := 0) (φ := 550) (pc' := 29) C B3 kw fl_X11_122 rfl rfl rfl dX11_preparedRoots_26 rfl (fun x ex => ?_)
  have kwα : hp_K α (hp_R α 601 a0) = 11 := by
    rcases g.2.1 601 a0 (by rw [k0]) (by decide) with q | q
    · exact q
    · exact absurd q.1 (by decide)
  have ex2 : x = mm := by
    rw [ex, c3.2.2.2.1 601 a0 (by rw [k0]; decide) (by decide), c3.2.2.1 550 _ (by rw [kwα]; decide) (by decide)]
    exact hmα
  subst ex2
  have z3 : hp_I β3 252 h = 0 := by
    rw [e3]
    exact p2.2.2 (252, 0) (by decide)
  obtain ⟨γ, hγ, y1, y2, y3⟩ := k_prepare (r := h) 70000 (by decide) hm hM hM2 β3 (fun q => by rw [z3] at q; rw [← q, lt0] at hm; omega)
  refine q_cv (pc' := 32) B3 (hp_runV (As := [.int x]) (rest := []) C B3 (n_X4_prepare 70000 Γ l β3 g3 h kh3 x γ hγ) lb_X4_prepare lv_X4_prepare lk_X11_475 kh3 rfl (by decide) rfl hl.1 rfl (Nat.le_of_ble_eq_true rfl) dX11_preparedRoots_29 ⟨by omega, by omega⟩) (fun _ _ => trivial) rfl (fun β4 H4 L4 p4 B4 => ?_)
  have n4 : hp_N β4 618 a0 = some h := by rw [p4.2.2.2.1]; exact n3
  have ka4 : hp_K β4 a0 = 12 := by rw [p4.2.2.1]; exact ka3
  refine lv_aload_n hx hb dX11_preparedRoots_32 rfl (lv_at hl 0 rfl) (hp_n (n := 33) rfl ?_)
  refine q_get (v := .ref h) (κ := 12) (k := 18) (t := 3) (pc' := 36) C B4 ka4 fl_X11_90 rfl rfl (by show va_rf (hp_N β4 618 a0) = _; rw [n4]; rfl) dX11_preparedRoots_33 rfl ?_
  refine W.widen (k := 9) (n := 131316) (by omega) (by omega) ?_
  exact q_aret (x := some h) C B4 hr hlk ⟨h, rfl, cg_tr c3 (cg_cw p4.2) (by decide), by rw [p4.2.2.1]; exact kh3, n4, by rw [p4.1]; exact y1, by rw [p4.1]; exact y3⟩ dX11_preparedRoots_36
set_option maxRecDepth 100000 in
set_option maxHeartbeats 4000000 in
theorem t_X11_preparedRoots_S2 (Γ : hp_G) (l : Launch) (α : hp_T) (g : GC α) (a0 : Nat) (k0 : hp_K α a0 = 12) (b0 : Nat) (hN : hp_N α 618 a0 = some b0) (mm : Int32) (M : Nat) (hm : mm.toInt = (M : Int)) (hM : 101 ≤ M) (hM2 : M ≤ 65521) (hmα : hp_I α 550 (hp_R α 601 a0) = mm) (hTB : hp_I α 252 b0 = mm → TB α b0 M) : Met l yX11_preparedRoots (hp_ws yX11_preparedRoots cX11_preparedRoots 1 (some (.object "ProvenRecord$Roots"))) (hp_rm 3 0 0) (hp_Pc Γ α [.ref a0]) (hp_Qq Γ (fun r β => (cw w_X11_preparedRoots_S α β ∧ r = some b0) ∧ TB β b0 M ∧ hp_I β 252 b0 = mm)) 0 0 (hp_A Γ) := by
  refine hp_start (by decide) ?_
  intro p e s m below meth c C hr hlk B0 hnm
  have C : hp_C Γ p m c cX11_preparedRoots 1 s ([.ref a0] : List Value).toArray RX11 := C
  have hx := C.1.1
  have hb := C.1.2.1
  have hown := C.1.2.2.2.1
  have hts := C.1.2.2.2.2
  have B : hp_B Γ (cw w_X11_preparedRoots_S) s α α s.heap [] := ⟨B0.1, B0.2.1, cw_rf g⟩
  have kb0 : hp_K α b0 = 5 := g.2.2.1 a0 b0 k0 hN
  have hl := lv_entry ([.ref a0]) (n := 1) (Nat.le_of_ble_eq_true rfl)
  show W p l e (hp_rm 3 0 0) s m ([.ref a0] : List Value).toArray below meth c s.heap [] 0 0 (MQ below (hp_Qq Γ (fun r β => (cw w_X11_preparedRoots_S α β ∧ r = some b0) ∧ TB β b0 M ∧ hp_I β 252 b0 = mm)) ([.ref a0] : List Value).toArray s 0 0 (hp_A Γ)) (entryFrame m ([.ref a0] : List Value).toArray 1)
  rw [lg_entry_eq]
  generalize (lg_sl ([.ref a0]) ++ List.replicate (1 - (lg_sl ([.ref a0])).length) Slot.unset).toArray = ls at hl ⊢
  have hl : lv_has ls 1 [(0, .ref a0)] := hl
  refine lv_aload_n hx hb dX11_preparedRoots_0 rfl (lv_at hl 0 rfl) (hp_n (n := 1) rfl ?_)
  refine q_get (v := va_rf (some b0)) (κ := 12) (k := 18) (pc' := 4) C B (cw_k B.2.2 k0) fl_X11_90 rfl rfl (by show va_rf (hp_N α 618 a0) = _; rw [B.2.2.2.2.1, hN]) dX11_preparedRoots_1 rfl ?_
  refine lv_ifnonnull (tgt := 18) hx hb dX11_preparedRoots_4 (by decide) ?_
  refine lv_aload_n hx hb dX11_preparedRoots_18 rfl (lv_at hl 0 rfl) (hp_n (n := 19) rfl ?_)
  refine q_get (v := va_rf (some b0)) (κ := 12) (k := 18) (pc' := 22) C B (cw_k B.2.2 k0) fl_X11_90 rfl rfl (by show va_rf (hp_N α 618 a0) = _; rw [B.2.2.2.2.1, hN]) dX11_preparedRoots_19 rfl ?_
  refine lv_aload_n hx hb dX11_preparedRoots_22 rfl (lv_at hl 0 rfl) (hp_n (n := 23) rfl ?_)
  refine q_getr (κ := 12) (k := 1) (φ := 601) (pc' := 26) C B (cw_k B.2.2 k0) fl_X11_16 rfl rfl rfl (cw_r B.2.2 k0 rfl rfl (by decide) (by decide)) dX11_preparedRoots_23 rfl (fun b_3 eb_3 kb_3 => ?_)
  refine q_geti (κ := 11) (k := 0) (φ := 550) (pc' := 29) C B (cw_k B.2.2 kb_3) fl_X11_122 rfl rfl rfl dX11_preparedRoots_26 rfl (fun x_4 ex_4 => ?_)
  have hx4 : x_4 = mm := by rw [ex_4, eb_3]; exact hmα
  subst hx4
  obtain ⟨γ, hγ, y1, y2, y3⟩ := k_prepare (r := b0) 70000 (by decide) hm hM hM2 α hTB
  refine q_cv (pc' := 32) B (hp_runV (As := [.int x_4]) (rest := []) C B (n_X4_prepare 70000 Γ l α B.2.2.1 b0 (cw_k B.2.2 kb0) x_4 γ hγ) lb_X4_prepare lv_X4_prepare lk_X11_475 (cw_k B.2.2 kb0) rfl (by decide) rfl hl.1 rfl (Nat.le_of_ble_eq_true rfl) dX11_preparedRoots_29 ⟨Nat.le_refl _, Nat.le_refl _⟩) (fun _ h => cw_tr B.2.2 h.2 (by decide)) rfl (fun αh_5 Hh_5 Lh_5 ph_5 Bh_5 => ?_)
  refine lv_aload_n hx hb dX11_preparedRoots_32 rfl (lv_at hl 0 rfl) (hp_n (n := 33) rfl ?_)
  refine q_get (v := va_rf (some b0)) (κ := 12) (k := 18) (pc' := 36) C Bh_5 (cw_k Bh_5.2.2 k0) fl_X11_90 rfl rfl (by show va_rf (hp_N αh_5 618 a0) = _; rw [Bh_5.2.2.2.2.1, hN]) dX11_preparedRoots_33 rfl ?_
  exact q_aret (x := (some b0)) C Bh_5 hr hlk ⟨⟨Bh_5.2.2, rfl⟩, by rw [ph_5.1]; exact y1, by rw [ph_5.1]; exact y3⟩ dX11_preparedRoots_36
def f_X11_weak_T (n : Nat) (α : hp_T) (a0 : Nat) (a2 : Int32) (a3 : Int32) (a4 : Int32) (a5 : Nat) (b0 : Nat) : Option (Int32 × hp_T) :=
  ms_l (hp_R α 612 a0) fun b1 =>
  ms_l (hp_R α 614 a0) fun b2 =>
  ms_b (f_X2_markAt n α a5 a2) fun rh3 =>
  ms_l (hp_R α 601 a0) fun b4 =>
  hq_c (f_X10_headOf n α b4 (some a5) a3) fun rh5 αh5 =>
  ms_b (f_X4_seekThing n αh5 b0 b1 b2 rh3 rh5) fun αh6 =>
  if a4 = 0 then
    ms_l (hp_I αh6 259 b0) fun x13 =>
    hq_c (f_X11_answer n αh6 a0 x13) fun rh14 αh14 =>
    some (rh14, αh14)
  else
    ms_l (hp_I αh6 259 b0) fun x8 =>
    if x8 = 0 then
      hq_c (f_X11_refuse n αh6 a0 (5 : Int32)) fun rh12 αh12 =>
      some (rh12, αh12)
    else
      ms_l (hp_I αh6 260 b0) fun x10 =>
      hq_c (f_X11_answer n αh6 a0 x10) fun rh11 αh11 =>
      some (rh11, αh11)
set_option maxRecDepth 100000 in
set_option maxHeartbeats 4000000 in
theorem un_X11_weak (n : Nat) (Γ : hp_G) (l : Launch) (α : hp_T) (g : GC α) (a0 : Nat) (k0 : hp_K α a0 = 12) (a2 : Int32) (a3 : Int32) (a4 : Int32) (a5 : Nat) (k5 : hp_K α a5 = 3) (b0 : Nat) (kb0 : hp_K α b0 = 5) (res : Int32 × hp_T) (hf : f_X11_weak_T n α a0 a2 a3 a4 a5 b0 = some res) {p : Program} {e : Env} {s : State} {m : MethodId} {below : List Frame} {meth : Method} {c : Code} {args0 : Array Value} (C : hp_C Γ p m c cX11_weak 8 s args0 RX11) (hr : meth.sig.returnType = (some .int)) (hlk : meth.locks = false) (H0 : Heap) (L0 : List Loc) (B : hp_B Γ (cw w_X11_weak_S) s α α H0 L0) (Pst : Int32 → hp_T → Prop) (Bq : hp_T → State → Prop) (hP : cw w_X11_weak_S α res.2 → Pst res.1 res.2) (hq : ∀ (t : State), cw w_X11_weak_S α res.2 → hp_Rep Γ res.2 t.heap → Bq res.2 t) (ls : Array Slot) (hl : lv_has ls 8 [(0, .ref a0), (2, .int a2), (3, .int a3), (4, .int a4), (5, .ref a5)]) : W p l e (hp_rm 72 9 131316) s m args0 below meth c H0 L0 9 131316 (MQ below (va_Qi Pst Bq (hp_A Γ)) args0 s 9 131316 (hp_A Γ)) (F0 m 83 ls [.ref b0]) := by
  have hx := C.1.1
  have hb := C.1.2.1
  have hown := C.1.2.2.2.1
  have hts := C.1.2.2.2.2
  unfold f_X11_weak_T at hf
  refine lv_astore (lv' := [(7, .ref b0), (0, .ref a0), (2, .int a2), (3, .int a3), (4, .int a4), (5, .ref a5)]) hx hb dX11_weak_83 hl (by decide) rfl (fun ls hl => hp_n (n := 85) rfl ?_)
  refine lv_aload hx hb dX11_weak_85 (lv_at hl 0 rfl) (hp_n (n := 87) rfl ?_)
  refine lv_aload_n hx hb dX11_weak_87 rfl (lv_at hl 1 rfl) (hp_n (n := 88) rfl ?_)
  refine q_getr (κ := 12) (k := 12) (φ := 612) (pc' := 91) C B (cw_k B.2.2 k0) fl_X11_62 rfl rfl rfl (cw_r B.2.2 k0 rfl rfl (by decide) (by decide)) dX11_weak_88 rfl (fun b1 eb1 kb1 => ?_)
  replace hf := ms_lE eb1 hf
  refine lv_aload_n hx hb dX11_weak_91 rfl (lv_at hl 1 rfl) (hp_n (n := 92) rfl ?_)
  refine q_getr (κ := 12) (k := 14) (φ := 614) (pc' := 95) C B (cw_k B.2.2 k0) fl_X11_69 rfl rfl rfl (cw_r B.2.2 k0 rfl rfl (by decide) (by decide)) dX11_weak_92 rfl (fun b2 eb2 kb2 => ?_)
  replace hf := ms_lE eb2 hf
  refine lv_aload hx hb dX11_weak_95 (lv_at hl 5 rfl) (hp_n (n := 97) rfl ?_)
  refine lv_iload_n hx hb dX11_weak_97 rfl (lv_at hl 2 rfl) (hp_n (n := 98) rfl ?_)
  obtain ⟨rh3, qh3, hf⟩ := ms_bE hf
  refine d_pi (pc' := 101) B (hp_runV (As := [.int a2]) (rest := [.ref b2, .ref b1, .ref b0]) C B (n_X2_markAt n Γ l α B.2.2.1 a5 (cw_k B.2.2 k5) a2 rh3 qh3) lb_X2_markAt lv_X2_markAt lk_X11_174 (cw_k B.2.2 k5) rfl (by decide) rfl hl.1 rfl (Nat.le_of_ble_eq_true rfl) dX11_weak_98 ⟨Nat.le_refl _, Nat.le_refl _⟩) rfl (fun Hh3 Lh3 Bh3 => ?_)
  refine lv_aload_n hx hb dX11_weak_101 rfl (lv_at hl 1 rfl) (hp_n (n := 102) rfl ?_)
  refine q_getr (κ := 12) (k := 1) (φ := 601) (pc' := 105) C Bh3 (cw_k Bh3.2.2 k0) fl_X11_16 rfl rfl rfl (cw_r Bh3.2.2 k0 rfl rfl (by decide) (by decide)) dX11_weak_102 rfl (fun b4 eb4 kb4 => ?_)
  replace hf := ms_lE eb4 hf
  refine lv_aload hx hb dX11_weak_105 (lv_at hl 5 rfl) (hp_n (n := 107) rfl ?_)
  refine lv_iload_n hx hb dX11_weak_107 rfl (lv_at hl 3 rfl) (hp_n (n := 108) rfl ?_)
  obtain ⟨rh5, αh5, qh5, hf⟩ := hq_cE hf
  refine d_ci (pc' := 111) Bh3 (hp_runV (As := [va_rf (some a5), .int a3]) (rest := [.int rh3, .ref b2, .ref b1, .ref b0]) C Bh3 (n_X10_headOf n Γ l α Bh3.2.2.1 b4 (cw_k Bh3.2.2 kb4) (some a5) (fun b h => by cases h; exact (cw_k Bh3.2.2 k5)) a3 (rh5, αh5) qh5) lb_X10_headOf lv_X10_headOf lk_X11_184 (cw_k Bh3.2.2 kb4) rfl (by decide) rfl hl.1 rfl (Nat.le_of_ble_eq_true rfl) dX11_weak_108 ⟨Nat.le_refl _, Nat.le_refl _⟩) (by decide) rfl (fun Hh5 Lh5 Bh5 => ?_)
  obtain ⟨αh6, qh6, hf⟩ := ms_bE hf
  refine d_cv (pc' := 114) Bh5 (hp_runV (As := [.ref b1, .ref b2, .int rh3, .int rh5]) (rest := []) C Bh5 (n_X4_seekThing n Γ l αh5 Bh5.2.2.1 b0 (cw_k Bh5.2.2 kb0) b1 (cw_k Bh5.2.2 kb1) b2 (cw_k Bh5.2.2 kb2) rh3 rh5 αh6 qh6) lb_X4_seekThing lv_X4_seekThing lk_X11_367 (cw_k Bh5.2.2 kb0) rfl (by decide) rfl hl.1 rfl (Nat.le_of_ble_eq_true rfl) dX11_weak_111 ⟨Nat.le_refl _, Nat.le_refl _⟩) (by decide) rfl (fun Hh6 Lh6 Bh6 => ?_)
  refine lv_iload hx hb dX11_weak_114 (lv_at hl 4 rfl) (hp_n (n := 116) rfl ?_)
  refine lv_if_ne (tgt := 129) hx hb dX11_weak_116 (by decide) (fun c7 => ?_) (fun c7 => hp_n (n := 119) rfl ?_)
  ·
    replace hf := ms_iF c7 hf
    refine lv_aload hx hb dX11_weak_129 (lv_at hl 0 rfl) (hp_n (n := 131) rfl ?_)
    refine q_geti (κ := 5) (k := 9) (φ := 259) (pc' := 134) C Bh6 (cw_k Bh6.2.2 kb0) fl_X11_373 rfl rfl rfl dX11_weak_131 rfl (fun x8 ex8 => ?_)
    replace hf := ms_lE ex8 hf
    refine lv_if_ne (tgt := 145) hx hb dX11_weak_134 (by decide) (fun c9 => ?_) (fun c9 => hp_n (n := 137) rfl ?_)
    ·
      replace hf := ms_iF c9 hf
      refine lv_aload_n hx hb dX11_weak_145 rfl (lv_at hl 1 rfl) (hp_n (n := 146) rfl ?_)
      refine lv_aload hx hb dX11_weak_146 (lv_at hl 0 rfl) (hp_n (n := 148) rfl ?_)
      refine q_geti (κ := 5) (k := 10) (φ := 260) (pc' := 151) C Bh6 (cw_k Bh6.2.2 kb0) fl_X11_376 rfl rfl rfl dX11_weak_148 rfl (fun x10 ex10 => ?_)
      replace hf := ms_lE ex10 hf
      obtain ⟨rh11, αh11, qh11, hf⟩ := hq_cE hf
      refine d_ci (pc' := 154) Bh6 (hp_runV (As := [.int x10]) (rest := []) C Bh6 (n_X11_answer n Γ l αh6 Bh6.2.2.1 a0 (cw_k Bh6.2.2 k0) x10 (rh11, αh11) qh11) lb_X11_answer lv_X11_answer lk_X11_115 (cw_k Bh6.2.2 k0) rfl (by decide) rfl hl.1 rfl (Nat.le_of_ble_eq_true rfl) dX11_weak_151 ⟨Nat.le_refl _, Nat.le_refl _⟩) (by decide) rfl (fun Hh11 Lh11 Bh11 => ?_)
      cases hf
      exact q_iretQ C Bh11 hr hlk (hP Bh11.2.2) (fun t ht => hq t Bh11.2.2 ht) dX11_weak_154
    ·
      replace hf := ms_iT c9 hf
      refine lv_aload_n hx hb dX11_weak_137 rfl (lv_at hl 1 rfl) (hp_n (n := 138) rfl ?_)
      refine lv_iconst (v := 5) hx hb dX11_weak_138 (by decide) (hp_n (n := 139) rfl ?_)
      obtain ⟨rh12, αh12, qh12, hf⟩ := hq_cE hf
      refine d_ci (pc' := 142) Bh6 (hp_runV (As := [.int (5 : Int32)]) (rest := []) C Bh6 (n_X11_refuse n Γ l αh6 Bh6.2.2.1 a0 (cw_k Bh6.2.2 k0) (5 : Int32) (rh12, αh12) qh12) lb_X11_refuse lv_X11_refuse lk_X11_98 (cw_k Bh6.2.2 k0) rfl (by decide) rfl hl.1 rfl (Nat.le_of_ble_eq_true rfl) dX11_weak_139 ⟨Nat.le_refl _, Nat.le_refl _⟩) (by decide) rfl (fun Hh12 Lh12 Bh12 => ?_)
      refine lv_goto (tgt := 154) hx hb dX11_weak_142 (by decide) ?_
      cases hf
      exact q_iretQ C Bh12 hr hlk (hP Bh12.2.2) (fun t ht => hq t Bh12.2.2 ht) dX11_weak_154
  ·
    replace hf := ms_iT c7 hf
    refine lv_aload_n hx hb dX11_weak_119 rfl (lv_at hl 1 rfl) (hp_n (n := 120) rfl ?_)
    refine lv_aload hx hb dX11_weak_120 (lv_at hl 0 rfl) (hp_n (n := 122) rfl ?_)
    refine q_geti (κ := 5) (k := 9) (φ := 259) (pc' := 125) C Bh6 (cw_k Bh6.2.2 kb0) fl_X11_373 rfl rfl rfl dX11_weak_122 rfl (fun x13 ex13 => ?_)
    replace hf := ms_lE ex13 hf
    obtain ⟨rh14, αh14, qh14, hf⟩ := hq_cE hf
    refine d_ci (pc' := 128) Bh6 (hp_runV (As := [.int x13]) (rest := []) C Bh6 (n_X11_answer n Γ l αh6 Bh6.2.2.1 a0 (cw_k Bh6.2.2 k0) x13 (rh14, αh14) qh14) lb_X11_answer lv_X11_answer lk_X11_115 (cw_k Bh6.2.2 k0) rfl (by decide) rfl hl.1 rfl (Nat.le_of_ble_eq_true rfl) dX11_weak_125 ⟨Nat.le_refl _, Nat.le_refl _⟩) (by decide) rfl (fun Hh14 Lh14 Bh14 => ?_)
    cases hf
    exact q_iretQ C Bh14 hr hlk (hP Bh14.2.2) (fun t ht => hq t Bh14.2.2 ht) dX11_weak_128
set_option maxRecDepth 100000 in
set_option maxHeartbeats 4000000 in
theorem un_X11_weakS (n : Nat) (Γ : hp_G) (l : Launch) (α : hp_T) (g : GC α) (a0 : Nat) (k0 : hp_K α a0 = 12) (a2 : Int32) (a3 : Int32) (a4 : Int32) (a5 : Nat) (k5 : hp_K α a5 = 3) (b0 : Nat) (kb0 : hp_K α b0 = 5) (res : Int32 × hp_T) (hf : f_X11_weak_T n α a0 a2 a3 a4 a5 b0 = some res) {p : Program} {e : Env} {s : State} {m : MethodId} {below : List Frame} {meth : Method} {c : Code} {args0 : Array Value} (C : hp_C Γ p m c cX11_weak 8 s args0 RX11) (hr : meth.sig.returnType = (some .int)) (hlk : meth.locks = false) (H0 : Heap) (L0 : List Loc) (B : hp_B Γ (cw w_X11_weak_S) s α α H0 L0) (Pst : Int32 → hp_T → Prop) (hP : cw w_X11_weak_S α res.2 → Pst res.1 res.2) (ls : Array Slot) (hl : lv_has ls 8 [(0, .ref a0), (2, .int a2), (3, .int a3), (4, .int a4), (5, .ref a5)]) : W p l e (hp_rm 72 0 0) s m args0 below meth c H0 L0 0 0 (MQ below (hp_Qi Γ Pst) args0 s 0 0 (hp_A Γ)) (F0 m 83 ls [.ref b0]) := by
  have hx := C.1.1
  have hb := C.1.2.1
  have hown := C.1.2.2.2.1
  have hts := C.1.2.2.2.2
  unfold f_X11_weak_T at hf
  refine lv_astore (lv' := [(7, .ref b0), (0, .ref a0), (2, .int a2), (3, .int a3), (4, .int a4), (5, .ref a5)]) hx hb dX11_weak_83 hl (by decide) rfl (fun ls hl => hp_n (n := 85) rfl ?_)
  refine lv_aload hx hb dX11_weak_85 (lv_at hl 0 rfl) (hp_n (n := 87) rfl ?_)
  refine lv_aload_n hx hb dX11_weak_87 rfl (lv_at hl 1 rfl) (hp_n (n := 88) rfl ?_)
  refine q_getr (κ := 12) (k := 12) (φ := 612) (pc' := 91) C B (cw_k B.2.2 k0) fl_X11_62 rfl rfl rfl (cw_r B.2.2 k0 rfl rfl (by decide) (by decide)) dX11_weak_88 rfl (fun b1 eb1 kb1 => ?_)
  replace hf := ms_lE eb1 hf
  refine lv_aload_n hx hb dX11_weak_91 rfl (lv_at hl 1 rfl) (hp_n (n := 92) rfl ?_)
  refine q_getr (κ := 12) (k := 14) (φ := 614) (pc' := 95) C B (cw_k B.2.2 k0) fl_X11_69 rfl rfl rfl (cw_r B.2.2 k0 rfl rfl (by decide) (by decide)) dX11_weak_92 rfl (fun b2 eb2 kb2 => ?_)
  replace hf := ms_lE eb2 hf
  refine lv_aload hx hb dX11_weak_95 (lv_at hl 5 rfl) (hp_n (n := 97) rfl ?_)
  refine lv_iload_n hx hb dX11_weak_97 rfl (lv_at hl 2 rfl) (hp_n (n := 98) rfl ?_)
  obtain ⟨rh3, qh3, hf⟩ := ms_bE hf
  refine d_pi (pc' := 101) B (hp_runV (As := [.int a2]) (rest := [.ref b2, .ref b1, .ref b0]) C B (n_X2_markAt n Γ l α B.2.2.1 a5 (cw_k B.2.2 k5) a2 rh3 qh3) lb_X2_markAt lv_X2_markAt lk_X11_174 (cw_k B.2.2 k5) rfl (by decide) rfl hl.1 rfl (Nat.le_of_ble_eq_true rfl) dX11_weak_98 ⟨Nat.le_refl _, Nat.le_refl _⟩) rfl (fun Hh3 Lh3 Bh3 => ?_)
  refine lv_aload_n hx hb dX11_weak_101 rfl (lv_at hl 1 rfl) (hp_n (n := 102) rfl ?_)
  refine q_getr (κ := 12) (k := 1) (φ := 601) (pc' := 105) C Bh3 (cw_k Bh3.2.2 k0) fl_X11_16 rfl rfl rfl (cw_r Bh3.2.2 k0 rfl rfl (by decide) (by decide)) dX11_weak_102 rfl (fun b4 eb4 kb4 => ?_)
  replace hf := ms_lE eb4 hf
  refine lv_aload hx hb dX11_weak_105 (lv_at hl 5 rfl) (hp_n (n := 107) rfl ?_)
  refine lv_iload_n hx hb dX11_weak_107 rfl (lv_at hl 3 rfl) (hp_n (n := 108) rfl ?_)
  obtain ⟨rh5, αh5, qh5, hf⟩ := hq_cE hf
  refine d_ci (pc' := 111) Bh3 (hp_runV (As := [va_rf (some a5), .int a3]) (rest := [.int rh3, .ref b2, .ref b1, .ref b0]) C Bh3 (n_X10_headOf n Γ l α Bh3.2.2.1 b4 (cw_k Bh3.2.2 kb4) (some a5) (fun b h => by cases h; exact (cw_k Bh3.2.2 k5)) a3 (rh5, αh5) qh5) lb_X10_headOf lv_X10_headOf lk_X11_184 (cw_k Bh3.2.2 kb4) rfl (by decide) rfl hl.1 rfl (Nat.le_of_ble_eq_true rfl) dX11_weak_108 ⟨Nat.le_refl _, Nat.le_refl _⟩) (by decide) rfl (fun Hh5 Lh5 Bh5 => ?_)
  obtain ⟨αh6, qh6, hf⟩ := ms_bE hf
  refine d_cv (pc' := 114) Bh5 (hp_runV (As := [.ref b1, .ref b2, .int rh3, .int rh5]) (rest := []) C Bh5 (n_X4_seekThing n Γ l αh5 Bh5.2.2.1 b0 (cw_k Bh5.2.2 kb0) b1 (cw_k Bh5.2.2 kb1) b2 (cw_k Bh5.2.2 kb2) rh3 rh5 αh6 qh6) lb_X4_seekThing lv_X4_seekThing lk_X11_367 (cw_k Bh5.2.2 kb0) rfl (by decide) rfl hl.1 rfl (Nat.le_of_ble_eq_true rfl) dX11_weak_111 ⟨Nat.le_refl _, Nat.le_refl _⟩) (by decide) rfl (fun Hh6 Lh6 Bh6 => ?_)
  refine lv_iload hx hb dX11_weak_114 (lv_at hl 4 rfl) (hp_n (n := 116) rfl ?_)
  refine lv_if_ne (tgt := 129) hx hb dX11_weak_116 (by decide) (fun c7 => ?_) (fun c7 => hp_n (n := 119) rfl ?_)
  ·
    replace hf := ms_iF c7 hf
    refine lv_aload hx hb dX11_weak_129 (lv_at hl 0 rfl) (hp_n (n := 131) rfl ?_)
    refine q_geti (κ := 5) (k := 9) (φ := 259) (pc' := 134) C Bh6 (cw_k Bh6.2.2 kb0) fl_X11_373 rfl rfl rfl dX11_weak_131 rfl (fun x8 ex8 => ?_)
    replace hf := ms_lE ex8 hf
    refine lv_if_ne (tgt := 145) hx hb dX11_weak_134 (by decide) (fun c9 => ?_) (fun c9 => hp_n (n := 137) rfl ?_)
    ·
      replace hf := ms_iF c9 hf
      refine lv_aload_n hx hb dX11_weak_145 rfl (lv_at hl 1 rfl) (hp_n (n := 146) rfl ?_)
      refine lv_aload hx hb dX11_weak_146 (lv_at hl 0 rfl) (hp_n (n := 148) rfl ?_)
      refine q_geti (κ := 5) (k := 10) (φ := 260) (pc' := 151) C Bh6 (cw_k Bh6.2.2 kb0) fl_X11_376 rfl rfl rfl dX11_weak_148 rfl (fun x10 ex10 => ?_)
      replace hf := ms_lE ex10 hf
      obtain ⟨rh11, αh11, qh11, hf⟩ := hq_cE hf
      refine d_ci (pc' := 154) Bh6 (hp_runV (As := [.int x10]) (rest := []) C Bh6 (n_X11_answer n Γ l αh6 Bh6.2.2.1 a0 (cw_k Bh6.2.2 k0) x10 (rh11, αh11) qh11) lb_X11_answer lv_X11_answer lk_X11_115 (cw_k Bh6.2.2 k0) rfl (by decide) rfl hl.1 rfl (Nat.le_of_ble_eq_true rfl) dX11_weak_151 ⟨Nat.le_refl _, Nat.le_refl _⟩) (by decide) rfl (fun Hh11 Lh11 Bh11 => ?_)
      cases hf
      exact q_iret C Bh11 hr hlk (hP Bh11.2.2) dX11_weak_154
    ·
      replace hf := ms_iT c9 hf
      refine lv_aload_n hx hb dX11_weak_137 rfl (lv_at hl 1 rfl) (hp_n (n := 138) rfl ?_)
      refine lv_iconst (v := 5) hx hb dX11_weak_138 (by decide) (hp_n (n := 139) rfl ?_)
      obtain ⟨rh12, αh12, qh12, hf⟩ := hq_cE hf
      refine d_ci (pc' := 142) Bh6 (hp_runV (As := [.int (5 : Int32)]) (rest := []) C Bh6 (n_X11_refuse n Γ l αh6 Bh6.2.2.1 a0 (cw_k Bh6.2.2 k0) (5 : Int32) (rh12, αh12) qh12) lb_X11_refuse lv_X11_refuse lk_X11_98 (cw_k Bh6.2.2 k0) rfl (by decide) rfl hl.1 rfl (Nat.le_of_ble_eq_true rfl) dX11_weak_139 ⟨Nat.le_refl _, Nat.le_refl _⟩) (by decide) rfl (fun Hh12 Lh12 Bh12 => ?_)
      refine lv_goto (tgt := 154) hx hb dX11_weak_142 (by decide) ?_
      cases hf
      exact q_iret C Bh12 hr hlk (hP Bh12.2.2) dX11_weak_154
  ·
    replace hf := ms_iT c7 hf
    refine lv_aload_n hx hb dX11_weak_119 rfl (lv_at hl 1 rfl) (hp_n (n := 120) rfl ?_)
    refine lv_aload hx hb dX11_weak_120 (lv_at hl 0 rfl) (hp_n (n := 122) rfl ?_)
    refine q_geti (κ := 5) (k := 9) (φ := 259) (pc' := 125) C Bh6 (cw_k Bh6.2.2 kb0) fl_X11_373 rfl rfl rfl dX11_weak_122 rfl (fun x13 ex13 => ?_)
    replace hf := ms_lE ex13 hf
    obtain ⟨rh14, αh14, qh14, hf⟩ := hq_cE hf
    refine d_ci (pc' := 128) Bh6 (hp_runV (As := [.int x13]) (rest := []) C Bh6 (n_X11_answer n Γ l αh6 Bh6.2.2.1 a0 (cw_k Bh6.2.2 k0) x13 (rh14, αh14) qh14) lb_X11_answer lv_X11_answer lk_X11_115 (cw_k Bh6.2.2 k0) rfl (by decide) rfl hl.1 rfl (Nat.le_of_ble_eq_true rfl) dX11_weak_125 ⟨Nat.le_refl _, Nat.le_refl _⟩) (by decide) rfl (fun Hh14 Lh14 Bh14 => ?_)
    cases hf
    exact q_iret C Bh14 hr hlk (hP Bh14.2.2) dX11_weak_128
def f_X11_weak_P_J11 (n : Nat) (a0 : Nat) (αh1 : hp_T) : Option (Option Nat × Int32 × hp_T) :=
  hq_c (f_X11_refuse n αh1 a0 (1 : Int32)) fun rh2 αh2 =>
  some (none, rh2, αh2)
def f_X11_weak_P_J46 (n : Nat) (a0 : Nat) (αh8 : hp_T) (v6_h8 : Int32) : Option (Option Nat × Int32 × hp_T) :=
  hq_c (f_X11_refuse n αh8 a0 v6_h8) fun rh9 αh9 =>
  some (none, rh9, αh9)
def f_X11_weak_P (n : Nat) (α : hp_T) (a0 : Nat) (a1 : Int32) (a2 : Int32) (a3 : Int32) (a4 : Int32) : Option (Option Nat × Int32 × hp_T) :=
  if a4 < 0 then
    f_X11_weak_P_J11 n a0 α
  else
    if a4 ≤ (1 : Int32) then
      ms_l (hp_R α 601 a0) fun b5 =>
      ms_b (f_X10_logAt n α b5 a1) fun rh6 =>
      hq_m rh6 (
        ms_b (f_X11_wrongInclusion n α none a2 a3) fun rh7 =>
        if rh7 = 0 then
          f_X11_weak_P_J46 n a0 α rh7
        else
          f_X11_weak_P_J46 n a0 α rh7) fun bh6 =>
      ms_b (f_X11_wrongInclusion n α (some bh6) a2 a3) fun rh11 =>
      if rh11 = 0 then
        ms_l (hp_R α 612 a0) fun b15 =>
        ms_b (f_X8_toThing n α b15 a2 a3) fun αh16 =>
        ms_l (hp_R αh16 601 a0) fun b17 =>
        ms_l (hp_R αh16 612 a0) fun b18 =>
        ms_l (hp_R αh16 614 a0) fun b19 =>
        ms_b (f_X10_marksAlong n αh16 b17 b18 (some bh6) b19) fun αh20 =>
        some (some bh6, 0, αh20)
      else
        f_X11_weak_P_J46 n a0 α rh11
    else
      f_X11_weak_P_J11 n a0 α
set_option maxRecDepth 100000 in
set_option maxHeartbeats 4000000 in
theorem n_X11_weak_N (n : Nat) (Γ : hp_G) (l : Launch) (α : hp_T) (g : GC α) (Hs : Heap) (a0 : Nat) (k0 : hp_K α a0 = 12) (a1 : Int32) (a2 : Int32) (a3 : Int32) (a4 : Int32) (hN : hp_N α 618 a0 = none) (mm : Int32) (M : Nat) (hm : mm.toInt = (M : Int)) (hM : 101 ≤ M) (hM2 : M ≤ 65521) (V : Int32 → hp_T → Prop) (res : Option Nat × Int32 × hp_T) (hf : f_X11_weak_P n α a0 a1 a2 a3 a4 = some res) (hE : res.1 = none → V res.2.1 res.2.2) (hmα : ∀ β, β = res.2.2 → hp_I β 550 (hp_R β 601 a0) = mm) (hT : ∀ {lg : Nat}, res.1 = some lg → ∀ γ b1, (cg w_X4_prepare res.2.2 γ ∧ hp_K γ b1 = 5 ∧ hp_N γ 618 a0 = some b1) → TB γ b1 M → hp_I γ 252 b1 = mm → ∃ t : Int32 × hp_T, f_X11_weak_T n γ a0 a2 a3 a4 lg b1 = some t ∧ V t.1 t.2) : Met l yX11_weak (hp_ws yX11_weak cX11_weak 8 (some .int)) (hp_rm 72 9 131316) (hp_PcH Γ α Hs [.ref a0, .int a1, .int a2, .int a3, .int a4]) (va_Qi (fun r β => cg w_X11_weak_S α β ∧ V r β) (hp_Bz Γ Hs a0) (hp_A Γ)) 9 131316 (hp_A Γ) := by
  unfold f_X11_weak_P at hf
  refine hp_startH (by decide) ?_
  intro p e s m below meth c C hr hlk B0 hHs
  have C : hp_C Γ p m c cX11_weak 8 s ([.ref a0, .int a1, .int a2, .int a3, .int a4] : List Value).toArray RX11 := C
  have hx := C.1.1
  have hb := C.1.2.1
  have hown := C.1.2.2.2.1
  have hts := C.1.2.2.2.2
  have B : hp_B Γ (cw w_X11_weak_S) s α α s.heap [] := ⟨B0.1, B0.2.1, cw_rf g⟩
  have hl := lv_entry ([.ref a0, .int a1, .int a2, .int a3, .int a4]) (n := 8) (Nat.le_of_ble_eq_true rfl)
  show W p l e (hp_rm 72 9 131316) s m ([.ref a0, .int a1, .int a2, .int a3, .int a4] : List Value).toArray below meth c s.heap [] 0 0 (MQ below (va_Qi (fun r β => cg w_X11_weak_S α β ∧ V r β) (hp_Bz Γ Hs a0) (hp_A Γ)) ([.ref a0, .int a1, .int a2, .int a3, .int a4] : List Value).toArray s 9 131316 (hp_A Γ)) (entryFrame m ([.ref a0, .int a1, .int a2, .int a3, .int a4] : List Value).toArray 8)
  rw [lg_entry_eq]
  generalize (lg_sl ([.ref a0, .int a1, .int a2, .int a3, .int a4]) ++ List.replicate (8 - (lg_sl ([.ref a0, .int a1, .int a2, .int a3, .int a4])).length) Slot.unset).toArray = ls at hl ⊢
  have hl : lv_has ls 8 [(0, .ref a0), (1, .int a1), (2, .int a2), (3, .int a3), (4, .int a4)] := hl
  refine lv_iload hx hb dX11_weak_0 (lv_at hl 4 rfl) (hp_n (n := 2) rfl ?_)
  have J11 : ∀ (αh1 : hp_T) (Hh1 : Heap) (Lh1 : List Loc) (Bh1 : hp_B Γ (cw w_X11_weak_S) s α αh1 Hh1 Lh1) (ls : Array Slot) (hl : lv_has ls 8 [(0, .ref a0)]) (hf : f_X11_weak_P_J11 n a0 αh1 = some res), W p l e (hp_rm 72 9 131316) s m ([.ref a0, .int a1, .int a2, .int a3, .int a4] : List Value).toArray below meth c Hh1 Lh1 0 0 (MQ below (va_Qi (fun r β => cg w_X11_weak_S α β ∧ V r β) (hp_Bz Γ Hs a0) (hp_A Γ)) ([.ref a0, .int a1, .int a2, .int a3, .int a4] : List Value).toArray s 9 131316 (hp_A Γ)) (F0 m 11 ls []) := by
    intro αh1 Hh1 Lh1 Bh1 ls hl hf
    unfold f_X11_weak_P_J11 at hf
    refine lv_aload_n hx hb dX11_weak_11 rfl (lv_at hl 0 rfl) (hp_n (n := 12) rfl ?_)
    refine lv_iconst (v := 1) hx hb dX11_weak_12 (by decide) (hp_n (n := 13) rfl ?_)
    obtain ⟨rh2, αh2, qh2, hf⟩ := hq_cE hf
    refine d_ci (pc' := 16) Bh1 (hp_runV (As := [.int (1 : Int32)]) (rest := []) C Bh1 (n_X11_refuse n Γ l αh1 Bh1.2.2.1 a0 (cw_k Bh1.2.2 k0) (1 : Int32) (rh2, αh2) qh2) lb_X11_refuse lv_X11_refuse lk_X11_98 (cw_k Bh1.2.2 k0) rfl (by decide) rfl hl.1 rfl (Nat.le_of_ble_eq_true rfl) dX11_weak_13 ⟨Nat.zero_le _, Nat.zero_le _⟩) (by decide) rfl (fun Hh2 Lh2 Bh2 => ?_)
    cases hf
    exact q_iretZ C Bh2 hr hlk hHs ⟨cg_cw Bh2.2.2, hE rfl⟩ dX11_weak_16
  refine lv_if_lt (tgt := 11) hx hb dX11_weak_2 (by decide) (fun c3 => ?_) (fun c3 => hp_n (n := 5) rfl ?_)
  ·
    replace hf := ms_iT c3 hf
    exact J11 α s.heap [] B ls (lv_sub hl [0] rfl) hf
  ·
    replace hf := ms_iF c3 hf
    refine lv_iload hx hb dX11_weak_5 (lv_at hl 4 rfl) (hp_n (n := 7) rfl ?_)
    refine lv_iconst (v := 1) hx hb dX11_weak_7 (by decide) (hp_n (n := 8) rfl ?_)
    refine lv_icmp_le (tgt := 17) hx hb dX11_weak_8 (by decide) (fun c4 => ?_) (fun c4 => hp_n (n := 11) rfl ?_)
    ·
      replace hf := ms_iT c4 hf
      refine lv_aload_n hx hb dX11_weak_17 rfl (lv_at hl 0 rfl) (hp_n (n := 18) rfl ?_)
      refine q_getr (κ := 12) (k := 1) (φ := 601) (pc' := 21) C B (cw_k B.2.2 k0) fl_X11_16 rfl rfl rfl (cw_r B.2.2 k0 rfl rfl (by decide) (by decide)) dX11_weak_18 rfl (fun b5 eb5 kb5 => ?_)
      replace hf := ms_lE eb5 hf
      refine lv_iload_n hx hb dX11_weak_21 rfl (lv_at hl 1 rfl) (hp_n (n := 22) rfl ?_)
      obtain ⟨rh6, qh6, hf⟩ := ms_bE hf
      refine d_pq (pc' := 25) B (hp_runV (As := [.int a1]) (rest := []) C B (n_X10_logAt n Γ l α B.2.2.1 b5 (cw_k B.2.2 kb5) a1 rh6 qh6) lb_X10_logAt lv_X10_logAt lk_X11_163 (cw_k B.2.2 kb5) rfl (by decide) rfl hl.1 rfl (Nat.le_of_ble_eq_true rfl) dX11_weak_22 ⟨Nat.zero_le _, Nat.zero_le _⟩) rfl (fun Hh6 Lh6 Bh6 kh6 => ?_)
      rcases rh6 with _ | bh6
      ·
        replace hf := hq_N hf
        refine lv_astoreN (lv' := [(5, .null), (0, .ref a0), (1, .int a1), (2, .int a2), (3, .int a3), (4, .int a4)]) hx hb dX11_weak_25 hl (by decide) rfl (fun ls hl => hp_n (n := 27) rfl ?_)
        refine lv_aloadN hx hb dX11_weak_27 (lv_at hl 0 rfl) (hp_n (n := 29) rfl ?_)
        refine lv_iload_n hx hb dX11_weak_29 rfl (lv_at hl 3 rfl) (hp_n (n := 30) rfl ?_)
        refine lv_iload_n hx hb dX11_weak_30 rfl (lv_at hl 4 rfl) (hp_n (n := 31) rfl ?_)
        obtain ⟨rh7, qh7, hf⟩ := ms_bE hf
        refine d_pi (pc' := 34) Bh6 (hp_runS (As := [va_rf none, .int a2, .int a3]) (rest := []) C Bh6 (n_X11_wrongInclusion n Γ l α Bh6.2.2.1 none (fun b h => by cases h) a2 a3 rh7 qh7) lb_X11_wrongInclusion ls_X11_wrongInclusion lk_X11_264 rfl (by decide) rfl hl.1 rfl (Nat.le_of_ble_eq_true rfl) dX11_weak_31 ⟨Nat.zero_le _, Nat.zero_le _⟩) rfl (fun Hh7 Lh7 Bh7 => ?_)
        refine lv_istore (lv' := [(6, .int rh7), (5, .null), (0, .ref a0), (1, .int a1), (2, .int a2), (3, .int a3), (4, .int a4)]) hx hb dX11_weak_34 hl (by decide) rfl (fun ls hl => hp_n (n := 36) rfl ?_)
        refine lv_iload hx hb dX11_weak_36 (lv_at hl 0 rfl) (hp_n (n := 38) rfl ?_)
        have J46 : ∀ (αh8 : hp_T) (Hh8 : Heap) (Lh8 : List Loc) (Bh8 : hp_B Γ (cw w_X11_weak_S) s α αh8 Hh8 Lh8) (v6_h8 : Int32) (ls : Array Slot) (hl : lv_has ls 8 [(0, .ref a0), (6, .int v6_h8)]) (hf : f_X11_weak_P_J46 n a0 αh8 v6_h8 = some res), W p l e (hp_rm 72 9 131316) s m ([.ref a0, .int a1, .int a2, .int a3, .int a4] : List Value).toArray below meth c Hh8 Lh8 0 0 (MQ below (va_Qi (fun r β => cg w_X11_weak_S α β ∧ V r β) (hp_Bz Γ Hs a0) (hp_A Γ)) ([.ref a0, .int a1, .int a2, .int a3, .int a4] : List Value).toArray s 9 131316 (hp_A Γ)) (F0 m 46 ls []) := by
          intro αh8 Hh8 Lh8 Bh8 v6_h8 ls hl hf
          unfold f_X11_weak_P_J46 at hf
          refine lv_aload_n hx hb dX11_weak_46 rfl (lv_at hl 0 rfl) (hp_n (n := 47) rfl ?_)
          refine lv_iload hx hb dX11_weak_47 (lv_at hl 1 rfl) (hp_n (n := 49) rfl ?_)
          obtain ⟨rh9, αh9, qh9, hf⟩ := hq_cE hf
          refine d_ci (pc' := 52) Bh8 (hp_runV (As := [.int v6_h8]) (rest := []) C Bh8 (n_X11_refuse n Γ l αh8 Bh8.2.2.1 a0 (cw_k Bh8.2.2 k0) v6_h8 (rh9, αh9) qh9) lb_X11_refuse lv_X11_refuse lk_X11_98 (cw_k Bh8.2.2 k0) rfl (by decide) rfl hl.1 rfl (Nat.le_of_ble_eq_true rfl) dX11_weak_49 ⟨Nat.zero_le _, Nat.zero_le _⟩) (by decide) rfl (fun Hh9 Lh9 Bh9 => ?_)
          cases hf
          exact q_iretZ C Bh9 hr hlk hHs ⟨cg_cw Bh9.2.2, hE rfl⟩ dX11_weak_52
        refine lv_if_ne (tgt := 46) hx hb dX11_weak_38 (by decide) (fun c10 => ?_) (fun c10 => hp_n (n := 41) rfl ?_)
        ·
          replace hf := ms_iF c10 hf
          exact J46 α Hh7 Lh7 Bh7 rh7 ls (lv_sub hl [2, 0] rfl) hf
        ·
          replace hf := ms_iT c10 hf
          refine lv_aloadN hx hb dX11_weak_41 (lv_at hl 1 rfl) (hp_n (n := 43) rfl ?_)
          refine lv_ifnonnullN hx hb dX11_weak_43 (hp_n (n := 46) rfl ?_)
          exact J46 α Hh7 Lh7 Bh7 rh7 ls (lv_sub hl [2, 0] rfl) hf
      ·
        replace hf := hq_S hf
        have kbh6 := kh6 bh6 rfl
        refine lv_astore (lv' := [(5, .ref bh6), (0, .ref a0), (1, .int a1), (2, .int a2), (3, .int a3), (4, .int a4)]) hx hb dX11_weak_25 hl (by decide) rfl (fun ls hl => hp_n (n := 27) rfl ?_)
        refine lv_aload hx hb dX11_weak_27 (lv_at hl 0 rfl) (hp_n (n := 29) rfl ?_)
        refine lv_iload_n hx hb dX11_weak_29 rfl (lv_at hl 3 rfl) (hp_n (n := 30) rfl ?_)
        refine lv_iload_n hx hb dX11_weak_30 rfl (lv_at hl 4 rfl) (hp_n (n := 31) rfl ?_)
        obtain ⟨rh11, qh11, hf⟩ := ms_bE hf
        refine d_pi (pc' := 34) Bh6 (hp_runS (As := [va_rf (some bh6), .int a2, .int a3]) (rest := []) C Bh6 (n_X11_wrongInclusion n Γ l α Bh6.2.2.1 (some bh6) (fun b h => by cases h; exact (cw_k Bh6.2.2 kbh6)) a2 a3 rh11 qh11) lb_X11_wrongInclusion ls_X11_wrongInclusion lk_X11_264 rfl (by decide) rfl hl.1 rfl (Nat.le_of_ble_eq_true rfl) dX11_weak_31 ⟨Nat.zero_le _, Nat.zero_le _⟩) rfl (fun Hh11 Lh11 Bh11 => ?_)
        refine lv_istore (lv' := [(6, .int rh11), (5, .ref bh6), (0, .ref a0), (1, .int a1), (2, .int a2), (3, .int a3), (4, .int a4)]) hx hb dX11_weak_34 hl (by decide) rfl (fun ls hl => hp_n (n := 36) rfl ?_)
        refine lv_iload hx hb dX11_weak_36 (lv_at hl 0 rfl) (hp_n (n := 38) rfl ?_)
        have J46 : ∀ (αh12 : hp_T) (Hh12 : Heap) (Lh12 : List Loc) (Bh12 : hp_B Γ (cw w_X11_weak_S) s α αh12 Hh12 Lh12) (v6_h12 : Int32) (ls : Array Slot) (hl : lv_has ls 8 [(0, .ref a0), (6, .int v6_h12)]) (hf : f_X11_weak_P_J46 n a0 αh12 v6_h12 = some res), W p l e (hp_rm 72 9 131316) s m ([.ref a0, .int a1, .int a2, .int a3, .int a4] : List Value).toArray below meth c Hh12 Lh12 0 0 (MQ below (va_Qi (fun r β => cg w_X11_weak_S α β ∧ V r β) (hp_Bz Γ Hs a0) (hp_A Γ)) ([.ref a0, .int a1, .int a2, .int a3, .int a4] : List Value).toArray s 9 131316 (hp_A Γ)) (F0 m 46 ls []) := by
          intro αh12 Hh12 Lh12 Bh12 v6_h12 ls hl hf
          unfold f_X11_weak_P_J46 at hf
          refine lv_aload_n hx hb dX11_weak_46 rfl (lv_at hl 0 rfl) (hp_n (n := 47) rfl ?_)
          refine lv_iload hx hb dX11_weak_47 (lv_at hl 1 rfl) (hp_n (n := 49) rfl ?_)
          obtain ⟨rh13, αh13, qh13, hf⟩ := hq_cE hf
          refine d_ci (pc' := 52) Bh12 (hp_runV (As := [.int v6_h12]) (rest := []) C Bh12 (n_X11_refuse n Γ l αh12 Bh12.2.2.1 a0 (cw_k Bh12.2.2 k0) v6_h12 (rh13, αh13) qh13) lb_X11_refuse lv_X11_refuse lk_X11_98 (cw_k Bh12.2.2 k0) rfl (by decide) rfl hl.1 rfl (Nat.le_of_ble_eq_true rfl) dX11_weak_49 ⟨Nat.zero_le _, Nat.zero_le _⟩) (by decide) rfl (fun Hh13 Lh13 Bh13 => ?_)
          cases hf
          exact q_iretZ C Bh13 hr hlk hHs ⟨cg_cw Bh13.2.2, hE rfl⟩ dX11_weak_52
        refine lv_if_ne (tgt := 46) hx hb dX11_weak_38 (by decide) (fun c14 => ?_) (fun c14 => hp_n (n := 41) rfl ?_)
        ·
          replace hf := ms_iF c14 hf
          exact J46 α Hh11 Lh11 Bh11 rh11 ls (lv_sub hl [2, 0] rfl) hf
        ·
          replace hf := ms_iT c14 hf
          refine lv_aload hx hb dX11_weak_41 (lv_at hl 1 rfl) (hp_n (n := 43) rfl ?_)
          refine lv_ifnonnull (tgt := 53) hx hb dX11_weak_43 (by decide) ?_
          refine lv_aload_n hx hb dX11_weak_53 rfl (lv_at hl 2 rfl) (hp_n (n := 54) rfl ?_)
          refine q_getr (κ := 12) (k := 12) (φ := 612) (pc' := 57) C Bh11 (cw_k Bh11.2.2 k0) fl_X11_62 rfl rfl rfl (cw_r Bh11.2.2 k0 rfl rfl (by decide) (by decide)) dX11_weak_54 rfl (fun b15 eb15 kb15 => ?_)
          replace hf := ms_lE eb15 hf
          refine lv_iload_n hx hb dX11_weak_57 rfl (lv_at hl 4 rfl) (hp_n (n := 58) rfl ?_)
          refine lv_iload_n hx hb dX11_weak_58 rfl (lv_at hl 5 rfl) (hp_n (n := 59) rfl ?_)
          obtain ⟨αh16, qh16, hf⟩ := ms_bE hf
          refine d_cv (pc' := 62) Bh11 (hp_runV (As := [.int a2, .int a3]) (rest := []) C Bh11 (n_X8_toThing n Γ l α Bh11.2.2.1 b15 (cw_k Bh11.2.2 kb15) a2 a3 αh16 qh16) lb_X8_toThing lv_X8_toThing lk_X11_267 (cw_k Bh11.2.2 kb15) rfl (by decide) rfl hl.1 rfl (Nat.le_of_ble_eq_true rfl) dX11_weak_59 ⟨Nat.zero_le _, Nat.zero_le _⟩) (by decide) rfl (fun Hh16 Lh16 Bh16 => ?_)
          refine lv_aload_n hx hb dX11_weak_62 rfl (lv_at hl 2 rfl) (hp_n (n := 63) rfl ?_)
          refine q_getr (κ := 12) (k := 1) (φ := 601) (pc' := 66) C Bh16 (cw_k Bh16.2.2 k0) fl_X11_16 rfl rfl rfl (cw_r Bh16.2.2 k0 rfl rfl (by decide) (by decide)) dX11_weak_63 rfl (fun b17 eb17 kb17 => ?_)
          replace hf := ms_lE eb17 hf
          refine lv_aload_n hx hb dX11_weak_66 rfl (lv_at hl 2 rfl) (hp_n (n := 67) rfl ?_)
          refine q_getr (κ := 12) (k := 12) (φ := 612) (pc' := 70) C Bh16 (cw_k Bh16.2.2 k0) fl_X11_62 rfl rfl rfl (cw_r Bh16.2.2 k0 rfl rfl (by decide) (by decide)) dX11_weak_67 rfl (fun b18 eb18 kb18 => ?_)
          replace hf := ms_lE eb18 hf
          refine lv_aload hx hb dX11_weak_70 (lv_at hl 1 rfl) (hp_n (n := 72) rfl ?_)
          refine lv_aload_n hx hb dX11_weak_72 rfl (lv_at hl 2 rfl) (hp_n (n := 73) rfl ?_)
          refine q_getr (κ := 12) (k := 14) (φ := 614) (pc' := 76) C Bh16 (cw_k Bh16.2.2 k0) fl_X11_69 rfl rfl rfl (cw_r Bh16.2.2 k0 rfl rfl (by decide) (by decide)) dX11_weak_73 rfl (fun b19 eb19 kb19 => ?_)
          replace hf := ms_lE eb19 hf
          obtain ⟨αh20, qh20, hf⟩ := ms_bE hf
          refine d_cv (pc' := 79) Bh16 (hp_runV (As := [.ref b18, va_rf (some bh6), .ref b19]) (rest := []) C Bh16 (n_X10_marksAlong n Γ l αh16 Bh16.2.2.1 b17 (cw_k Bh16.2.2 kb17) b18 (cw_k Bh16.2.2 kb18) (some bh6) (fun b h => by cases h; exact (cw_k Bh16.2.2 kbh6)) b19 (cw_k Bh16.2.2 kb19) αh20 qh20) lb_X10_marksAlong lv_X10_marksAlong lk_X11_270 (cw_k Bh16.2.2 kb17) rfl (by decide) rfl hl.1 rfl (Nat.le_of_ble_eq_true rfl) dX11_weak_76 ⟨Nat.zero_le _, Nat.zero_le _⟩) (by decide) rfl (fun Hh20 Lh20 Bh20 => ?_)
          refine lv_aload_n hx hb dX11_weak_79 rfl (lv_at hl 2 rfl) (hp_n (n := 80) rfl ?_)
          cases hf
          have kaN := (cw_k Bh20.2.2 k0)
          have BN : hp_B Γ (fun _ _ => True) s α αh20 Hh20 Lh20 := ⟨Bh20.1, Bh20.2.1, trivial⟩
          refine q_cq (pc' := 83) BN (hp_runV (As := []) (rest := []) C BN (t_X11_preparedRoots_N2 Γ l αh20 Bh20.2.2.1 a0 kaN (by rw [Bh20.2.2.2.2.1]; exact hN) mm M hm hM hM2 (hmα _ rfl)) lb_X11_preparedRoots lv_X11_preparedRoots lk_X11_363 kaN rfl (by decide) rfl hl.1 rfl (Nat.le_of_ble_eq_true rfl) dX11_weak_80 ⟨Nat.le_refl _, Nat.le_refl _⟩) (fun _ _ _ => trivial) rfl (fun rN αN HN LN pN BM => ?_)
          obtain ⟨b0, rfl, cN, kN, nN, tN, iN⟩ := pN
          obtain ⟨t, hf, hV⟩ := hT rfl αN b0 ⟨cN, kN, nN⟩ tN iN
          have ckN : ∀ b, hp_K α b ≠ 0 → hp_K αN b = hp_K α b := fun b hb => by rw [cN.2.1 b (by rw [Bh20.2.2.2.1]; exact hb), Bh20.2.2.2.1]
          exact un_X11_weak n Γ l αN cN.1 a0 ((ckN _ (by rw [k0]; decide)).trans k0) a2 a3 a4 bh6 ((ckN _ (by rw [kbh6]; decide)).trans kbh6) b0 kN t hf C hr hlk HN LN ⟨BM.1, BM.2.1, cw_rf cN.1⟩ _ _ (fun hw => ⟨cg_tr (cg_tr (cg_cw Bh20.2.2) cN (by decide)) (cg_cw hw) (by decide), hV⟩) (fun t2 hw hR => ⟨hR, fun hn => by rw [hw.2.2.1, nN] at hn; cases hn⟩) ls (lv_sub hl [2, 4, 5, 6, 1] rfl)
    ·
      replace hf := ms_iF c4 hf
      exact J11 α s.heap [] B ls (lv_sub hl [0] rfl) hf
set_option maxRecDepth 100000 in
set_option maxHeartbeats 4000000 in
theorem n_X11_weak_S (n : Nat) (Γ : hp_G) (l : Launch) (α : hp_T) (g : GC α) (a0 : Nat) (k0 : hp_K α a0 = 12) (a1 : Int32) (a2 : Int32) (a3 : Int32) (a4 : Int32) (b0 : Nat) (hN : hp_N α 618 a0 = some b0) (mm : Int32) (M : Nat) (hm : mm.toInt = (M : Int)) (hM : 101 ≤ M) (hM2 : M ≤ 65521) (V : Int32 → hp_T → Prop) (res : Option Nat × Int32 × hp_T) (hf : f_X11_weak_P n α a0 a1 a2 a3 a4 = some res) (hE : res.1 = none → V res.2.1 res.2.2) (hmα : ∀ β, β = res.2.2 → hp_I β 550 (hp_R β 601 a0) = mm) (hTB : ∀ β, β = res.2.2 → hp_I β 252 b0 = mm → TB β b0 M) (hT : ∀ {lg : Nat}, res.1 = some lg → ∀ γ b1, (cg w_X4_prepare res.2.2 γ ∧ hp_K γ b1 = 5 ∧ hp_N γ 618 a0 = some b1) → TB γ b1 M → hp_I γ 252 b1 = mm → ∃ t : Int32 × hp_T, f_X11_weak_T n γ a0 a2 a3 a4 lg b1 = some t ∧ V t.1 t.2) : Met l yX11_weak (hp_ws yX11_weak cX11_weak 8 (some .int)) (hp_rm 72 0 0) (hp_Pc Γ α [.ref a0, .int a1, .int a2, .int a3, .int a4]) (hp_Qi Γ (fun r β => cw w_X11_weak_S α β ∧ V r β)) 0 0 (hp_A Γ) := by
  unfold f_X11_weak_P at hf
  refine hp_start (by decide) ?_
  intro p e s m below meth c C hr hlk B0 hnm
  have C : hp_C Γ p m c cX11_weak 8 s ([.ref a0, .int a1, .int a2, .int a3, .int a4] : List Value).toArray RX11 := C
  have hx := C.1.1
  have hb := C.1.2.1
  have hown := C.1.2.2.2.1
  have hts := C.1.2.2.2.2
  have B : hp_B Γ (cw w_X11_weak_S) s α α s.heap [] := ⟨B0.1, B0.2.1, cw_rf g⟩
  have kb0 : hp_K α b0 = 5 := g.2.2.1 a0 b0 k0 hN
  have hl := lv_entry ([.ref a0, .int a1, .int a2, .int a3, .int a4]) (n := 8) (Nat.le_of_ble_eq_true rfl)
  show W p l e (hp_rm 72 0 0) s m ([.ref a0, .int a1, .int a2, .int a3, .int a4] : List Value).toArray below meth c s.heap [] 0 0 (MQ below (hp_Qi Γ (fun r β => cw w_X11_weak_S α β ∧ V r β)) ([.ref a0, .int a1, .int a2, .int a3, .int a4] : List Value).toArray s 0 0 (hp_A Γ)) (entryFrame m ([.ref a0, .int a1, .int a2, .int a3, .int a4] : List Value).toArray 8)
  rw [lg_entry_eq]
  generalize (lg_sl ([.ref a0, .int a1, .int a2, .int a3, .int a4]) ++ List.replicate (8 - (lg_sl ([.ref a0, .int a1, .int a2, .int a3, .int a4])).length) Slot.unset).toArray = ls at hl ⊢
  have hl : lv_has ls 8 [(0, .ref a0), (1, .int a1), (2, .int a2), (3, .int a3), (4, .int a4)] := hl
  refine lv_iload hx hb dX11_weak_0 (lv_at hl 4 rfl) (hp_n (n := 2) rfl ?_)
  have J11 : ∀ (αh1 : hp_T) (Hh1 : Heap) (Lh1 : List Loc) (Bh1 : hp_B Γ (cw w_X11_weak_S) s α αh1 Hh1 Lh1) (ls : Array Slot) (hl : lv_has ls 8 [(0, .ref a0)]) (hf : f_X11_weak_P_J11 n a0 αh1 = some res), W p l e (hp_rm 72 0 0) s m ([.ref a0, .int a1, .int a2, .int a3, .int a4] : List Value).toArray below meth c Hh1 Lh1 0 0 (MQ below (hp_Qi Γ (fun r β => cw w_X11_weak_S α β ∧ V r β)) ([.ref a0, .int a1, .int a2, .int a3, .int a4] : List Value).toArray s 0 0 (hp_A Γ)) (F0 m 11 ls []) := by
    intro αh1 Hh1 Lh1 Bh1 ls hl hf
    unfold f_X11_weak_P_J11 at hf
    refine lv_aload_n hx hb dX11_weak_11 rfl (lv_at hl 0 rfl) (hp_n (n := 12) rfl ?_)
    refine lv_iconst (v := 1) hx hb dX11_weak_12 (by decide) (hp_n (n := 13) rfl ?_)
    obtain ⟨rh2, αh2, qh2, hf⟩ := hq_cE hf
    refine d_ci (pc' := 16) Bh1 (hp_runV (As := [.int (1 : Int32)]) (rest := []) C Bh1 (n_X11_refuse n Γ l αh1 Bh1.2.2.1 a0 (cw_k Bh1.2.2 k0) (1 : Int32) (rh2, αh2) qh2) lb_X11_refuse lv_X11_refuse lk_X11_98 (cw_k Bh1.2.2 k0) rfl (by decide) rfl hl.1 rfl (Nat.le_of_ble_eq_true rfl) dX11_weak_13 ⟨Nat.le_refl _, Nat.le_refl _⟩) (by decide) rfl (fun Hh2 Lh2 Bh2 => ?_)
    cases hf
    exact q_iret C Bh2 hr hlk ⟨Bh2.2.2, hE rfl⟩ dX11_weak_16
  refine lv_if_lt (tgt := 11) hx hb dX11_weak_2 (by decide) (fun c3 => ?_) (fun c3 => hp_n (n := 5) rfl ?_)
  ·
    replace hf := ms_iT c3 hf
    exact J11 α s.heap [] B ls (lv_sub hl [0] rfl) hf
  ·
    replace hf := ms_iF c3 hf
    refine lv_iload hx hb dX11_weak_5 (lv_at hl 4 rfl) (hp_n (n := 7) rfl ?_)
    refine lv_iconst (v := 1) hx hb dX11_weak_7 (by decide) (hp_n (n := 8) rfl ?_)
    refine lv_icmp_le (tgt := 17) hx hb dX11_weak_8 (by decide) (fun c4 => ?_) (fun c4 => hp_n (n := 11) rfl ?_)
    ·
      replace hf := ms_iT c4 hf
      refine lv_aload_n hx hb dX11_weak_17 rfl (lv_at hl 0 rfl) (hp_n (n := 18) rfl ?_)
      refine q_getr (κ := 12) (k := 1) (φ := 601) (pc' := 21) C B (cw_k B.2.2 k0) fl_X11_16 rfl rfl rfl (cw_r B.2.2 k0 rfl rfl (by decide) (by decide)) dX11_weak_18 rfl (fun b5 eb5 kb5 => ?_)
      replace hf := ms_lE eb5 hf
      refine lv_iload_n hx hb dX11_weak_21 rfl (lv_at hl 1 rfl) (hp_n (n := 22) rfl ?_)
      obtain ⟨rh6, qh6, hf⟩ := ms_bE hf
      refine d_pq (pc' := 25) B (hp_runV (As := [.int a1]) (rest := []) C B (n_X10_logAt n Γ l α B.2.2.1 b5 (cw_k B.2.2 kb5) a1 rh6 qh6) lb_X10_logAt lv_X10_logAt lk_X11_163 (cw_k B.2.2 kb5) rfl (by decide) rfl hl.1 rfl (Nat.le_of_ble_eq_true rfl) dX11_weak_22 ⟨Nat.le_refl _, Nat.le_refl _⟩) rfl (fun Hh6 Lh6 Bh6 kh6 => ?_)
      rcases rh6 with _ | bh6
      ·
        replace hf := hq_N hf
        refine lv_astoreN (lv' := [(5, .null), (0, .ref a0), (1, .int a1), (2, .int a2), (3, .int a3), (4, .int a4)]) hx hb dX11_weak_25 hl (by decide) rfl (fun ls hl => hp_n (n := 27) rfl ?_)
        refine lv_aloadN hx hb dX11_weak_27 (lv_at hl 0 rfl) (hp_n (n := 29) rfl ?_)
        refine lv_iload_n hx hb dX11_weak_29 rfl (lv_at hl 3 rfl) (hp_n (n := 30) rfl ?_)
        refine lv_iload_n hx hb dX11_weak_30 rfl (lv_at hl 4 rfl) (hp_n (n := 31) rfl ?_)
        obtain ⟨rh7, qh7, hf⟩ := ms_bE hf
        refine d_pi (pc' := 34) Bh6 (hp_runS (As := [va_rf none, .int a2, .int a3]) (rest := []) C Bh6 (n_X11_wrongInclusion n Γ l α Bh6.2.2.1 none (fun b h => by cases h) a2 a3 rh7 qh7) lb_X11_wrongInclusion ls_X11_wrongInclusion lk_X11_264 rfl (by decide) rfl hl.1 rfl (Nat.le_of_ble_eq_true rfl) dX11_weak_31 ⟨Nat.le_refl _, Nat.le_refl _⟩) rfl (fun Hh7 Lh7 Bh7 => ?_)
        refine lv_istore (lv' := [(6, .int rh7), (5, .null), (0, .ref a0), (1, .int a1), (2, .int a2), (3, .int a3), (4, .int a4)]) hx hb dX11_weak_34 hl (by decide) rfl (fun ls hl => hp_n (n := 36) rfl ?_)
        refine lv_iload hx hb dX11_weak_36 (lv_at hl 0 rfl) (hp_n (n := 38) rfl ?_)
        have J46 : ∀ (αh8 : hp_T) (Hh8 : Heap) (Lh8 : List Loc) (Bh8 : hp_B Γ (cw w_X11_weak_S) s α αh8 Hh8 Lh8) (v6_h8 : Int32) (ls : Array Slot) (hl : lv_has ls 8 [(0, .ref a0), (6, .int v6_h8)]) (hf : f_X11_weak_P_J46 n a0 αh8 v6_h8 = some res), W p l e (hp_rm 72 0 0) s m ([.ref a0, .int a1, .int a2, .int a3, .int a4] : List Value).toArray below meth c Hh8 Lh8 0 0 (MQ below (hp_Qi Γ (fun r β => cw w_X11_weak_S α β ∧ V r β)) ([.ref a0, .int a1, .int a2, .int a3, .int a4] : List Value).toArray s 0 0 (hp_A Γ)) (F0 m 46 ls []) := by
          intro αh8 Hh8 Lh8 Bh8 v6_h8 ls hl hf
          unfold f_X11_weak_P_J46 at hf
          refine lv_aload_n hx hb dX11_weak_46 rfl (lv_at hl 0 rfl) (hp_n (n := 47) rfl ?_)
          refine lv_iload hx hb dX11_weak_47 (lv_at hl 1 rfl) (hp_n (n := 49) rfl ?_)
          obtain ⟨rh9, αh9, qh9, hf⟩ := hq_cE hf
          refine d_ci (pc' := 52) Bh8 (hp_runV (As := [.int v6_h8]) (rest := []) C Bh8 (n_X11_refuse n Γ l αh8 Bh8.2.2.1 a0 (cw_k Bh8.2.2 k0) v6_h8 (rh9, αh9) qh9) lb_X11_refuse lv_X11_refuse lk_X11_98 (cw_k Bh8.2.2 k0) rfl (by decide) rfl hl.1 rfl (Nat.le_of_ble_eq_true rfl) dX11_weak_49 ⟨Nat.le_refl _, Nat.le_refl _⟩) (by decide) rfl (fun Hh9 Lh9 Bh9 => ?_)
          cases hf
          exact q_iret C Bh9 hr hlk ⟨Bh9.2.2, hE rfl⟩ dX11_weak_52
        refine lv_if_ne (tgt := 46) hx hb dX11_weak_38 (by decide) (fun c10 => ?_) (fun c10 => hp_n (n := 41) rfl ?_)
        ·
          replace hf := ms_iF c10 hf
          exact J46 α Hh7 Lh7 Bh7 rh7 ls (lv_sub hl [2, 0] rfl) hf
        ·
          replace hf := ms_iT c10 hf
          refine lv_aloadN hx hb dX11_weak_41 (lv_at hl 1 rfl) (hp_n (n := 43) rfl ?_)
          refine lv_ifnonnullN hx hb dX11_weak_43 (hp_n (n := 46) rfl ?_)
          exact J46 α Hh7 Lh7 Bh7 rh7 ls (lv_sub hl [2, 0] rfl) hf
      ·
        replace hf := hq_S hf
        have kbh6 := kh6 bh6 rfl
        refine lv_astore (lv' := [(5, .ref bh6), (0, .ref a0), (1, .int a1), (2, .int a2), (3, .int a3), (4, .int a4)]) hx hb dX11_weak_25 hl (by decide) rfl (fun ls hl => hp_n (n := 27) rfl ?_)
        refine lv_aload hx hb dX11_weak_27 (lv_at hl 0 rfl) (hp_n (n := 29) rfl ?_)
        refine lv_iload_n hx hb dX11_weak_29 rfl (lv_at hl 3 rfl) (hp_n (n := 30) rfl ?_)
        refine lv_iload_n hx hb dX11_weak_30 rfl (lv_at hl 4 rfl) (hp_n (n := 31) rfl ?_)
        obtain ⟨rh11, qh11, hf⟩ := ms_bE hf
        refine d_pi (pc' := 34) Bh6 (hp_runS (As := [va_rf (some bh6), .int a2, .int a3]) (rest := []) C Bh6 (n_X11_wrongInclusion n Γ l α Bh6.2.2.1 (some bh6) (fun b h => by cases h; exact (cw_k Bh6.2.2 kbh6)) a2 a3 rh11 qh11) lb_X11_wrongInclusion ls_X11_wrongInclusion lk_X11_264 rfl (by decide) rfl hl.1 rfl (Nat.le_of_ble_eq_true rfl) dX11_weak_31 ⟨Nat.le_refl _, Nat.le_refl _⟩) rfl (fun Hh11 Lh11 Bh11 => ?_)
        refine lv_istore (lv' := [(6, .int rh11), (5, .ref bh6), (0, .ref a0), (1, .int a1), (2, .int a2), (3, .int a3), (4, .int a4)]) hx hb dX11_weak_34 hl (by decide) rfl (fun ls hl => hp_n (n := 36) rfl ?_)
        refine lv_iload hx hb dX11_weak_36 (lv_at hl 0 rfl) (hp_n (n := 38) rfl ?_)
        have J46 : ∀ (αh12 : hp_T) (Hh12 : Heap) (Lh12 : List Loc) (Bh12 : hp_B Γ (cw w_X11_weak_S) s α αh12 Hh12 Lh12) (v6_h12 : Int32) (ls : Array Slot) (hl : lv_has ls 8 [(0, .ref a0), (6, .int v6_h12)]) (hf : f_X11_weak_P_J46 n a0 αh12 v6_h12 = some res), W p l e (hp_rm 72 0 0) s m ([.ref a0, .int a1, .int a2, .int a3, .int a4] : List Value).toArray below meth c Hh12 Lh12 0 0 (MQ below (hp_Qi Γ (fun r β => cw w_X11_weak_S α β ∧ V r β)) ([.ref a0, .int a1, .int a2, .int a3, .int a4] : List Value).toArray s 0 0 (hp_A Γ)) (F0 m 46 ls []) := by
          intro αh12 Hh12 Lh12 Bh12 v6_h12 ls hl hf
          unfold f_X11_weak_P_J46 at hf
          refine lv_aload_n hx hb dX11_weak_46 rfl (lv_at hl 0 rfl) (hp_n (n := 47) rfl ?_)
          refine lv_iload hx hb dX11_weak_47 (lv_at hl 1 rfl) (hp_n (n := 49) rfl ?_)
          obtain ⟨rh13, αh13, qh13, hf⟩ := hq_cE hf
          refine d_ci (pc' := 52) Bh12 (hp_runV (As := [.int v6_h12]) (rest := []) C Bh12 (n_X11_refuse n Γ l αh12 Bh12.2.2.1 a0 (cw_k Bh12.2.2 k0) v6_h12 (rh13, αh13) qh13) lb_X11_refuse lv_X11_refuse lk_X11_98 (cw_k Bh12.2.2 k0) rfl (by decide) rfl hl.1 rfl (Nat.le_of_ble_eq_true rfl) dX11_weak_49 ⟨Nat.le_refl _, Nat.le_refl _⟩) (by decide) rfl (fun Hh13 Lh13 Bh13 => ?_)
          cases hf
          exact q_iret C Bh13 hr hlk ⟨Bh13.2.2, hE rfl⟩ dX11_weak_52
        refine lv_if_ne (tgt := 46) hx hb dX11_weak_38 (by decide) (fun c14 => ?_) (fun c14 => hp_n (n := 41) rfl ?_)
        ·
          replace hf := ms_iF c14 hf
          exact J46 α Hh11 Lh11 Bh11 rh11 ls (lv_sub hl [2, 0] rfl) hf
        ·
          replace hf := ms_iT c14 hf
          refine lv_aload hx hb dX11_weak_41 (lv_at hl 1 rfl) (hp_n (n := 43) rfl ?_)
          refine lv_ifnonnull (tgt := 53) hx hb dX11_weak_43 (by decide) ?_
          refine lv_aload_n hx hb dX11_weak_53 rfl (lv_at hl 2 rfl) (hp_n (n := 54) rfl ?_)
          refine q_getr (κ := 12) (k := 12) (φ := 612) (pc' := 57) C Bh11 (cw_k Bh11.2.2 k0) fl_X11_62 rfl rfl rfl (cw_r Bh11.2.2 k0 rfl rfl (by decide) (by decide)) dX11_weak_54 rfl (fun b15 eb15 kb15 => ?_)
          replace hf := ms_lE eb15 hf
          refine lv_iload_n hx hb dX11_weak_57 rfl (lv_at hl 4 rfl) (hp_n (n := 58) rfl ?_)
          refine lv_iload_n hx hb dX11_weak_58 rfl (lv_at hl 5 rfl) (hp_n (n := 59) rfl ?_)
          obtain ⟨αh16, qh16, hf⟩ := ms_bE hf
          refine d_cv (pc' := 62) Bh11 (hp_runV (As := [.int a2, .int a3]) (rest := []) C Bh11 (n_X8_toThing n Γ l α Bh11.2.2.1 b15 (cw_k Bh11.2.2 kb15) a2 a3 αh16 qh16) lb_X8_toThing lv_X8_toThing lk_X11_267 (cw_k Bh11.2.2 kb15) rfl (by decide) rfl hl.1 rfl (Nat.le_of_ble_eq_true rfl) dX11_weak_59 ⟨Nat.le_refl _, Nat.le_refl _⟩) (by decide) rfl (fun Hh16 Lh16 Bh16 => ?_)
          refine lv_aload_n hx hb dX11_weak_62 rfl (lv_at hl 2 rfl) (hp_n (n := 63) rfl ?_)
          refine q_getr (κ := 12) (k := 1) (φ := 601) (pc' := 66) C Bh16 (cw_k Bh16.2.2 k0) fl_X11_16 rfl rfl rfl (cw_r Bh16.2.2 k0 rfl rfl (by decide) (by decide)) dX11_weak_63 rfl (fun b17 eb17 kb17 => ?_)
          replace hf := ms_lE eb17 hf
          refine lv_aload_n hx hb dX11_weak_66 rfl (lv_at hl 2 rfl) (hp_n (n := 67) rfl ?_)
          refine q_getr (κ := 12) (k := 12) (φ := 612) (pc' := 70) C Bh16 (cw_k Bh16.2.2 k0) fl_X11_62 rfl rfl rfl (cw_r Bh16.2.2 k0 rfl rfl (by decide) (by decide)) dX11_weak_67 rfl (fun b18 eb18 kb18 => ?_)
          replace hf := ms_lE eb18 hf
          refine lv_aload hx hb dX11_weak_70 (lv_at hl 1 rfl) (hp_n (n := 72) rfl ?_)
          refine lv_aload_n hx hb dX11_weak_72 rfl (lv_at hl 2 rfl) (hp_n (n := 73) rfl ?_)
          refine q_getr (κ := 12) (k := 14) (φ := 614) (pc' := 76) C Bh16 (cw_k Bh16.2.2 k0) fl_X11_69 rfl rfl rfl (cw_r Bh16.2.2 k0 rfl rfl (by decide) (by decide)) dX11_weak_73 rfl (fun b19 eb19 kb19 => ?_)
          replace hf := ms_lE eb19 hf
          obtain ⟨αh20, qh20, hf⟩ := ms_bE hf
          refine d_cv (pc' := 79) Bh16 (hp_runV (As := [.ref b18, va_rf (some bh6), .ref b19]) (rest := []) C Bh16 (n_X10_marksAlong n Γ l αh16 Bh16.2.2.1 b17 (cw_k Bh16.2.2 kb17) b18 (cw_k Bh16.2.2 kb18) (some bh6) (fun b h => by cases h; exact (cw_k Bh16.2.2 kbh6)) b19 (cw_k Bh16.2.2 kb19) αh20 qh20) lb_X10_marksAlong lv_X10_marksAlong lk_X11_270 (cw_k Bh16.2.2 kb17) rfl (by decide) rfl hl.1 rfl (Nat.le_of_ble_eq_true rfl) dX11_weak_76 ⟨Nat.le_refl _, Nat.le_refl _⟩) (by decide) rfl (fun Hh20 Lh20 Bh20 => ?_)
          refine lv_aload_n hx hb dX11_weak_79 rfl (lv_at hl 2 rfl) (hp_n (n := 80) rfl ?_)
          cases hf
          have kaN := (cw_k Bh20.2.2 k0)
          refine q_cq (pc' := 83) Bh20 (hp_runV (As := []) (rest := []) C Bh20 (t_X11_preparedRoots_S2 Γ l αh20 Bh20.2.2.1 a0 kaN b0 (by rw [Bh20.2.2.2.2.1]; exact hN) mm M hm hM hM2 (hmα _ rfl) (hTB _ rfl)) lb_X11_preparedRoots lv_X11_preparedRoots lk_X11_363 kaN rfl (by decide) rfl hl.1 rfl (Nat.le_of_ble_eq_true rfl) dX11_weak_80 ⟨Nat.le_refl _, Nat.le_refl _⟩) (fun _ _ h => cw_tr Bh20.2.2 h.1.1 (by decide)) rfl (fun rN αN HN LN pN BM => ?_)
          obtain ⟨⟨cS, rfl⟩, tN, iN⟩ := pN
          have kN : hp_K αN b0 = 5 := cw_k BM.2.2 kb0
          have nN : hp_N αN 618 a0 = some b0 := by rw [BM.2.2.2.2.1]; exact hN
          have cN : cg w_X4_prepare αh20 αN := cg_cw cS
          obtain ⟨t, hf, hV⟩ := hT rfl αN b0 ⟨cN, kN, nN⟩ tN iN
          have ckN : ∀ b, hp_K α b ≠ 0 → hp_K αN b = hp_K α b := fun b hb => by rw [BM.2.2.2.1]
          exact un_X11_weakS n Γ l αN BM.2.2.1 a0 ((ckN _ (by rw [k0]; decide)).trans k0) a2 a3 a4 bh6 ((ckN _ (by rw [kbh6]; decide)).trans kbh6) b0 kN t hf C hr hlk HN LN ⟨BM.1, BM.2.1, cw_rf BM.2.2.1⟩ _ (fun hw => ⟨cw_tr BM.2.2 hw (by decide), hV⟩) ls (lv_sub hl [2, 4, 5, 6, 1] rfl)
    ·
      replace hf := ms_iF c4 hf
      exact J11 α s.heap [] B ls (lv_sub hl [0] rfl) hf
def f_X11_forge_T (n : Nat) (α : hp_T) (a0 : Nat) (a1 : Int32) (a4 : Int32) (a5 : Int32) (b0 : Nat) : Option (Int32 × hp_T) :=
  ms_l (hp_R α 612 a0) fun b1 =>
  ms_l (hp_R α 603 a0) fun b2 =>
  ms_l (hp_R α 612 a0) fun b3 =>
  ms_l (hp_R α 601 a0) fun b4 =>
  ms_l (hp_I α 550 b4) fun x5 =>
  ms_l (hp_R α 603 a0) fun b6 =>
  ms_b (f_X8_folded n α b3 x5 b6 a1 a5) fun rh7 =>
  ms_b (f_X4_seekStep n α b0 b1 b2 rh7 a4 a5) fun αh8 =>
  ms_l (hp_I αh8 259 b0) fun x9 =>
  if x9 = 0 then
    hq_c (f_X11_refuse n αh8 a0 (5 : Int32)) fun rh13 αh13 =>
    some (rh13, αh13)
  else
    ms_l (hp_I αh8 260 b0) fun x11 =>
    hq_c (f_X11_answer n αh8 a0 x11) fun rh12 αh12 =>
    some (rh12, αh12)
set_option maxRecDepth 100000 in
set_option maxHeartbeats 4000000 in
theorem un_X11_forge (n : Nat) (Γ : hp_G) (l : Launch) (α : hp_T) (g : GC α) (a0 : Nat) (k0 : hp_K α a0 = 12) (a1 : Int32) (a4 : Int32) (a5 : Int32) (b0 : Nat) (kb0 : hp_K α b0 = 5) (res : Int32 × hp_T) (hf : f_X11_forge_T n α a0 a1 a4 a5 b0 = some res) {p : Program} {e : Env} {s : State} {m : MethodId} {below : List Frame} {meth : Method} {c : Code} {args0 : Array Value} (C : hp_C Γ p m c cX11_forge 7 s args0 RX11) (hr : meth.sig.returnType = (some .int)) (hlk : meth.locks = false) (H0 : Heap) (L0 : List Loc) (B : hp_B Γ (cw w_X11_forge_S) s α α H0 L0) (Pst : Int32 → hp_T → Prop) (Bq : hp_T → State → Prop) (hP : cw w_X11_forge_S α res.2 → Pst res.1 res.2) (hq : ∀ (t : State), cw w_X11_forge_S α res.2 → hp_Rep Γ res.2 t.heap → Bq res.2 t) (ls : Array Slot) (hl : lv_has ls 7 [(0, .ref a0), (1, .int a1), (4, .int a4), (5, .int a5)]) : W p l e (hp_rm 72 9 131316) s m args0 below meth c H0 L0 9 131316 (MQ below (va_Qi Pst Bq (hp_A Γ)) args0 s 9 131316 (hp_A Γ)) (F0 m 84 ls [.ref b0]) := by
  have hx := C.1.1
  have hb := C.1.2.1
  have hown := C.1.2.2.2.1
  have hts := C.1.2.2.2.2
  unfold f_X11_forge_T at hf
  refine lv_astore (lv' := [(6, .ref b0), (0, .ref a0), (1, .int a1), (4, .int a4), (5, .int a5)]) hx hb dX11_forge_84 hl (by decide) rfl (fun ls hl => hp_n (n := 86) rfl ?_)
  refine lv_aload hx hb dX11_forge_86 (lv_at hl 0 rfl) (hp_n (n := 88) rfl ?_)
  refine lv_aload_n hx hb dX11_forge_88 rfl (lv_at hl 1 rfl) (hp_n (n := 89) rfl ?_)
  refine q_getr (κ := 12) (k := 12) (φ := 612) (pc' := 92) C B (cw_k B.2.2 k0) fl_X11_62 rfl rfl rfl (cw_r B.2.2 k0 rfl rfl (by decide) (by decide)) dX11_forge_89 rfl (fun b1 eb1 kb1 => ?_)
  replace hf := ms_lE eb1 hf
  refine lv_aload_n hx hb dX11_forge_92 rfl (lv_at hl 1 rfl) (hp_n (n := 93) rfl ?_)
  refine q_getr (κ := 12) (k := 3) (φ := 603) (pc' := 96) C B (cw_k B.2.2 k0) fl_X11_26 rfl rfl rfl (cw_r B.2.2 k0 rfl rfl (by decide) (by decide)) dX11_forge_93 rfl (fun b2 eb2 kb2 => ?_)
  replace hf := ms_lE eb2 hf
  refine lv_aload_n hx hb dX11_forge_96 rfl (lv_at hl 1 rfl) (hp_n (n := 97) rfl ?_)
  refine q_getr (κ := 12) (k := 12) (φ := 612) (pc' := 100) C B (cw_k B.2.2 k0) fl_X11_62 rfl rfl rfl (cw_r B.2.2 k0 rfl rfl (by decide) (by decide)) dX11_forge_97 rfl (fun b3 eb3 kb3 => ?_)
  replace hf := ms_lE eb3 hf
  refine lv_aload_n hx hb dX11_forge_100 rfl (lv_at hl 1 rfl) (hp_n (n := 101) rfl ?_)
  refine q_getr (κ := 12) (k := 1) (φ := 601) (pc' := 104) C B (cw_k B.2.2 k0) fl_X11_16 rfl rfl rfl (cw_r B.2.2 k0 rfl rfl (by decide) (by decide)) dX11_forge_101 rfl (fun b4 eb4 kb4 => ?_)
  replace hf := ms_lE eb4 hf
  refine q_geti (κ := 11) (k := 0) (φ := 550) (pc' := 107) C B (cw_k B.2.2 kb4) fl_X11_122 rfl rfl rfl dX11_forge_104 rfl (fun x5 ex5 => ?_)
  replace hf := ms_lE ex5 hf
  refine lv_aload_n hx hb dX11_forge_107 rfl (lv_at hl 1 rfl) (hp_n (n := 108) rfl ?_)
  refine q_getr (κ := 12) (k := 3) (φ := 603) (pc' := 111) C B (cw_k B.2.2 k0) fl_X11_26 rfl rfl rfl (cw_r B.2.2 k0 rfl rfl (by decide) (by decide)) dX11_forge_108 rfl (fun b6 eb6 kb6 => ?_)
  replace hf := ms_lE eb6 hf
  refine lv_iload_n hx hb dX11_forge_111 rfl (lv_at hl 2 rfl) (hp_n (n := 112) rfl ?_)
  refine lv_iload hx hb dX11_forge_112 (lv_at hl 4 rfl) (hp_n (n := 114) rfl ?_)
  obtain ⟨rh7, qh7, hf⟩ := ms_bE hf
  refine d_pi (pc' := 117) B (hp_runV (As := [.int x5, .ref b6, .int a1, .int a5]) (rest := [.ref b2, .ref b1, .ref b0]) C B (n_X8_folded n Γ l α B.2.2.1 b3 (cw_k B.2.2 kb3) x5 b6 (cw_k B.2.2 kb6) a1 a5 rh7 qh7) lb_X8_folded lv_X8_folded lk_X11_382 (cw_k B.2.2 kb3) rfl (by decide) rfl hl.1 rfl (Nat.le_of_ble_eq_true rfl) dX11_forge_114 ⟨Nat.le_refl _, Nat.le_refl _⟩) rfl (fun Hh7 Lh7 Bh7 => ?_)
  refine lv_iload hx hb dX11_forge_117 (lv_at hl 3 rfl) (hp_n (n := 119) rfl ?_)
  refine lv_iload hx hb dX11_forge_119 (lv_at hl 4 rfl) (hp_n (n := 121) rfl ?_)
  obtain ⟨αh8, qh8, hf⟩ := ms_bE hf
  refine d_cv (pc' := 124) Bh7 (hp_runV (As := [.ref b1, .ref b2, .int rh7, .int a4, .int a5]) (rest := []) C Bh7 (n_X4_seekStep n Γ l α Bh7.2.2.1 b0 (cw_k Bh7.2.2 kb0) b1 (cw_k Bh7.2.2 kb1) b2 (cw_k Bh7.2.2 kb2) rh7 a4 a5 αh8 qh8) lb_X4_seekStep lv_X4_seekStep lk_X11_388 (cw_k Bh7.2.2 kb0) rfl (by decide) rfl hl.1 rfl (Nat.le_of_ble_eq_true rfl) dX11_forge_121 ⟨Nat.le_refl _, Nat.le_refl _⟩) (by decide) rfl (fun Hh8 Lh8 Bh8 => ?_)
  refine lv_aload hx hb dX11_forge_124 (lv_at hl 0 rfl) (hp_n (n := 126) rfl ?_)
  refine q_geti (κ := 5) (k := 9) (φ := 259) (pc' := 129) C Bh8 (cw_k Bh8.2.2 kb0) fl_X11_373 rfl rfl rfl dX11_forge_126 rfl (fun x9 ex9 => ?_)
  replace hf := ms_lE ex9 hf
  refine lv_if_ne (tgt := 140) hx hb dX11_forge_129 (by decide) (fun c10 => ?_) (fun c10 => hp_n (n := 132) rfl ?_)
  ·
    replace hf := ms_iF c10 hf
    refine lv_aload_n hx hb dX11_forge_140 rfl (lv_at hl 1 rfl) (hp_n (n := 141) rfl ?_)
    refine lv_aload hx hb dX11_forge_141 (lv_at hl 0 rfl) (hp_n (n := 143) rfl ?_)
    refine q_geti (κ := 5) (k := 10) (φ := 260) (pc' := 146) C Bh8 (cw_k Bh8.2.2 kb0) fl_X11_376 rfl rfl rfl dX11_forge_143 rfl (fun x11 ex11 => ?_)
    replace hf := ms_lE ex11 hf
    obtain ⟨rh12, αh12, qh12, hf⟩ := hq_cE hf
    refine d_ci (pc' := 149) Bh8 (hp_runV (As := [.int x11]) (rest := []) C Bh8 (n_X11_answer n Γ l αh8 Bh8.2.2.1 a0 (cw_k Bh8.2.2 k0) x11 (rh12, αh12) qh12) lb_X11_answer lv_X11_answer lk_X11_115 (cw_k Bh8.2.2 k0) rfl (by decide) rfl hl.1 rfl (Nat.le_of_ble_eq_true rfl) dX11_forge_146 ⟨Nat.le_refl _, Nat.le_refl _⟩) (by decide) rfl (fun Hh12 Lh12 Bh12 => ?_)
    cases hf
    exact q_iretQ C Bh12 hr hlk (hP Bh12.2.2) (fun t ht => hq t Bh12.2.2 ht) dX11_forge_149
  ·
    replace hf := ms_iT c10 hf
    refine lv_aload_n hx hb dX11_forge_132 rfl (lv_at hl 1 rfl) (hp_n (n := 133) rfl ?_)
    refine lv_iconst (v := 5) hx hb dX11_forge_133 (by decide) (hp_n (n := 134) rfl ?_)
    obtain ⟨rh13, αh13, qh13, hf⟩ := hq_cE hf
    refine d_ci (pc' := 137) Bh8 (hp_runV (As := [.int (5 : Int32)]) (rest := []) C Bh8 (n_X11_refuse n Γ l αh8 Bh8.2.2.1 a0 (cw_k Bh8.2.2 k0) (5 : Int32) (rh13, αh13) qh13) lb_X11_refuse lv_X11_refuse lk_X11_98 (cw_k Bh8.2.2 k0) rfl (by decide) rfl hl.1 rfl (Nat.le_of_ble_eq_true rfl) dX11_forge_134 ⟨Nat.le_refl _, Nat.le_refl _⟩) (by decide) rfl (fun Hh13 Lh13 Bh13 => ?_)
    refine lv_goto (tgt := 149) hx hb dX11_forge_137 (by decide) ?_
    cases hf
    exact q_iretQ C Bh13 hr hlk (hP Bh13.2.2) (fun t ht => hq t Bh13.2.2 ht) dX11_forge_149
set_option maxRecDepth 100000 in
set_option maxHeartbeats 4000000 in
theorem un_X11_forgeS (n : Nat) (Γ : hp_G) (l : Launch) (α : hp_T) (g : GC α) (a0 : Nat) (k0 : hp_K α a0 = 12) (a1 : Int32) (a4 : Int32) (a5 : Int32) (b0 : Nat) (kb0 : hp_K α b0 = 5) (res : Int32 × hp_T) (hf : f_X11_forge_T n α a0 a1 a4 a5 b0 = some res) {p : Program} {e : Env} {s : State} {m : MethodId} {below : List Frame} {meth : Method} {c : Code} {args0 : Array Value} (C : hp_C Γ p m c cX11_forge 7 s args0 RX11) (hr : meth.sig.returnType = (some .int)) (hlk : meth.locks = false) (H0 : Heap) (L0 : List Loc) (B : hp_B Γ (cw w_X11_forge_S) s α α H0 L0) (Pst : Int32 → hp_T → Prop) (hP : cw w_X11_forge_S α res.2 → Pst res.1 res.2) (ls : Array Slot) (hl : lv_has ls 7 [(0, .ref a0), (1, .int a1), (4, .int a4), (5, .int a5)]) : W p l e (hp_rm 72 0 0) s m args0 below meth c H0 L0 0 0 (MQ below (hp_Qi Γ Pst) args0 s 0 0 (hp_A Γ)) (F0 m 84 ls [.ref b0]) := by
  have hx := C.1.1
  have hb := C.1.2.1
  have hown := C.1.2.2.2.1
  have hts := C.1.2.2.2.2
  unfold f_X11_forge_T at hf
  refine lv_astore (lv' := [(6, .ref b0), (0, .ref a0), (1, .int a1), (4, .int a4), (5, .int a5)]) hx hb dX11_forge_84 hl (by decide) rfl (fun ls hl => hp_n (n := 86) rfl ?_)
  refine lv_aload hx hb dX11_forge_86 (lv_at hl 0 rfl) (hp_n (n := 88) rfl ?_)
  refine lv_aload_n hx hb dX11_forge_88 rfl (lv_at hl 1 rfl) (hp_n (n := 89) rfl ?_)
  refine q_getr (κ := 12) (k := 12) (φ := 612) (pc' := 92) C B (cw_k B.2.2 k0) fl_X11_62 rfl rfl rfl (cw_r B.2.2 k0 rfl rfl (by decide) (by decide)) dX11_forge_89 rfl (fun b1 eb1 kb1 => ?_)
  replace hf := ms_lE eb1 hf
  refine lv_aload_n hx hb dX11_forge_92 rfl (lv_at hl 1 rfl) (hp_n (n := 93) rfl ?_)
  refine q_getr (κ := 12) (k := 3) (φ := 603) (pc' := 96) C B (cw_k B.2.2 k0) fl_X11_26 rfl rfl rfl (cw_r B.2.2 k0 rfl rfl (by decide) (by decide)) dX11_forge_93 rfl (fun b2 eb2 kb2 => ?_)
  replace hf := ms_lE eb2 hf
  refine lv_aload_n hx hb dX11_forge_96 rfl (lv_at hl 1 rfl) (hp_n (n := 97) rfl ?_)
  refine q_getr (κ := 12) (k := 12) (φ := 612) (pc' := 100) C B (cw_k B.2.2 k0) fl_X11_62 rfl rfl rfl (cw_r B.2.2 k0 rfl rfl (by decide) (by decide)) dX11_forge_97 rfl (fun b3 eb3 kb3 => ?_)
  replace hf := ms_lE eb3 hf
  refine lv_aload_n hx hb dX11_forge_100 rfl (lv_at hl 1 rfl) (hp_n (n := 101) rfl ?_)
  refine q_getr (κ := 12) (k := 1) (φ := 601) (pc' := 104) C B (cw_k B.2.2 k0) fl_X11_16 rfl rfl rfl (cw_r B.2.2 k0 rfl rfl (by decide) (by decide)) dX11_forge_101 rfl (fun b4 eb4 kb4 => ?_)
  replace hf := ms_lE eb4 hf
  refine q_geti (κ := 11) (k := 0) (φ := 550) (pc' := 107) C B (cw_k B.2.2 kb4) fl_X11_122 rfl rfl rfl dX11_forge_104 rfl (fun x5 ex5 => ?_)
  replace hf := ms_lE ex5 hf
  refine lv_aload_n hx hb dX11_forge_107 rfl (lv_at hl 1 rfl) (hp_n (n := 108) rfl ?_)
  refine q_getr (κ := 12) (k := 3) (φ := 603) (pc' := 111) C B (cw_k B.2.2 k0) fl_X11_26 rfl rfl rfl (cw_r B.2.2 k0 rfl rfl (by decide) (by decide)) dX11_forge_108 rfl (fun b6 eb6 kb6 => ?_)
  replace hf := ms_lE eb6 hf
  refine lv_iload_n hx hb dX11_forge_111 rfl (lv_at hl 2 rfl) (hp_n (n := 112) rfl ?_)
  refine lv_iload hx hb dX11_forge_112 (lv_at hl 4 rfl) (hp_n (n := 114) rfl ?_)
  obtain ⟨rh7, qh7, hf⟩ := ms_bE hf
  refine d_pi (pc' := 117) B (hp_runV (As := [.int x5, .ref b6, .int a1, .int a5]) (rest := [.ref b2, .ref b1, .ref b0]) C B (n_X8_folded n Γ l α B.2.2.1 b3 (cw_k B.2.2 kb3) x5 b6 (cw_k B.2.2 kb6) a1 a5 rh7 qh7) lb_X8_folded lv_X8_folded lk_X11_382 (cw_k B.2.2 kb3) rfl (by decide) rfl hl.1 rfl (Nat.le_of_ble_eq_true rfl) dX11_forge_114 ⟨Nat.le_refl _, Nat.le_refl _⟩) rfl (fun Hh7 Lh7 Bh7 => ?_)
  refine lv_iload hx hb dX11_forge_117 (lv_at hl 3 rfl) (hp_n (n := 119) rfl ?_)
  refine lv_iload hx hb dX11_forge_119 (lv_at hl 4 rfl) (hp_n (n := 121) rfl ?_)
  obtain ⟨αh8, qh8, hf⟩ := ms_bE hf
  refine d_cv (pc' := 124) Bh7 (hp_runV (As := [.ref b1, .ref b2, .int rh7, .int a4, .int a5]) (rest := []) C Bh7 (n_X4_seekStep n Γ l α Bh7.2.2.1 b0 (cw_k Bh7.2.2 kb0) b1 (cw_k Bh7.2.2 kb1) b2 (cw_k Bh7.2.2 kb2) rh7 a4 a5 αh8 qh8) lb_X4_seekStep lv_X4_seekStep lk_X11_388 (cw_k Bh7.2.2 kb0) rfl (by decide) rfl hl.1 rfl (Nat.le_of_ble_eq_true rfl) dX11_forge_121 ⟨Nat.le_refl _, Nat.le_refl _⟩) (by decide) rfl (fun Hh8 Lh8 Bh8 => ?_)
  refine lv_aload hx hb dX11_forge_124 (lv_at hl 0 rfl) (hp_n (n := 126) rfl ?_)
  refine q_geti (κ := 5) (k := 9) (φ := 259) (pc' := 129) C Bh8 (cw_k Bh8.2.2 kb0) fl_X11_373 rfl rfl rfl dX11_forge_126 rfl (fun x9 ex9 => ?_)
  replace hf := ms_lE ex9 hf
  refine lv_if_ne (tgt := 140) hx hb dX11_forge_129 (by decide) (fun c10 => ?_) (fun c10 => hp_n (n := 132) rfl ?_)
  ·
    replace hf := ms_iF c10 hf
    refine lv_aload_n hx hb dX11_forge_140 rfl (lv_at hl 1 rfl) (hp_n (n := 141) rfl ?_)
    refine lv_aload hx hb dX11_forge_141 (lv_at hl 0 rfl) (hp_n (n := 143) rfl ?_)
    refine q_geti (κ := 5) (k := 10) (φ := 260) (pc' := 146) C Bh8 (cw_k Bh8.2.2 kb0) fl_X11_376 rfl rfl rfl dX11_forge_143 rfl (fun x11 ex11 => ?_)
    replace hf := ms_lE ex11 hf
    obtain ⟨rh12, αh12, qh12, hf⟩ := hq_cE hf
    refine d_ci (pc' := 149) Bh8 (hp_runV (As := [.int x11]) (rest := []) C Bh8 (n_X11_answer n Γ l αh8 Bh8.2.2.1 a0 (cw_k Bh8.2.2 k0) x11 (rh12, αh12) qh12) lb_X11_answer lv_X11_answer lk_X11_115 (cw_k Bh8.2.2 k0) rfl (by decide) rfl hl.1 rfl (Nat.le_of_ble_eq_true rfl) dX11_forge_146 ⟨Nat.le_refl _, Nat.le_refl _⟩) (by decide) rfl (fun Hh12 Lh12 Bh12 => ?_)
    cases hf
    exact q_iret C Bh12 hr hlk (hP Bh12.2.2) dX11_forge_149
  ·
    replace hf := ms_iT c10 hf
    refine lv_aload_n hx hb dX11_forge_132 rfl (lv_at hl 1 rfl) (hp_n (n := 133) rfl ?_)
    refine lv_iconst (v := 5) hx hb dX11_forge_133 (by decide) (hp_n (n := 134) rfl ?_)
    obtain ⟨rh13, αh13, qh13, hf⟩ := hq_cE hf
    refine d_ci (pc' := 137) Bh8 (hp_runV (As := [.int (5 : Int32)]) (rest := []) C Bh8 (n_X11_refuse n Γ l αh8 Bh8.2.2.1 a0 (cw_k Bh8.2.2 k0) (5 : Int32) (rh13, αh13) qh13) lb_X11_refuse lv_X11_refuse lk_X11_98 (cw_k Bh8.2.2 k0) rfl (by decide) rfl hl.1 rfl (Nat.le_of_ble_eq_true rfl) dX11_forge_134 ⟨Nat.le_refl _, Nat.le_refl _⟩) (by decide) rfl (fun Hh13 Lh13 Bh13 => ?_)
    refine lv_goto (tgt := 149) hx hb dX11_forge_137 (by decide) ?_
    cases hf
    exact q_iret C Bh13 hr hlk (hP Bh13.2.2) dX11_forge_149
def f_X11_forge_P_J30 (n : Nat) (a0 : Nat) (αh2 : hp_T) : Option (Option Nat × Int32 × hp_T) :=
  hq_c (f_X11_refuse n αh2 a0 (1 : Int32)) fun rh3 αh3 =>
  some (none, rh3, αh3)
def f_X11_forge_P_J74 (n : Nat) (a0 : Nat) (αh16 : hp_T) : Option (Option Nat × Int32 × hp_T) :=
  hq_c (f_X11_refuse n αh16 a0 (5 : Int32)) fun rh17 αh17 =>
  some (none, rh17, αh17)
def f_X11_forge_P (n : Nat) (α : hp_T) (a0 : Nat) (a1 : Int32) (a2 : Int32) (a3 : Int32) (a4 : Int32) (a5 : Int32) : Option (Option Nat × Int32 × hp_T) :=
  ms_b (f_X11_isThing n a2 a3) fun rh1 =>
  if rh1 = 0 then
    f_X11_forge_P_J30 n a0 α
  else
    if a5 < 0 then
      f_X11_forge_P_J30 n a0 α
    else
      ms_b (f_X11_isMark n α a0 a1) fun rh6 =>
      if rh6 = 0 then
        f_X11_forge_P_J30 n a0 α
      else
        ms_b (f_X11_isMark n α a0 a4) fun rh8 =>
        if rh8 = 0 then
          f_X11_forge_P_J30 n a0 α
        else
          ms_l (hp_R α 612 a0) fun b10 =>
          ms_b (f_X8_toThing n α b10 a2 a3) fun αh11 =>
          ms_l (hp_R αh11 603 a0) fun b12 =>
          ms_l (hp_I αh11 301 b12) fun x13 =>
          ms_l (hp_R αh11 612 a0) fun b14 =>
          ms_l (hp_I αh11 453 b14) fun x15 =>
          if x13 = x15 then
            ms_l (hp_R αh11 603 a0) fun b19 =>
            ms_l (hp_I αh11 301 b19) fun x20 =>
            if a5 < x20 then
              some (some 0, 0, αh11)
            else
              f_X11_forge_P_J74 n a0 αh11
          else
            f_X11_forge_P_J74 n a0 αh11
set_option maxRecDepth 100000 in
set_option maxHeartbeats 4000000 in
theorem n_X11_forge_N (n : Nat) (Γ : hp_G) (l : Launch) (α : hp_T) (g : GC α) (Hs : Heap) (a0 : Nat) (k0 : hp_K α a0 = 12) (a1 : Int32) (a2 : Int32) (a3 : Int32) (a4 : Int32) (a5 : Int32) (hN : hp_N α 618 a0 = none) (mm : Int32) (M : Nat) (hm : mm.toInt = (M : Int)) (hM : 101 ≤ M) (hM2 : M ≤ 65521) (V : Int32 → hp_T → Prop) (res : Option Nat × Int32 × hp_T) (hf : f_X11_forge_P n α a0 a1 a2 a3 a4 a5 = some res) (hE : res.1 = none → V res.2.1 res.2.2) (hmα : ∀ β, β = res.2.2 → hp_I β 550 (hp_R β 601 a0) = mm) (hT : ∀ {lg : Nat}, res.1 = some lg → ∀ γ b1, (cg w_X4_prepare res.2.2 γ ∧ hp_K γ b1 = 5 ∧ hp_N γ 618 a0 = some b1) → TB γ b1 M → hp_I γ 252 b1 = mm → ∃ t : Int32 × hp_T, f_X11_forge_T n γ a0 a1 a4 a5 b1 = some t ∧ V t.1 t.2) : Met l yX11_forge (hp_ws yX11_forge cX11_forge 7 (some .int)) (hp_rm 72 9 131316) (hp_PcH Γ α Hs [.ref a0, .int a1, .int a2, .int a3, .int a4, .int a5]) (va_Qi (fun r β => cg w_X11_forge_S α β ∧ V r β) (hp_Bz Γ Hs a0) (hp_A Γ)) 9 131316 (hp_A Γ) := by
  unfold f_X11_forge_P at hf
  refine hp_startH (by decide) ?_
  intro p e s m below meth c C hr hlk B0 hHs
  have C : hp_C Γ p m c cX11_forge 7 s ([.ref a0, .int a1, .int a2, .int a3, .int a4, .int a5] : List Value).toArray RX11 := C
  have hx := C.1.1
  have hb := C.1.2.1
  have hown := C.1.2.2.2.1
  have hts := C.1.2.2.2.2
  have B : hp_B Γ (cw w_X11_forge_S) s α α s.heap [] := ⟨B0.1, B0.2.1, cw_rf g⟩
  have hl := lv_entry ([.ref a0, .int a1, .int a2, .int a3, .int a4, .int a5]) (n := 7) (Nat.le_of_ble_eq_true rfl)
  show W p l e (hp_rm 72 9 131316) s m ([.ref a0, .int a1, .int a2, .int a3, .int a4, .int a5] : List Value).toArray below meth c s.heap [] 0 0 (MQ below (va_Qi (fun r β => cg w_X11_forge_S α β ∧ V r β) (hp_Bz Γ Hs a0) (hp_A Γ)) ([.ref a0, .int a1, .int a2, .int a3, .int a4, .int a5] : List Value).toArray s 9 131316 (hp_A Γ)) (entryFrame m ([.ref a0, .int a1, .int a2, .int a3, .int a4, .int a5] : List Value).toArray 7)
  rw [lg_entry_eq]
  generalize (lg_sl ([.ref a0, .int a1, .int a2, .int a3, .int a4, .int a5]) ++ List.replicate (7 - (lg_sl ([.ref a0, .int a1, .int a2, .int a3, .int a4, .int a5])).length) Slot.unset).toArray = ls at hl ⊢
  have hl : lv_has ls 7 [(0, .ref a0), (1, .int a1), (2, .int a2), (3, .int a3), (4, .int a4), (5, .int a5)] := hl
  refine lv_iload_n hx hb dX11_forge_0 rfl (lv_at hl 2 rfl) (hp_n (n := 1) rfl ?_)
  refine lv_iload_n hx hb dX11_forge_1 rfl (lv_at hl 3 rfl) (hp_n (n := 2) rfl ?_)
  obtain ⟨rh1, qh1, hf⟩ := ms_bE hf
  refine d_pi (pc' := 5) B (hp_runS (As := [.int a2, .int a3]) (rest := []) C B (n_X11_isThing n Γ l α B.2.2.1 a2 a3 rh1 qh1) lb_X11_isThing ls_X11_isThing lk_X11_301 rfl (by decide) rfl hl.1 rfl (Nat.le_of_ble_eq_true rfl) dX11_forge_2 ⟨Nat.zero_le _, Nat.zero_le _⟩) rfl (fun Hh1 Lh1 Bh1 => ?_)
  have J30 : ∀ (αh2 : hp_T) (Hh2 : Heap) (Lh2 : List Loc) (Bh2 : hp_B Γ (cw w_X11_forge_S) s α αh2 Hh2 Lh2) (ls : Array Slot) (hl : lv_has ls 7 [(0, .ref a0)]) (hf : f_X11_forge_P_J30 n a0 αh2 = some res), W p l e (hp_rm 72 9 131316) s m ([.ref a0, .int a1, .int a2, .int a3, .int a4, .int a5] : List Value).toArray below meth c Hh2 Lh2 0 0 (MQ below (va_Qi (fun r β => cg w_X11_forge_S α β ∧ V r β) (hp_Bz Γ Hs a0) (hp_A Γ)) ([.ref a0, .int a1, .int a2, .int a3, .int a4, .int a5] : List Value).toArray s 9 131316 (hp_A Γ)) (F0 m 30 ls []) := by
    intro αh2 Hh2 Lh2 Bh2 ls hl hf
    unfold f_X11_forge_P_J30 at hf
    refine lv_aload_n hx hb dX11_forge_30 rfl (lv_at hl 0 rfl) (hp_n (n := 31) rfl ?_)
    refine lv_iconst (v := 1) hx hb dX11_forge_31 (by decide) (hp_n (n := 32) rfl ?_)
    obtain ⟨rh3, αh3, qh3, hf⟩ := hq_cE hf
    refine d_ci (pc' := 35) Bh2 (hp_runV (As := [.int (1 : Int32)]) (rest := []) C Bh2 (n_X11_refuse n Γ l αh2 Bh2.2.2.1 a0 (cw_k Bh2.2.2 k0) (1 : Int32) (rh3, αh3) qh3) lb_X11_refuse lv_X11_refuse lk_X11_98 (cw_k Bh2.2.2 k0) rfl (by decide) rfl hl.1 rfl (Nat.le_of_ble_eq_true rfl) dX11_forge_32 ⟨Nat.zero_le _, Nat.zero_le _⟩) (by decide) rfl (fun Hh3 Lh3 Bh3 => ?_)
    cases hf
    exact q_iretZ C Bh3 hr hlk hHs ⟨cg_cw Bh3.2.2, hE rfl⟩ dX11_forge_35
  refine lv_if_eq (tgt := 30) hx hb dX11_forge_5 (by decide) (fun c4 => ?_) (fun c4 => hp_n (n := 8) rfl ?_)
  ·
    replace hf := ms_iT c4 hf
    exact J30 α Hh1 Lh1 Bh1 ls (lv_sub hl [0] rfl) hf
  ·
    replace hf := ms_iF c4 hf
    refine lv_iload hx hb dX11_forge_8 (lv_at hl 5 rfl) (hp_n (n := 10) rfl ?_)
    refine lv_if_lt (tgt := 30) hx hb dX11_forge_10 (by decide) (fun c5 => ?_) (fun c5 => hp_n (n := 13) rfl ?_)
    ·
      replace hf := ms_iT c5 hf
      exact J30 α Hh1 Lh1 Bh1 ls (lv_sub hl [0] rfl) hf
    ·
      replace hf := ms_iF c5 hf
      refine lv_aload_n hx hb dX11_forge_13 rfl (lv_at hl 0 rfl) (hp_n (n := 14) rfl ?_)
      refine lv_iload_n hx hb dX11_forge_14 rfl (lv_at hl 1 rfl) (hp_n (n := 15) rfl ?_)
      obtain ⟨rh6, qh6, hf⟩ := ms_bE hf
      refine d_pi (pc' := 18) Bh1 (hp_runV (As := [.int a1]) (rest := []) C Bh1 (n_X11_isMark n Γ l α Bh1.2.2.1 a0 (cw_k Bh1.2.2 k0) a1 rh6 qh6) lb_X11_isMark lv_X11_isMark lk_X11_188 (cw_k Bh1.2.2 k0) rfl (by decide) rfl hl.1 rfl (Nat.le_of_ble_eq_true rfl) dX11_forge_15 ⟨Nat.zero_le _, Nat.zero_le _⟩) rfl (fun Hh6 Lh6 Bh6 => ?_)
      refine lv_if_eq (tgt := 30) hx hb dX11_forge_18 (by decide) (fun c7 => ?_) (fun c7 => hp_n (n := 21) rfl ?_)
      ·
        replace hf := ms_iT c7 hf
        exact J30 α Hh6 Lh6 Bh6 ls (lv_sub hl [0] rfl) hf
      ·
        replace hf := ms_iF c7 hf
        refine lv_aload_n hx hb dX11_forge_21 rfl (lv_at hl 0 rfl) (hp_n (n := 22) rfl ?_)
        refine lv_iload hx hb dX11_forge_22 (lv_at hl 4 rfl) (hp_n (n := 24) rfl ?_)
        obtain ⟨rh8, qh8, hf⟩ := ms_bE hf
        refine d_pi (pc' := 27) Bh6 (hp_runV (As := [.int a4]) (rest := []) C Bh6 (n_X11_isMark n Γ l α Bh6.2.2.1 a0 (cw_k Bh6.2.2 k0) a4 rh8 qh8) lb_X11_isMark lv_X11_isMark lk_X11_188 (cw_k Bh6.2.2 k0) rfl (by decide) rfl hl.1 rfl (Nat.le_of_ble_eq_true rfl) dX11_forge_24 ⟨Nat.zero_le _, Nat.zero_le _⟩) rfl (fun Hh8 Lh8 Bh8 => ?_)
        refine lv_if_ne (tgt := 36) hx hb dX11_forge_27 (by decide) (fun c9 => ?_) (fun c9 => hp_n (n := 30) rfl ?_)
        ·
          replace hf := ms_iF c9 hf
          refine lv_aload_n hx hb dX11_forge_36 rfl (lv_at hl 0 rfl) (hp_n (n := 37) rfl ?_)
          refine q_getr (κ := 12) (k := 12) (φ := 612) (pc' := 40) C Bh8 (cw_k Bh8.2.2 k0) fl_X11_62 rfl rfl rfl (cw_r Bh8.2.2 k0 rfl rfl (by decide) (by decide)) dX11_forge_37 rfl (fun b10 eb10 kb10 => ?_)
          replace hf := ms_lE eb10 hf
          refine lv_iload_n hx hb dX11_forge_40 rfl (lv_at hl 2 rfl) (hp_n (n := 41) rfl ?_)
          refine lv_iload_n hx hb dX11_forge_41 rfl (lv_at hl 3 rfl) (hp_n (n := 42) rfl ?_)
          obtain ⟨αh11, qh11, hf⟩ := ms_bE hf
          refine d_cv (pc' := 45) Bh8 (hp_runV (As := [.int a2, .int a3]) (rest := []) C Bh8 (n_X8_toThing n Γ l α Bh8.2.2.1 b10 (cw_k Bh8.2.2 kb10) a2 a3 αh11 qh11) lb_X8_toThing lv_X8_toThing lk_X11_267 (cw_k Bh8.2.2 kb10) rfl (by decide) rfl hl.1 rfl (Nat.le_of_ble_eq_true rfl) dX11_forge_42 ⟨Nat.zero_le _, Nat.zero_le _⟩) (by decide) rfl (fun Hh11 Lh11 Bh11 => ?_)
          refine lv_aload_n hx hb dX11_forge_45 rfl (lv_at hl 0 rfl) (hp_n (n := 46) rfl ?_)
          refine q_getr (κ := 12) (k := 3) (φ := 603) (pc' := 49) C Bh11 (cw_k Bh11.2.2 k0) fl_X11_26 rfl rfl rfl (cw_r Bh11.2.2 k0 rfl rfl (by decide) (by decide)) dX11_forge_46 rfl (fun b12 eb12 kb12 => ?_)
          replace hf := ms_lE eb12 hf
          refine q_geti (κ := 6) (k := 1) (φ := 301) (pc' := 52) C Bh11 (cw_k Bh11.2.2 kb12) fl_X11_132 rfl rfl rfl dX11_forge_49 rfl (fun x13 ex13 => ?_)
          replace hf := ms_lE ex13 hf
          refine lv_aload_n hx hb dX11_forge_52 rfl (lv_at hl 0 rfl) (hp_n (n := 53) rfl ?_)
          refine q_getr (κ := 12) (k := 12) (φ := 612) (pc' := 56) C Bh11 (cw_k Bh11.2.2 k0) fl_X11_62 rfl rfl rfl (cw_r Bh11.2.2 k0 rfl rfl (by decide) (by decide)) dX11_forge_53 rfl (fun b14 eb14 kb14 => ?_)
          replace hf := ms_lE eb14 hf
          refine q_geti (κ := 9) (k := 3) (φ := 453) (pc' := 59) C Bh11 (cw_k Bh11.2.2 kb14) fl_X11_312 rfl rfl rfl dX11_forge_56 rfl (fun x15 ex15 => ?_)
          replace hf := ms_lE ex15 hf
          have J74 : ∀ (αh16 : hp_T) (Hh16 : Heap) (Lh16 : List Loc) (Bh16 : hp_B Γ (cw w_X11_forge_S) s α αh16 Hh16 Lh16) (ls : Array Slot) (hl : lv_has ls 7 [(0, .ref a0)]) (hf : f_X11_forge_P_J74 n a0 αh16 = some res), W p l e (hp_rm 72 9 131316) s m ([.ref a0, .int a1, .int a2, .int a3, .int a4, .int a5] : List Value).toArray below meth c Hh16 Lh16 0 0 (MQ below (va_Qi (fun r β => cg w_X11_forge_S α β ∧ V r β) (hp_Bz Γ Hs a0) (hp_A Γ)) ([.ref a0, .int a1, .int a2, .int a3, .int a4, .int a5] : List Value).toArray s 9 131316 (hp_A Γ)) (F0 m 74 ls []) := by
            intro αh16 Hh16 Lh16 Bh16 ls hl hf
            unfold f_X11_forge_P_J74 at hf
            refine lv_aload_n hx hb dX11_forge_74 rfl (lv_at hl 0 rfl) (hp_n (n := 75) rfl ?_)
            refine lv_iconst (v := 5) hx hb dX11_forge_75 (by decide) (hp_n (n := 76) rfl ?_)
            obtain ⟨rh17, αh17, qh17, hf⟩ := hq_cE hf
            refine d_ci (pc' := 79) Bh16 (hp_runV (As := [.int (5 : Int32)]) (rest := []) C Bh16 (n_X11_refuse n Γ l αh16 Bh16.2.2.1 a0 (cw_k Bh16.2.2 k0) (5 : Int32) (rh17, αh17) qh17) lb_X11_refuse lv_X11_refuse lk_X11_98 (cw_k Bh16.2.2 k0) rfl (by decide) rfl hl.1 rfl (Nat.le_of_ble_eq_true rfl) dX11_forge_76 ⟨Nat.zero_le _, Nat.zero_le _⟩) (by decide) rfl (fun Hh17 Lh17 Bh17 => ?_)
            cases hf
            exact q_iretZ C Bh17 hr hlk hHs ⟨cg_cw Bh17.2.2, hE rfl⟩ dX11_forge_79
          refine lv_icmp_ne (tgt := 74) hx hb dX11_forge_59 (by decide) (fun c18 => ?_) (fun c18 => hp_n (n := 62) rfl ?_)
          ·
            replace hf := ms_iF c18 hf
            exact J74 αh11 Hh11 Lh11 Bh11 ls (lv_sub hl [0] rfl) hf
          ·
            replace hf := ms_iT c18 hf
            refine lv_iload hx hb dX11_forge_62 (lv_at hl 5 rfl) (hp_n (n := 64) rfl ?_)
            refine lv_aload_n hx hb dX11_forge_64 rfl (lv_at hl 0 rfl) (hp_n (n := 65) rfl ?_)
            refine q_getr (κ := 12) (k := 3) (φ := 603) (pc' := 68) C Bh11 (cw_k Bh11.2.2 k0) fl_X11_26 rfl rfl rfl (cw_r Bh11.2.2 k0 rfl rfl (by decide) (by decide)) dX11_forge_65 rfl (fun b19 eb19 kb19 => ?_)
            replace hf := ms_lE eb19 hf
            refine q_geti (κ := 6) (k := 1) (φ := 301) (pc' := 71) C Bh11 (cw_k Bh11.2.2 kb19) fl_X11_132 rfl rfl rfl dX11_forge_68 rfl (fun x20 ex20 => ?_)
            replace hf := ms_lE ex20 hf
            refine lv_icmp_lt (tgt := 80) hx hb dX11_forge_71 (by decide) (fun c21 => ?_) (fun c21 => hp_n (n := 74) rfl ?_)
            ·
              replace hf := ms_iT c21 hf
              refine lv_aload_n hx hb dX11_forge_80 rfl (lv_at hl 0 rfl) (hp_n (n := 81) rfl ?_)
              cases hf
              have kaN := (cw_k Bh11.2.2 k0)
              have BN : hp_B Γ (fun _ _ => True) s α αh11 Hh11 Lh11 := ⟨Bh11.1, Bh11.2.1, trivial⟩
              refine q_cq (pc' := 84) BN (hp_runV (As := []) (rest := []) C BN (t_X11_preparedRoots_N2 Γ l αh11 Bh11.2.2.1 a0 kaN (by rw [Bh11.2.2.2.2.1]; exact hN) mm M hm hM hM2 (hmα _ rfl)) lb_X11_preparedRoots lv_X11_preparedRoots lk_X11_363 kaN rfl (by decide) rfl hl.1 rfl (Nat.le_of_ble_eq_true rfl) dX11_forge_81 ⟨Nat.le_refl _, Nat.le_refl _⟩) (fun _ _ _ => trivial) rfl (fun rN αN HN LN pN BM => ?_)
              obtain ⟨b0, rfl, cN, kN, nN, tN, iN⟩ := pN
              obtain ⟨t, hf, hV⟩ := hT rfl αN b0 ⟨cN, kN, nN⟩ tN iN
              have ckN : ∀ b, hp_K α b ≠ 0 → hp_K αN b = hp_K α b := fun b hb => by rw [cN.2.1 b (by rw [Bh11.2.2.2.1]; exact hb), Bh11.2.2.2.1]
              exact un_X11_forge n Γ l αN cN.1 a0 ((ckN _ (by rw [k0]; decide)).trans k0) a1 a4 a5 b0 kN t hf C hr hlk HN LN ⟨BM.1, BM.2.1, cw_rf cN.1⟩ _ _ (fun hw => ⟨cg_tr (cg_tr (cg_cw Bh11.2.2) cN (by decide)) (cg_cw hw) (by decide), hV⟩) (fun t2 hw hR => ⟨hR, fun hn => by rw [hw.2.2.1, nN] at hn; cases hn⟩) ls (lv_sub hl [0, 1, 4, 5] rfl)
            ·
              replace hf := ms_iF c21 hf
              exact J74 αh11 Hh11 Lh11 Bh11 ls (lv_sub hl [0] rfl) hf
        ·
          replace hf := ms_iT c9 hf
          exact J30 α Hh8 Lh8 Bh8 ls (lv_sub hl [0] rfl) hf
set_option maxRecDepth 100000 in
set_option maxHeartbeats 4000000 in
theorem n_X11_forge_S (n : Nat) (Γ : hp_G) (l : Launch) (α : hp_T) (g : GC α) (a0 : Nat) (k0 : hp_K α a0 = 12) (a1 : Int32) (a2 : Int32) (a3 : Int32) (a4 : Int32) (a5 : Int32) (b0 : Nat) (hN : hp_N α 618 a0 = some b0) (mm : Int32) (M : Nat) (hm : mm.toInt = (M : Int)) (hM : 101 ≤ M) (hM2 : M ≤ 65521) (V : Int32 → hp_T → Prop) (res : Option Nat × Int32 × hp_T) (hf : f_X11_forge_P n α a0 a1 a2 a3 a4 a5 = some res) (hE : res.1 = none → V res.2.1 res.2.2) (hmα : ∀ β, β = res.2.2 → hp_I β 550 (hp_R β 601 a0) = mm) (hTB : ∀ β, β = res.2.2 → hp_I β 252 b0 = mm → TB β b0 M) (hT : ∀ {lg : Nat}, res.1 = some lg → ∀ γ b1, (cg w_X4_prepare res.2.2 γ ∧ hp_K γ b1 = 5 ∧ hp_N γ 618 a0 = some b1) → TB γ b1 M → hp_I γ 252 b1 = mm → ∃ t : Int32 × hp_T, f_X11_forge_T n γ a0 a1 a4 a5 b1 = some t ∧ V t.1 t.2) : Met l yX11_forge (hp_ws yX11_forge cX11_forge 7 (some .int)) (hp_rm 72 0 0) (hp_Pc Γ α [.ref a0, .int a1, .int a2, .int a3, .int a4, .int a5]) (hp_Qi Γ (fun r β => cw w_X11_forge_S α β ∧ V r β)) 0 0 (hp_A Γ) := by
  unfold f_X11_forge_P at hf
  refine hp_start (by decide) ?_
  intro p e s m below meth c C hr hlk B0 hnm
  have C : hp_C Γ p m c cX11_forge 7 s ([.ref a0, .int a1, .int a2, .int a3, .int a4, .int a5] : List Value).toArray RX11 := C
  have hx := C.1.1
  have hb := C.1.2.1
  have hown := C.1.2.2.2.1
  have hts := C.1.2.2.2.2
  have B : hp_B Γ (cw w_X11_forge_S) s α α s.heap [] := ⟨B0.1, B0.2.1, cw_rf g⟩
  have kb0 : hp_K α b0 = 5 := g.2.2.1 a0 b0 k0 hN
  have hl := lv_entry ([.ref a0, .int a1, .int a2, .int a3, .int a4, .int a5]) (n := 7) (Nat.le_of_ble_eq_true rfl)
  show W p l e (hp_rm 72 0 0) s m ([.ref a0, .int a1, .int a2, .int a3, .int a4, .int a5] : List Value).toArray below meth c s.heap [] 0 0 (MQ below (hp_Qi Γ (fun r β => cw w_X11_forge_S α β ∧ V r β)) ([.ref a0, .int a1, .int a2, .int a3, .int a4, .int a5] : List Value).toArray s 0 0 (hp_A Γ)) (entryFrame m ([.ref a0, .int a1, .int a2, .int a3, .int a4, .int a5] : List Value).toArray 7)
  rw [lg_entry_eq]
  generalize (lg_sl ([.ref a0, .int a1, .int a2, .int a3, .int a4, .int a5]) ++ List.replicate (7 - (lg_sl ([.ref a0, .int a1, .int a2, .int a3, .int a4, .int a5])).length) Slot.unset).toArray = ls at hl ⊢
  have hl : lv_has ls 7 [(0, .ref a0), (1, .int a1), (2, .int a2), (3, .int a3), (4, .int a4), (5, .int a5)] := hl
  refine lv_iload_n hx hb dX11_forge_0 rfl (lv_at hl 2 rfl) (hp_n (n := 1) rfl ?_)
  refine lv_iload_n hx hb dX11_forge_1 rfl (lv_at hl 3 rfl) (hp_n (n := 2) rfl ?_)
  obtain ⟨rh1, qh1, hf⟩ := ms_bE hf
  refine d_pi (pc' := 5) B (hp_runS (As := [.int a2, .int a3]) (rest := []) C B (n_X11_isThing n Γ l α B.2.2.1 a2 a3 rh1 qh1) lb_X11_isThing ls_X11_isThing lk_X11_301 rfl (by decide) rfl hl.1 rfl (Nat.le_of_ble_eq_true rfl) dX11_forge_2 ⟨Nat.le_refl _, Nat.le_refl _⟩) rfl (fun Hh1 Lh1 Bh1 => ?_)
  have J30 : ∀ (αh2 : hp_T) (Hh2 : Heap) (Lh2 : List Loc) (Bh2 : hp_B Γ (cw w_X11_forge_S) s α αh2 Hh2 Lh2) (ls : Array Slot) (hl : lv_has ls 7 [(0, .ref a0)]) (hf : f_X11_forge_P_J30 n a0 αh2 = some res), W p l e (hp_rm 72 0 0) s m ([.ref a0, .int a1, .int a2, .int a3, .int a4, .int a5] : List Value).toArray below meth c Hh2 Lh2 0 0 (MQ below (hp_Qi Γ (fun r β => cw w_X11_forge_S α β ∧ V r β)) ([.ref a0, .int a1, .int a2, .int a3, .int a4, .int a5] : List Value).toArray s 0 0 (hp_A Γ)) (F0 m 30 ls []) := by
    intro αh2 Hh2 Lh2 Bh2 ls hl hf
    unfold f_X11_forge_P_J30 at hf
    refine lv_aload_n hx hb dX11_forge_30 rfl (lv_at hl 0 rfl) (hp_n (n := 31) rfl ?_)
    refine lv_iconst (v := 1) hx hb dX11_forge_31 (by decide) (hp_n (n := 32) rfl ?_)
    obtain ⟨rh3, αh3, qh3, hf⟩ := hq_cE hf
    refine d_ci (pc' := 35) Bh2 (hp_runV (As := [.int (1 : Int32)]) (rest := []) C Bh2 (n_X11_refuse n Γ l αh2 Bh2.2.2.1 a0 (cw_k Bh2.2.2 k0) (1 : Int32) (rh3, αh3) qh3) lb_X11_refuse lv_X11_refuse lk_X11_98 (cw_k Bh2.2.2 k0) rfl (by decide) rfl hl.1 rfl (Nat.le_of_ble_eq_true rfl) dX11_forge_32 ⟨Nat.le_refl _, Nat.le_refl _⟩) (by decide) rfl (fun Hh3 Lh3 Bh3 => ?_)
    cases hf
    exact q_iret C Bh3 hr hlk ⟨Bh3.2.2, hE rfl⟩ dX11_forge_35
  refine lv_if_eq (tgt := 30) hx hb dX11_forge_5 (by decide) (fun c4 => ?_) (fun c4 => hp_n (n := 8) rfl ?_)
  ·
    replace hf := ms_iT c4 hf
    exact J30 α Hh1 Lh1 Bh1 ls (lv_sub hl [0] rfl) hf
  ·
    replace hf := ms_iF c4 hf
    refine lv_iload hx hb dX11_forge_8 (lv_at hl 5 rfl) (hp_n (n := 10) rfl ?_)
    refine lv_if_lt (tgt := 30) hx hb dX11_forge_10 (by decide) (fun c5 => ?_) (fun c5 => hp_n (n := 13) rfl ?_)
    ·
      replace hf := ms_iT c5 hf
      exact J30 α Hh1 Lh1 Bh1 ls (lv_sub hl [0] rfl) hf
    ·
      replace hf := ms_iF c5 hf
      refine lv_aload_n hx hb dX11_forge_13 rfl (lv_at hl 0 rfl) (hp_n (n := 14) rfl ?_)
      refine lv_iload_n hx hb dX11_forge_14 rfl (lv_at hl 1 rfl) (hp_n (n := 15) rfl ?_)
      obtain ⟨rh6, qh6, hf⟩ := ms_bE hf
      refine d_pi (pc' := 18) Bh1 (hp_runV (As := [.int a1]) (rest := []) C Bh1 (n_X11_isMark n Γ l α Bh1.2.2.1 a0 (cw_k Bh1.2.2 k0) a1 rh6 qh6) lb_X11_isMark lv_X11_isMark lk_X11_188 (cw_k Bh1.2.2 k0) rfl (by decide) rfl hl.1 rfl (Nat.le_of_ble_eq_true rfl) dX11_forge_15 ⟨Nat.le_refl _, Nat.le_refl _⟩) rfl (fun Hh6 Lh6 Bh6 => ?_)
      refine lv_if_eq (tgt := 30) hx hb dX11_forge_18 (by decide) (fun c7 => ?_) (fun c7 => hp_n (n := 21) rfl ?_)
      ·
        replace hf := ms_iT c7 hf
        exact J30 α Hh6 Lh6 Bh6 ls (lv_sub hl [0] rfl) hf
      ·
        replace hf := ms_iF c7 hf
        refine lv_aload_n hx hb dX11_forge_21 rfl (lv_at hl 0 rfl) (hp_n (n := 22) rfl ?_)
        refine lv_iload hx hb dX11_forge_22 (lv_at hl 4 rfl) (hp_n (n := 24) rfl ?_)
        obtain ⟨rh8, qh8, hf⟩ := ms_bE hf
        refine d_pi (pc' := 27) Bh6 (hp_runV (As := [.int a4]) (rest := []) C Bh6 (n_X11_isMark n Γ l α Bh6.2.2.1 a0 (cw_k Bh6.2.2 k0) a4 rh8 qh8) lb_X11_isMark lv_X11_isMark lk_X11_188 (cw_k Bh6.2.2 k0) rfl (by decide) rfl hl.1 rfl (Nat.le_of_ble_eq_true rfl) dX11_forge_24 ⟨Nat.le_refl _, Nat.le_refl _⟩) rfl (fun Hh8 Lh8 Bh8 => ?_)
        refine lv_if_ne (tgt := 36) hx hb dX11_forge_27 (by decide) (fun c9 => ?_) (fun c9 => hp_n (n := 30) rfl ?_)
        ·
          replace hf := ms_iF c9 hf
          refine lv_aload_n hx hb dX11_forge_36 rfl (lv_at hl 0 rfl) (hp_n (n := 37) rfl ?_)
          refine q_getr (κ := 12) (k := 12) (φ := 612) (pc' := 40) C Bh8 (cw_k Bh8.2.2 k0) fl_X11_62 rfl rfl rfl (cw_r Bh8.2.2 k0 rfl rfl (by decide) (by decide)) dX11_forge_37 rfl (fun b10 eb10 kb10 => ?_)
          replace hf := ms_lE eb10 hf
          refine lv_iload_n hx hb dX11_forge_40 rfl (lv_at hl 2 rfl) (hp_n (n := 41) rfl ?_)
          refine lv_iload_n hx hb dX11_forge_41 rfl (lv_at hl 3 rfl) (hp_n (n := 42) rfl ?_)
          obtain ⟨αh11, qh11, hf⟩ := ms_bE hf
          refine d_cv (pc' := 45) Bh8 (hp_runV (As := [.int a2, .int a3]) (rest := []) C Bh8 (n_X8_toThing n Γ l α Bh8.2.2.1 b10 (cw_k Bh8.2.2 kb10) a2 a3 αh11 qh11) lb_X8_toThing lv_X8_toThing lk_X11_267 (cw_k Bh8.2.2 kb10) rfl (by decide) rfl hl.1 rfl (Nat.le_of_ble_eq_true rfl) dX11_forge_42 ⟨Nat.le_refl _, Nat.le_refl _⟩) (by decide) rfl (fun Hh11 Lh11 Bh11 => ?_)
          refine lv_aload_n hx hb dX11_forge_45 rfl (lv_at hl 0 rfl) (hp_n (n := 46) rfl ?_)
          refine q_getr (κ := 12) (k := 3) (φ := 603) (pc' := 49) C Bh11 (cw_k Bh11.2.2 k0) fl_X11_26 rfl rfl rfl (cw_r Bh11.2.2 k0 rfl rfl (by decide) (by decide)) dX11_forge_46 rfl (fun b12 eb12 kb12 => ?_)
          replace hf := ms_lE eb12 hf
          refine q_geti (κ := 6) (k := 1) (φ := 301) (pc' := 52) C Bh11 (cw_k Bh11.2.2 kb12) fl_X11_132 rfl rfl rfl dX11_forge_49 rfl (fun x13 ex13 => ?_)
          replace hf := ms_lE ex13 hf
          refine lv_aload_n hx hb dX11_forge_52 rfl (lv_at hl 0 rfl) (hp_n (n := 53) rfl ?_)
          refine q_getr (κ := 12) (k := 12) (φ := 612) (pc' := 56) C Bh11 (cw_k Bh11.2.2 k0) fl_X11_62 rfl rfl rfl (cw_r Bh11.2.2 k0 rfl rfl (by decide) (by decide)) dX11_forge_53 rfl (fun b14 eb14 kb14 => ?_)
          replace hf := ms_lE eb14 hf
          refine q_geti (κ := 9) (k := 3) (φ := 453) (pc' := 59) C Bh11 (cw_k Bh11.2.2 kb14) fl_X11_312 rfl rfl rfl dX11_forge_56 rfl (fun x15 ex15 => ?_)
          replace hf := ms_lE ex15 hf
          have J74 : ∀ (αh16 : hp_T) (Hh16 : Heap) (Lh16 : List Loc) (Bh16 : hp_B Γ (cw w_X11_forge_S) s α αh16 Hh16 Lh16) (ls : Array Slot) (hl : lv_has ls 7 [(0, .ref a0)]) (hf : f_X11_forge_P_J74 n a0 αh16 = some res), W p l e (hp_rm 72 0 0) s m ([.ref a0, .int a1, .int a2, .int a3, .int a4, .int a5] : List Value).toArray below meth c Hh16 Lh16 0 0 (MQ below (hp_Qi Γ (fun r β => cw w_X11_forge_S α β ∧ V r β)) ([.ref a0, .int a1, .int a2, .int a3, .int a4, .int a5] : List Value).toArray s 0 0 (hp_A Γ)) (F0 m 74 ls []) := by
            intro αh16 Hh16 Lh16 Bh16 ls hl hf
            unfold f_X11_forge_P_J74 at hf
            refine lv_aload_n hx hb dX11_forge_74 rfl (lv_at hl 0 rfl) (hp_n (n := 75) rfl ?_)
            refine lv_iconst (v := 5) hx hb dX11_forge_75 (by decide) (hp_n (n := 76) rfl ?_)
            obtain ⟨rh17, αh17, qh17, hf⟩ := hq_cE hf
            refine d_ci (pc' := 79) Bh16 (hp_runV (As := [.int (5 : Int32)]) (rest := []) C Bh16 (n_X11_refuse n Γ l αh16 Bh16.2.2.1 a0 (cw_k Bh16.2.2 k0) (5 : Int32) (rh17, αh17) qh17) lb_X11_refuse lv_X11_refuse lk_X11_98 (cw_k Bh16.2.2 k0) rfl (by decide) rfl hl.1 rfl (Nat.le_of_ble_eq_true rfl) dX11_forge_76 ⟨Nat.le_refl _, Nat.le_refl _⟩) (by decide) rfl (fun Hh17 Lh17 Bh17 => ?_)
            cases hf
            exact q_iret C Bh17 hr hlk ⟨Bh17.2.2, hE rfl⟩ dX11_forge_79
          refine lv_icmp_ne (tgt := 74) hx hb dX11_forge_59 (by decide) (fun c18 => ?_) (fun c18 => hp_n (n := 62) rfl ?_)
          ·
            replace hf := ms_iF c18 hf
            exact J74 αh11 Hh11 Lh11 Bh11 ls (lv_sub hl [0] rfl) hf
          ·
            replace hf := ms_iT c18 hf
            refine lv_iload hx hb dX11_forge_62 (lv_at hl 5 rfl) (hp_n (n := 64) rfl ?_)
            refine lv_aload_n hx hb dX11_forge_64 rfl (lv_at hl 0 rfl) (hp_n (n := 65) rfl ?_)
            refine q_getr (κ := 12) (k := 3) (φ := 603) (pc' := 68) C Bh11 (cw_k Bh11.2.2 k0) fl_X11_26 rfl rfl rfl (cw_r Bh11.2.2 k0 rfl rfl (by decide) (by decide)) dX11_forge_65 rfl (fun b19 eb19 kb19 => ?_)
            replace hf := ms_lE eb19 hf
            refine q_geti (κ := 6) (k := 1) (φ := 301) (pc' := 71) C Bh11 (cw_k Bh11.2.2 kb19) fl_X11_132 rfl rfl rfl dX11_forge_68 rfl (fun x20 ex20 => ?_)
            replace hf := ms_lE ex20 hf
            refine lv_icmp_lt (tgt := 80) hx hb dX11_forge_71 (by decide) (fun c21 => ?_) (fun c21 => hp_n (n := 74) rfl ?_)
            ·
              replace hf := ms_iT c21 hf
              refine lv_aload_n hx hb dX11_forge_80 rfl (lv_at hl 0 rfl) (hp_n (n := 81) rfl ?_)
              cases hf
              have kaN := (cw_k Bh11.2.2 k0)
              refine q_cq (pc' := 84) Bh11 (hp_runV (As := []) (rest := []) C Bh11 (t_X11_preparedRoots_S2 Γ l αh11 Bh11.2.2.1 a0 kaN b0 (by rw [Bh11.2.2.2.2.1]; exact hN) mm M hm hM hM2 (hmα _ rfl) (hTB _ rfl)) lb_X11_preparedRoots lv_X11_preparedRoots lk_X11_363 kaN rfl (by decide) rfl hl.1 rfl (Nat.le_of_ble_eq_true rfl) dX11_forge_81 ⟨Nat.le_refl _, Nat.le_refl _⟩) (fun _ _ h => cw_tr Bh11.2.2 h.1.1 (by decide)) rfl (fun rN αN HN LN pN BM => ?_)
              obtain ⟨⟨cS, rfl⟩, tN, iN⟩ := pN
              have kN : hp_K αN b0 = 5 := cw_k BM.2.2 kb0
              have nN : hp_N αN 618 a0 = some b0 := by rw [BM.2.2.2.2.1]; exact hN
              have cN : cg w_X4_prepare αh11 αN := cg_cw cS
              obtain ⟨t, hf, hV⟩ := hT rfl αN b0 ⟨cN, kN, nN⟩ tN iN
              have ckN : ∀ b, hp_K α b ≠ 0 → hp_K αN b = hp_K α b := fun b hb => by rw [BM.2.2.2.1]
              exact un_X11_forgeS n Γ l αN BM.2.2.1 a0 ((ckN _ (by rw [k0]; decide)).trans k0) a1 a4 a5 b0 kN t hf C hr hlk HN LN ⟨BM.1, BM.2.1, cw_rf BM.2.2.1⟩ _ (fun hw => ⟨cw_tr BM.2.2 hw (by decide), hV⟩) ls (lv_sub hl [0, 1, 4, 5] rfl)
            ·
              replace hf := ms_iF c21 hf
              exact J74 αh11 Hh11 Lh11 Bh11 ls (lv_sub hl [0] rfl) hf
        ·
          replace hf := ms_iT c9 hf
          exact J30 α Hh8 Lh8 Bh8 ls (lv_sub hl [0] rfl) hf
end JN11_0
section JN11_1
set_option maxRecDepth 100000
/-! ===== the pad, beside LX ===== -/
def pde (f g : Nat → Int32) : Prop := g 2 = f 2 ∧ ∀ j, 8 ≤ j → j < 72 → g j = f j
theorem pde_rf {f : Nat → Int32} : pde f f := ⟨rfl, fun _ _ _ => rfl⟩
theorem pdl_pde {f g : Nat → Int32} (hC : rC f) (h : pde f g) : pdl g = pdl f := by
  have h2 := hC.2.2.1
  unfold pdl
  rw [h.1]
  exact List.map_congr_left (fun k hk => h.2 _ (by omega) (by rw [List.mem_range] at hk; omega))
theorem pd_ad {f g : Nat → Int32} {l : List Int32} {a : Int32} (hg : adG f l a g) : pde f g := by
  unfold adG at hg
  by_cases ok : adOK f a
  · rw [if_pos ok] at hg
    obtain ⟨-, -, -, -, h⟩ := hg
    exact ⟨h 2 (by omega) (by omega) (by omega) (by omega), fun j _ _ => h j (by omega) (by omega) (by omega) (by omega)⟩
  · rw [if_neg ok] at hg
    rw [hg]; exact pde_rf
theorem pd_fo {f g : Nat → Int32} {a b : Int32} (hg : foG f a b g) : pde f g := by
  unfold foG at hg
  by_cases ok : foOK f a b
  · rw [if_pos ok] at hg
    obtain ⟨-, -, -, -, h⟩ := hg
    exact ⟨h 2 (by omega) (by omega) (by omega) (by omega) (by omega), fun j _ _ => h j (by omega) (by omega) (by omega) (by omega) (by omega)⟩
  · rw [if_neg ok] at hg
    rw [hg]; exact pde_rf
theorem pd_fz {f g : Nat → Int32} {a : Int32} (hg : fzG f a g) : pde f g := by
  unfold fzG at hg
  by_cases ok : (0 ≤ a.toInt ∧ a.toInt < (f 0).toInt) ∧ (f 3).toInt < 16
  · rw [if_pos ok] at hg
    obtain ⟨-, -, -, -, -, -, -, h⟩ := hg
    exact ⟨h 2 (by omega) (by omega) (by omega), fun j _ _ => h j (by omega) (by omega) (by omega)⟩
  · rw [if_neg ok] at hg
    rw [hg]; exact pde_rf
theorem pd_sh {f g : Nat → Int32} {a b c : Int32} (hg : shG f a b c g) : pde f g := by
  unfold shG at hg
  by_cases ok : shOK f a b c
  · rw [if_pos ok] at hg
    obtain ⟨-, -, -, -, h⟩ := hg
    exact ⟨h 2 (by omega) (by omega), fun j _ _ => h j (by omega) (by omega)⟩
  · rw [if_neg ok] at hg
    rw [hg]; exact pde_rf
theorem pd_meF {f g : Nat → Int32} {a b r : Nat} (hg : meF f a b r g) : pde f g := by
  obtain ⟨-, -, -, -, -, h⟩ := hg
  exact ⟨h 2 (by omega) (by omega) (by omega) (by omega) (by omega), fun j _ _ => h j (by omega) (by omega) (by omega) (by omega) (by omega)⟩
theorem pd_me {f g : Nat → Int32} {a b c : Int32} (hg : meG f a b c g) : pde f g := by
  unfold meG at hg
  by_cases ok : meOK f a b c
  · rw [if_pos ok] at hg
    by_cases q : (f (76 + 4 * b.toInt.toNat)).toInt < (f (76 + 4 * a.toInt.toNat)).toInt
    · rw [if_pos q] at hg; exact pd_meF hg
    · rw [if_neg q] at hg; exact pd_meF hg
  · rw [if_neg ok] at hg
    rw [hg]; exact pde_rf
theorem pd_sp {f g : Nat → Int32} {a b c d : Int32} (hg : spG f a b c d g) : pde f g := by
  unfold spG at hg
  by_cases ok : spOK f a b c d
  · rw [if_pos ok] at hg
    obtain ⟨-, -, h⟩ := hg
    exact ⟨h 2 (by omega) (by omega), fun j _ _ => h j (by omega) (by omega)⟩
  · rw [if_neg ok] at hg
    rw [hg]; exact pde_rf
/-- the pad of both sides -/
def PDX (α : hp_T) (x : Nat) (f : Nat → Int32) : Prop := RWL α (x + 919) (pdl f)
/-- what leaves the class's pad -/
def pkp (x : Nat) (α β : hp_T) : Prop := hp_I β 301 (x + 919) = hp_I α 301 (x + 919) ∧ hp_R β 300 (x + 919) = hp_R α 300 (x + 919) ∧ ∀ j, hp_E β 20 (x + 920) j = hp_E α 20 (x + 920) j
theorem pkp_rf {x : Nat} {α : hp_T} : pkp x α α := ⟨rfl, rfl, fun _ => rfl⟩
theorem pkp_tr {x : Nat} {α β γ : hp_T} (h : pkp x α β) (g : pkp x β γ) : pkp x α γ := ⟨g.1.trans h.1, g.2.1.trans h.2.1, fun j => (g.2.2 j).trans (h.2.2 j)⟩
theorem PDX_k {α β : hp_T} {x : Nat} {f : Nat → Int32} (h : PDX α x f) (h3 : hp_R α 300 (x + 919) = x + 920) (c : pkp x α β) : PDX β x f := by
  obtain ⟨h1, h2, h4⟩ := h
  refine ⟨h1, by rw [c.1]; exact h2, fun k hk => ?_⟩
  rw [c.2.1, h3, c.2.2, ← h3]
  exact h4 k hk
theorem PDX_e {α : hp_T} {x : Nat} {f g : Nat → Int32} (h : PDX α x f) (e : pdl g = pdl f) : PDX α x g := by
  unfold PDX at h ⊢
  rw [e]; exact h
def wpd (w : cw_W) : Bool := !(w.1.contains 301) && !(w.2.1.contains 300) && !(w.2.2.1.contains 20)
theorem pkp_cw {w : cw_W} {α β : hp_T} {x : Nat} (c : cw w α β) (hw : wpd w = true) : pkp x α β := by
  obtain ⟨c0, c1, c2, c3, c4, c5, c6, c7, c8⟩ := c
  simp only [wpd, Bool.and_eq_true, Bool.not_eq_true', List.contains_eq_mem, decide_eq_false_iff_not] at hw
  exact ⟨by rw [c5 301 hw.1.1], by rw [c6 300 hw.1.2], fun j => by rw [c7 20 hw.2]⟩
theorem pkp_wfs {α β : hp_T} {x : Nat} (h : wfs x α β) : pkp x α β := by
  obtain ⟨w1, -, -, -, w5, w6⟩ := h
  exact ⟨w5 301 _ (by omega) (fun q => absurd q.1 (by decide)), by rw [w1], fun j => w6 20 _ j (by omega)⟩
theorem pkp_qf {α β : hp_T} {x w a : Nat} (h : qf w a α β) (h1 : a ≠ x + 919) (h2 : hp_R α 300 a ≠ x + 920) : pkp x α β := by
  obtain ⟨w1, -, -, -, w5, w6⟩ := h
  exact ⟨w5 301 _ (fun q => h1 q.1.symm), by rw [w1], fun j => w6 20 _ j (fun q => absurd q.1 (by decide)) (fun q => h2 q.2.symm)⟩
theorem pkp_wf {α β : hp_T} {x a : Nat} (h : wf a α β) : pkp x α β := by
  obtain ⟨w1, -, -, -, w5, w6⟩ := h
  exact ⟨w5 301 _ (by omega), by rw [w1], fun j => w6 20 _ j (by omega)⟩
theorem pkp_jf {α β : hp_T} {x w : Nat} (h : jf w α β) : pkp x α β := by
  obtain ⟨w1, -, -, -, w5, w6⟩ := h
  exact ⟨by rw [w5], by rw [w1], fun j => w6 20 _ j (fun q => absurd q.1 (by decide))⟩
theorem pkp_st {α : hp_T} {x : Nat} {v : Int32} : pkp x α (hp_sI α 600 x v) := ⟨by rw [hI_sI, if_neg (fun z => absurd z.1 (by decide))], rfl, fun _ => rfl⟩
/-! ===== the verifier over the pad: checks, growth, trace ===== -/
theorem v_fromPad_L (n : Nat) (f : Nat → Int32) (hC : rC f) (σ0 : ms_T) : ∀ (d k : Nat) (σ : ms_T) (kI : Int32), ms_E σ 40 = f → kI.toInt = (k : Int) → k ≤ (f 2).toInt.toNat → (∀ j, j < k → ms_E σ 44 j = f (8 + j)) → fr [] [44] σ0 σ → pr (f_X12_fromPad_L2 n d σ kI) (fun res => res.1 = f 2 ∧ (∀ j, j < (f 2).toInt.toNat → ms_E res.2 44 j = f (8 + j)) ∧ fr [] [44] σ0 res.2) := by
  intro d
  induction d with
  | zero => intro k σ kI _ _ _ _ _; rw [f_X12_fromPad_L2.eq_1]; exact pr_0
  | succ d ih =>
    intro k σ kI hσ hk hkl h44 hf
    have c2 : ((2 : Int32)).toNatClampNeg = 2 := by decide
    have h64 := hC.2.2.1
    rw [f_X12_fromPad_L2.eq_2, c2, hσ]
    refine pr_g (fun _ _ => pr_le (fun e => pr_g (fun _ _ => pr_s ⟨rfl, fun j hj => h44 j (by omega), hf⟩)) (fun e => pr_g (fun _ _ => pr_g (fun _ _ => pr_l (pr_l ?_)))))
    have ec : ((8 : Int32) + kI).toNatClampNeg = 8 + k := cl_n (by rw [iw_add, t_8]; omega)
    have e1 : (kI + 1).toInt = ((k + 1 : Nat) : Int) := by rw [iw_add, lt1]; omega
    rw [ec, cl_n hk]
    refine ih (k + 1) _ _ ?_ e1 (by omega) (fun j hj => ?_) (fr_tr hf (fr_sE (by decide)))
    · funext j
      rw [mE_sE, if_neg (fun q => absurd q.1 (by decide)), hσ]
    · rw [mE_sE]
      by_cases ej : j = k
      · rw [if_pos ⟨rfl, ej⟩, ej]
      · rw [if_neg (fun q => ej q.2)]; exact h44 j (by omega)
theorem v_fromPad (n : Nat) (σ : ms_T) (hC : rC (ms_E σ 40)) : pr (f_X12_fromPad n σ) (fun res => res.1 = ms_E σ 40 2 ∧ (∀ j, j < (ms_E σ 40 2).toInt.toNat → ms_E res.2 44 j = ms_E σ 40 (8 + j)) ∧ fr [] [44] σ res.2) := by
  unfold f_X12_fromPad
  exact v_fromPad_L n (ms_E σ 40) hC σ n 0 σ 0 rfl rfl (Nat.zero_le _) (fun j hj => by omega) fr_rf
/-! ===== weak and forge: what every call keeps of the table ===== -/
def TBX (α : hp_T) (x : Nat) : Prop := ∀ b, hp_N α 618 x = some b → ∀ M : Nat, 101 ≤ M → M ≤ 65521 → (hp_I α 252 b).toInt = (M : Int) → TB α b M
theorem TBX_f {α β : hp_T} {x : Nat} (h : TBX α x) (eN : hp_N β 618 x = hp_N α 618 x) (eI : ∀ b, hp_N α 618 x = some b → hp_I β 252 b = hp_I α 252 b) (eR : ∀ b, hp_N α 618 x = some b → hp_R β 250 b = hp_R α 250 b ∧ hp_R β 251 b = hp_R α 251 b) (eE : ∀ b j, hp_N α 618 x = some b → hp_E β 34 (hp_R α 250 b) j = hp_E α 34 (hp_R α 250 b) j ∧ hp_E β 35 (hp_R α 251 b) j = hp_E α 35 (hp_R α 251 b) j) : TBX β x := by
  intro b hb M h1 h2 hI
  rw [eN] at hb
  rw [eI b hb] at hI
  obtain ⟨t1, t2⟩ := h b hb M h1 h2 hI
  obtain ⟨r1, r2⟩ := eR b hb
  exact ⟨fun t ht => by rw [r1, (eE b t hb).1]; exact t1 t ht, fun g hg => by rw [r2, (eE b g hb).2]; exact t2 g hg⟩
/-- what leaves the table -/
def weD (x : Nat) (α δ : hp_T) : Prop := hp_R δ = hp_R α ∧ hp_K δ = hp_K α ∧ hp_N δ = hp_N α ∧ (∀ φ b, φ ≠ 301 → φ ≠ 453 → φ ≠ 454 → φ ≠ 600 → hp_I δ φ b = hp_I α φ b) ∧ ∀ κ b j, κ ≠ 20 → κ ≠ 21 → κ ≠ 22 → κ ≠ 23 → κ ≠ 33 → hp_E δ κ b j = hp_E α κ b j
theorem weD_rf {x : Nat} {α : hp_T} : weD x α α := ⟨rfl, rfl, rfl, fun _ _ _ _ _ _ => rfl, fun _ _ _ _ _ _ _ _ => rfl⟩
theorem weD_tr {x : Nat} {α β γ : hp_T} (h : weD x α β) (g : weD x β γ) : weD x α γ := ⟨g.1.trans h.1, g.2.1.trans h.2.1, g.2.2.1.trans h.2.2.1, fun φ b p q r s => (g.2.2.2.1 φ b p q r s).trans (h.2.2.2.1 φ b p q r s), fun κ b j p q r s t => (g.2.2.2.2 κ b j p q r s t).trans (h.2.2.2.2 κ b j p q r s t)⟩
theorem weD_wf {x a : Nat} {α β : hp_T} (h : wf a α β) : weD x α β := ⟨h.1, h.2.1, h.2.2.2.1, fun φ b p q r _ => h.2.2.2.2.1 φ b (fun z => by omega), fun κ b j p q r s _ => h.2.2.2.2.2 κ b j (fun z => by omega)⟩
theorem weD_qf {x w a : Nat} {α β : hp_T} (h : qf w a α β) : weD x α β := ⟨h.1, h.2.1, h.2.2.2.1, fun φ b p q r _ => h.2.2.2.2.1 φ b (fun z => by omega), fun κ b j p q r s t => h.2.2.2.2.2 κ b j (fun z => t z.1) (fun z => p z.1)⟩
theorem weD_st {x : Nat} {α : hp_T} {v : Int32} : weD x α (hp_sI α 600 x v) := ⟨rfl, rfl, rfl, fun φ b _ _ _ s => by rw [hI_sI, if_neg (fun z => s z.1)], fun _ _ _ _ _ _ _ _ => rfl⟩
theorem TBX_weD {x : Nat} {α β : hp_T} (h : TBX α x) (d : weD x α β) : TBX β x := by
  obtain ⟨d1, d2, d3, d4, d5⟩ := d
  exact TBX_f h (by rw [d3]) (fun b _ => d4 252 b (by decide) (by decide) (by decide) (by decide)) (fun b _ => by rw [d1]; exact ⟨rfl, rfl⟩) (fun b j _ => ⟨d5 34 _ j (by decide) (by decide) (by decide) (by decide) (by decide), d5 35 _ j (by decide) (by decide) (by decide) (by decide) (by decide)⟩)
theorem k_weakP (n : Nat) (hn : 70000 ≤ n) (α : hp_T) (x : Nat) (f : Nat → Int32) (hC : rC f) (h : RWX α x f) (h14 : hp_R α 614 x = x + 939) (h40 : hp_R α 300 (x + 939) = x + 940) (h39 : 0 ≤ (hp_I α 301 (x + 939)).toInt ∧ (hp_I α 301 (x + 939)).toInt ≤ 64) (a i m what : Int32) : ws (f_X11_weak_P n α x a i m what) (fun res => (weD x α res.2.2 ∧ pkp x α res.2.2) ∧ (res.1 = none → ¬ wkOK f a i m what ∧ res.2.1 = -1) ∧ ∀ lg, res.1 = some lg → wkOK f a i m what ∧ lg = lpA (hp_R α 601 x) a.toInt.toNat ∧ WC res.2.2 (hp_R α 612 x) (wkW i m) ∧ RWL res.2.2 (x + 939) (inL f a i m) ∧ LM res.2.2 lg (EL f a.toInt.toNat)) := by
  obtain ⟨w, u, h1, h2, -, h4, -⟩ := h
  have hm0 := hC.2.1
  have h44 := hC.1
  have bad : ∀ (v : Int32), ¬ wkOK f a i m what → ws (hq_c (f_X11_refuse n α x v) fun r γ => some ((none : Option Nat), r, γ)) (fun res => (weD x α res.2.2 ∧ pkp x α res.2.2) ∧ (res.1 = none → ¬ wkOK f a i m what ∧ res.2.1 = -1) ∧ ∀ lg, res.1 = some lg → wkOK f a i m what ∧ lg = lpA (hp_R α 601 x) a.toInt.toNat ∧ WC res.2.2 (hp_R α 612 x) (wkW i m) ∧ RWL res.2.2 (x + 939) (inL f a i m) ∧ LM res.2.2 lg (EL f a.toInt.toNat)) := fun v hno =>
    ws_hc (k_refuse n α x v) (fun z γ hz => ws_s ⟨by rw [show γ = hp_sI α 600 x v from hz.2]; exact ⟨weD_st, pkp_st⟩, fun _ => ⟨hno, hz.1⟩, fun lg q => (by cases q)⟩)
  unfold f_X11_weak_P f_X11_weak_P_J11 f_X11_weak_P_J46
  refine ws_lt (fun e => bad 1 (fun q => by rw [lt0] at e; have := q.1.1; omega)) (fun e => ws_le (fun e2 => ws_l ?_) (fun e2 => bad 1 (fun q => by rw [lt1] at e2; have := q.1.2; omega)))
  rw [lt0] at e
  rw [lt1] at e2
  have bad2 := bad
  rw [h1] at bad2
  rw [h1]
  refine ws_b (k_logAt n h4 hC a) (fun o ho => ?_)
  by_cases hr : 0 ≤ a.toInt ∧ a.toInt < (f 0).toInt
  · rw [if_pos hr] at ho
    subst ho
    have q152 := (h4.2.2.1 a.toInt.toNat (by omega)).1
    have hsz := hC.2.2.2.2.1 a.toInt.toNat (by omega)
    refine ws_hS ?_
    unfold f_X11_wrongInclusion f_X11_wrongInclusions_J29
    refine ws_b (S := fun v => (v = 0 ∧ inOK f a i m) ∨ (¬ v = 0 ∧ ¬ inOK f a i m)) (ws_hS (ws_lt (fun e => ws_s (Or.inr ⟨by decide, fun q => by rw [lt0] at e; have := q.1.1; omega⟩)) (fun e => ws_le (fun e2 => ws_l ?_) (fun e2 => ws_s (Or.inr ⟨by decide, fun q => by rw [lt0] at e2; have := q.1.2; omega⟩))))) (fun v hv => ?_)
    · rw [lt0] at e e2
      rw [q152]
      exact ws_lt (fun e3 => ws_s (Or.inr ⟨by decide, fun q => by have := q.2.2.1; omega⟩)) (fun e3 => ws_lt (fun e4 => ws_s (Or.inl ⟨rfl, ⟨e, e2⟩, hr, e3, e4⟩)) (fun e4 => ws_s (Or.inr ⟨by decide, fun q => by have := q.2.2.2; omega⟩)))
    · rcases hv with ⟨rfl, ok⟩ | ⟨hv, no⟩
      · refine ws_i (fun _ => ws_l ?_) (fun q => absurd rfl q)
        obtain ⟨ok1, ok2, ok3, ok4⟩ := id ok
        refine ws_b (k_toThing n hn α _ i m ok1.1 ok4) (fun β hβ => ws_l (ws_l (ws_l ?_)))
        obtain ⟨hWC, hwf⟩ := hβ
        have hWβ := WR_wf h4 hC hwf
        rw [hwf.1, h1, h14]
        obtain ⟨l0, hl0⟩ := RWL_any (α := β) (a := x + 939) (by rw [hwf.2.2.2.2.1 301 _ (fun z => by omega)]; exact h39.1) (by rw [hwf.2.2.2.2.1 301 _ (fun z => by omega)]; exact h39.2)
        refine ws_b (k_marksAlong n hn w (x + 939) _ β (f 1) (by omega) hWβ.2.1.1 (lpA w a.toInt.toNat) (EL f a.toInt.toNat) (WR_LM hWβ hC (by omega)) _ hWC (by rw [List.length_reverse]; exact Nat.le_trans (wyT_len _ _ _ _) (by decide)) (fun q hq => ?_) l0 hl0) (fun δ hδ => ws_s ?_)
        · have := wyT_rin (N := m.toInt.toNat) (I := i.toInt.toNat) (by omega) q hq
          rw [EL_len]; omega
        obtain ⟨hL, hqf⟩ := hδ
        refine ⟨⟨weD_tr (weD_wf hwf) (weD_qf hqf), pkp_tr (pkp_wf hwf) (pkp_qf hqf (by omega) (by rw [hwf.1, h40]; omega))⟩, fun q => (by cases q), fun lg q => ?_⟩
        have q : some (lpA w a.toInt.toNat) = some lg := q
        cases q
        exact ⟨⟨⟨e, e2⟩, ok⟩, rfl, WC_qf hWC hqf, hL, LM_qf (WR_LM hWβ hC (r := a.toInt.toNat) (by omega)) hqf⟩
      · exact ws_i (fun q => absurd q hv) (fun _ => bad2 v (fun q => no q.2))
  · rw [if_neg hr] at ho
    subst ho
    have no : ¬ wkOK f a i m what := fun q => hr q.2.2.1
    refine ws_hN ?_
    unfold f_X11_wrongInclusion
    refine ws_b (S := fun _ => True) (ws_hN (ws_lt (fun _ => ws_s trivial) (fun _ => ws_le (fun _ => ws_s trivial) (fun _ => ws_s trivial)))) (fun v _ => ws_i (fun _ => bad2 v no) (fun _ => bad2 v no))
/-- behind the table -/
theorem TB_jf {α β : hp_T} {w r M : Nat} (h : TB α r M) (f : jf w α β) : TB β r M := by
  obtain ⟨f1, -, -, -, -, f6⟩ := f
  unfold TB at h ⊢
  rw [f1]
  exact ⟨fun t ht => by rw [f6 34 _ t (fun z => absurd z.1 (by decide))]; exact h.1 t ht, fun t ht => by rw [f6 35 _ t (fun z => absurd z.1 (by decide))]; exact h.2 t ht⟩
theorem TBX_1 {α : hp_T} {x b M : Nat} {m : Int32} (hm : m.toInt = (M : Int)) (hN : hp_N α 618 x = some b) (h252 : hp_I α 252 b = m) (hT : TB α b M) : TBX α x := by
  intro b' hb M' _ _ hI
  rw [hN] at hb
  cases hb
  rw [h252, hm] at hI
  have : M = M' := by omega
  rw [← this]; exact hT
theorem TB_st {α : hp_T} {x r M : Nat} {v : Int32} (h : TB α r M) : TB (hp_sI α 600 x v) r M := h
section WT
variable {α δ γ : hp_T} {x b1 M : Nat} {f : Nat → Int32}
theorem kg_cg (g : GC α) (d : weD x α δ) (c : cg w_X4_prepare δ γ) {b : Nat} {κ : Nat} (k : hp_K α b = κ) (h0 : κ ≠ 0) : (∀ φ, hp_R γ φ b = hp_R α φ b) ∧ (∀ φ, φ ≠ 252 → hp_I γ φ b = hp_I δ φ b) ∧ ∀ κ' j, κ' ≠ 34 → κ' ≠ 35 → hp_E γ κ' b j = hp_E δ κ' b j := by
  have kd : hp_K δ b ≠ 0 := by rw [d.2.1, k]; exact h0
  exact ⟨fun φ => (c.2.2.2.1 φ b kd (by simp [w_X4_prepare])).trans (by rw [d.1]), fun φ p => c.2.2.1 φ b kd (by simp [w_X4_prepare, p]), fun κ' j p q => c.2.2.2.2.1 κ' b j kd (by simp [w_X4_prepare, p, q])⟩
theorem pkp_kg (g : GC α) (kx : hp_K α x = 12) (d : weD x α δ) (h6 : hp_R α 603 x = x + 919) (h3 : hp_R α 300 (x + 919) = x + 920) (c : cg w_X4_prepare δ γ) : pkp x δ γ := by
  have k6 : hp_K α (x + 919) = 6 := gkR g kx h6 rfl (by decide) (by decide)
  have k20 : hp_K α (x + 920) = 20 := gkR g k6 h3 rfl (by decide) (by decide)
  obtain ⟨r1, r2, -⟩ := kg_cg g d c k6 (by decide)
  obtain ⟨-, -, s3⟩ := kg_cg g d c k20 (by decide)
  exact ⟨r2 301 (by decide), (r1 300).trans (by rw [d.1]), fun j => s3 20 j (by decide) (by decide)⟩
theorem RWL_kg (g : GC α) (d : weD x α δ) (c : cg w_X4_prepare δ γ) {a : Nat} {l : List Int32} (k : hp_K α a = 6) (h : RWL δ a l) : RWL γ a l := by
  obtain ⟨r1, r2, -⟩ := kg_cg g d c k (by decide)
  have ka : hp_K α (hp_R α 300 a) = 20 := gkR g k rfl rfl (by decide) (by decide)
  obtain ⟨-, -, s3⟩ := kg_cg g d c ka (by decide)
  exact ⟨h.1, by rw [r2 301 (by decide)]; exact h.2.1, fun j hj => by rw [r1, s3 20 j (by decide) (by decide), ← d.1]; exact h.2.2 j hj⟩
theorem WC_kg (g : GC α) (d : weD x α δ) (c : cg w_X4_prepare δ γ) {a : Nat} {l : List (Nat × Nat × Bool)} (k : hp_K α a = 9) (h : WC δ a l) : WC γ a l := by
  obtain ⟨r1, r2, -⟩ := kg_cg g d c k (by decide)
  have k1 : hp_K α (hp_R α 450 a) = 21 := gkR g k rfl rfl (by decide) (by decide)
  have k2 : hp_K α (hp_R α 451 a) = 22 := gkR g k rfl rfl (by decide) (by decide)
  have k3 : hp_K α (hp_R α 452 a) = 23 := gkR g k rfl rfl (by decide) (by decide)
  obtain ⟨-, -, s1⟩ := kg_cg g d c k1 (by decide)
  obtain ⟨-, -, s2⟩ := kg_cg g d c k2 (by decide)
  obtain ⟨-, -, s3⟩ := kg_cg g d c k3 (by decide)
  refine ⟨by rw [r2 453 (by decide)]; exact h.1, fun j q hq => ?_⟩
  rw [r1, r1, r1, s1 21 j (by decide) (by decide), s2 22 j (by decide) (by decide), s3 23 j (by decide) (by decide), ← d.1]
  exact h.2 j q hq
theorem LM_kg (g : GC α) (d : weD x α δ) (c : cg w_X4_prepare δ γ) {a : Nat} {l : List Int32} (k : hp_K α a = 3) (h : LM δ a l) : LM γ a l := by
  obtain ⟨r1, r2, -⟩ := kg_cg g d c k (by decide)
  have ka : hp_K α (hp_R α 151 a) = 29 := gkR g k rfl rfl (by decide) (by decide)
  obtain ⟨-, -, s3⟩ := kg_cg g d c ka (by decide)
  exact ⟨h.1, by rw [r2 152 (by decide)]; exact h.2.1, fun j hj => by rw [r1, s3 29 j (by decide) (by decide), ← d.1]; exact h.2.2 j hj⟩
theorem k_weakT (n : Nat) (hn : 70000 ≤ n) (g : GC α) (kx : hp_K α x = 12) (hC : rC f) (hMR : MRL f) (h : RWX α x f) (h14 : hp_R α 614 x = x + 939) (hm : (f 1).toInt = (M : Int)) (a i m what : Int32) (ok : wkOK f a i m what) (d : weD x α δ) (hWC : WC δ (hp_R α 612 x) (wkW i m)) (hL : RWL δ (x + 939) (inL f a i m)) (hLM : LM δ (lpA (hp_R α 601 x) a.toInt.toNat) (EL f a.toInt.toNat)) (c : cg w_X4_prepare δ γ) (hN : hp_N γ 618 x = some b1) (hT : TB γ b1 M) (h252 : hp_I γ 252 b1 = f 1) : ∃ t : Int32 × hp_T, f_X11_weak_T n γ x i m what (lpA (hp_R α 601 x) a.toInt.toNat) b1 = some t ∧ (t.1 = wkA f a i m what ∧ TBX t.2 x ∧ pkp x γ t.2) := by
  obtain ⟨w, u, h1, h2, -, h4, -⟩ := h
  have hm0 := hC.2.1
  have h44 := hC.1
  obtain ⟨ok0, ok1, ok2, ok3, ok4⟩ := id ok
  have hsz := hC.2.2.2.2.1 a.toInt.toNat (by omega)
  have kw : hp_K α w = 11 := gkR g kx h1 rfl (by decide) (by decide)
  have kwy : hp_K α (hp_R α 612 x) = 9 := gkR g kx rfl rfl (by decide) (by decide)
  have krow : hp_K α (x + 939) = 6 := gkR g kx h14 rfl (by decide) (by decide)
  obtain ⟨a1, -, -, -, -, -, a7, -, -, -, -, -, -⟩ := h4.1
  have k1 : hp_K α (w + 1) = 30 := gkR g kw a1 rfl (by decide) (by decide)
  have klg : hp_K α (lpA w a.toInt.toNat) = 3 := gkQ g k1 (a7 a.toInt.toNat (by omega)) rfl (by decide)
  obtain ⟨x1, x2, -⟩ := kg_cg g d c kx (by decide)
  obtain ⟨w1, w2, -⟩ := kg_cg g d c kw (by decide)
  rw [h1] at hLM ⊢
  have hWCγ := WC_kg g d c kwy hWC
  have hLγ := RWL_kg g d c krow hL
  have hLMγ := LM_kg g d c klg hLM
  have h550 : hp_I γ 550 w = f 1 := by rw [w2 550 (by decide), d.2.2.2.1 550 w (by decide) (by decide) (by decide) (by decide)]; exact h4.2.1.1
  have hil : i.toInt.toNat < (EL f a.toInt.toNat).length := by rw [EL_len]; omega
  have hWl : (wkW i m).length = (wyT 31 i.toInt.toNat 0 m.toInt.toNat).length := by unfold wkW; rw [List.length_reverse]
  have hW31 : (wkW i m).length ≤ 31 := by rw [hWl]; exact wyT_len _ _ _ _
  unfold f_X11_weak_T
  refine ws_l (ws_l ?_)
  refine ws_b (k_markAt n hLMγ i.toInt.toNat i (by omega) hil) (fun em hem => ws_l ?_)
  replace hem : em = EM f a.toInt.toNat i.toInt.toNat := by
    have := EL_get f a.toInt.toNat i.toInt.toNat (by omega)
    rw [List.getElem?_eq_getElem hil] at this
    rw [hem]; exact Option.some.inj this
  rw [x1 612, x1 614, x1 601, h14, h1]
  refine ws_hc (k_headOf n hn w γ (f 1) (by omega) h550 (lpA w a.toInt.toNat) (EL f a.toInt.toNat) hLMγ m.toInt.toNat (by rw [EL_len]; omega) m (by omega)) (fun hd γ1 hγ1 => ?_)
  obtain ⟨hhd, hjf⟩ := hγ1
  replace hhd : hd = _ := hhd
  have emr := hMR a.toInt.toNat (by omega) (EM f a.toInt.toNat i.toInt.toNat) (List.mem_of_getElem? (EL_get f a.toInt.toNat i.toInt.toNat (by omega)))
  have hdr := TMK_lt hC (L := EL f a.toInt.toNat) (hMR a.toInt.toNat (by omega)) 0 m.toInt.toNat
  have hXlen : (inL f a i m).length = (wkW i m).length := by unfold inL wkW; rw [mkl_len]
  have hXr : ∀ j, j < (wkW i m).length → 0 ≤ ((inL f a i m).getD j 0).toInt ∧ ((inL f a i m).getD j 0).toInt ≤ 65521 := fun j hj => by
    have hj2 : j < ((wyT 31 i.toInt.toNat 0 m.toInt.toNat).reverse).length := hj
    have e := mkl_get (f 1) (EL f a.toInt.toNat) (wyT 31 i.toInt.toNat 0 m.toInt.toNat).reverse j hj2
    have e2 : (inL f a i m).getD j 0 = TMK (f 1) (EL f a.toInt.toNat) ((wyT 31 i.toInt.toNat 0 m.toInt.toNat).reverse[j]).1 ((wyT 31 i.toInt.toNat 0 m.toInt.toNat).reverse[j]).2.1 := by
      rw [List.getD_eq_getElem?_getD]
      unfold inL
      rw [e]; rfl
    rw [e2]
    have := TMK_lt hC (L := EL f a.toInt.toNat) (hMR a.toInt.toNat (by omega)) ((wyT 31 i.toInt.toNat 0 m.toInt.toNat).reverse[j]).1 ((wyT 31 i.toInt.toNat 0 m.toInt.toNat).reverse[j]).2.1
    omega
  have jI : hp_I γ1 = hp_I γ := hjf.2.2.2.2.1
  have hN1 : hp_N γ1 618 x = some b1 := by rw [hjf.2.2.2.1]; exact hN
  refine ws_b (k_seekThing n hn (M := M) (e := wkE f a i) hm (by omega) (by omega) (wkW i m) (inL f a i m) (WC_jfc hWCγ hjf) (by omega) (RWL_jf hLγ hjf) (by omega) hXr (by rw [jI]; exact h252) (TB_jf hT hjf) em hd (by rw [hem]; unfold wkE; omega) hd.toInt.toNat (by rw [hhd]; omega) (by rw [hhd]; omega)) (fun β hβ => ?_)
  obtain ⟨hS, hTβ, hIβ, hNβ, e1, -, -, e4, e5⟩ := hβ
  have pk : pkp x γ β := pkp_tr (pkp_jf hjf) ⟨e5 301 _ (by omega), e1 300 _ (by decide) (by decide), fun j => by rw [e4]⟩
  have hNb : hp_N β 618 x = some b1 := by rw [hNβ]; exact hN1
  have fold := gb_fold (M := M) (by omega) (fun j => wfl (wkW i m) j) (fun j => ((inL f a i m).getD j 0).toInt.toNat) (wkW i m).length (wkE f a i) hd.toInt.toNat (by rw [hhd]; omega) (wkP f a i m) (fun v hv => by
    have q := fwd_gF hm (by omega) (by omega) (fun j => (inL f a i m).getD j 0) (wkW i m) (fun j => wfl (wkW i m) j) (fun j => ((inL f a i m).getD j 0).toInt.toNat) (fun j _ => rfl) (fun j hj => by have := hXr j hj; show ((inL f a i m).getD j 0).toInt = _; omega) (Int32.ofNat v) v (by rw [Int32.toInt_ofNat_of_lt (by omega)]) (wkW i m).length (Nat.le_refl _)
    rw [List.take_length] at q
    unfold wkP
    rw [decide_eq_true_iff, ← hhd]
    constructor
    · intro z
      rw [z] at q; omega
    · intro z
      exact Int32.toInt_inj.mp (by rw [q, z, hhd]; omega)) (0, 0)
  rw [fold] at hS
  obtain ⟨s1, s2⟩ := hS
  unfold wkA
  rw [if_pos ok]
  have eM : (f 1).toInt.toNat = M := by omega
  rw [eM]
  unfold wkR
  refine ws_i (fun w0 => ws_l (ws_hc (k_answer n β x _) (fun z ε hz => ws_s ⟨?_, ?_⟩))) (fun w0 => ws_l (ws_i (fun z0 => ws_hc (k_refuse n β x 5) (fun z ε hz => ws_s ⟨?_, ?_⟩)) (fun z0 => ws_l (ws_hc (k_answer n β x _) (fun z ε hz => ws_s ⟨?_, ?_⟩)))))
  · rw [if_pos w0, show z = hp_I β 259 b1 from hz.1]; exact i_ofN s1
  · rw [show ε = hp_sI β 600 x 0 from hz.2]; exact ⟨TBX_1 hm hNb hIβ (TB_st hTβ), pkp_tr pk pkp_st⟩
  · rw [if_neg w0, if_pos (by rw [z0, lt0] at s1; omega)]; exact hz.1
  · rw [show ε = hp_sI β 600 x 5 from hz.2]; exact ⟨TBX_1 hm hNb hIβ (TB_st hTβ), pkp_tr pk pkp_st⟩
  · rw [if_neg w0, if_neg (fun q => z0 (Int32.toInt_inj.mp (by rw [s1, q]; rfl))), show z = hp_I β 260 b1 from hz.1]; exact i_ofN s2
  · rw [show ε = hp_sI β 600 x 0 from hz.2]; exact ⟨TBX_1 hm hNb hIβ (TB_st hTβ), pkp_tr pk pkp_st⟩
end WT
/-! ===== forge: that it ends, and keeps the table ===== -/
section GT
variable {r way row M lo : Nat} {m lastI openI kw ex : Int32} {W : List (Nat × Nat × Bool)} {XL : List Int32}
end GT
section FT
variable {α δ γ : hp_T} {x b1 M : Nat} {f : Nat → Int32}
end FT
/-! ===== weak and forge for the law ===== -/
section WI
variable {x : Nat} {f : Nat → Int32}
theorem wkV (α : hp_T) (hC : rC f) (hTB : TBX α x) (hRW : RWX α x f) (a i m what : Int32) {res : Option Nat × Int32 × hp_T} (hd : weD x α res.2.2 ∧ pkp x α res.2.2) (h1 : res.1 = none → ¬ wkOK f a i m what ∧ res.2.1 = -1) : res.1 = none → (res.2.1 = wkA f a i m what ∧ TBX res.2.2 x ∧ pkp x α res.2.2) := fun e => by
  obtain ⟨no, q⟩ := h1 e
  refine ⟨?_, TBX_weD hTB hd.1, hd.2⟩
  unfold wkA
  rw [if_neg no]; exact q
theorem mm_weD {α δ : hp_T} (hRW : RWX α x f) (d : weD x α δ) : ∀ β, β = δ → hp_I β 550 (hp_R β 601 x) = f 1 := fun β e => by
  obtain ⟨w, u, h1, -, -, h4, -⟩ := hRW
  rw [e, d.1, d.2.2.2.1 550 _ (by decide) (by decide) (by decide) (by decide), h1]
  exact h4.2.1.1
theorem tb_weD {α δ : hp_T} {b0 M : Nat} (hTB : TBX α x) (hN : hp_N α 618 x = some b0) (hm : (f 1).toInt = (M : Int)) (hM : 101 ≤ M) (hM2 : M ≤ 65521) (d : weD x α δ) : ∀ β, β = δ → hp_I β 252 b0 = f 1 → TB β b0 M := fun β e h => by
  subst e
  exact TBX_weD hTB d b0 (by rw [d.2.2.1]; exact hN) M hM hM2 (by rw [h]; exact hm)
theorem w_weak_S (Γ : hp_G) (l : Launch) (α : hp_T) (g : GC α) (kx : hp_K α x = 12) (b0 : Nat) (hN : hp_N α 618 x = some b0) (hC : rC f) (hRW : RWX α x f) (h14 : hp_R α 614 x = x + 939) (h40 : hp_R α 300 (x + 939) = x + 940) (h6 : hp_R α 603 x = x + 919) (h3 : hp_R α 300 (x + 919) = x + 920) (h39 : 0 ≤ (hp_I α 301 (x + 939)).toInt ∧ (hp_I α 301 (x + 939)).toInt ≤ 64) (hTB : TBX α x) (a i m what : Int32) : Met l yX11_weak (hp_ws yX11_weak cX11_weak 8 (some .int)) (hp_rm 72 0 0) (hp_Pc Γ α [.ref x, .int a, .int i, .int m, .int what]) (hp_Qi Γ (fun r β => cw w_X11_weak_S α β ∧ (r = wkA f a i m what ∧ TBX β x ∧ pkp x α β))) 0 0 (hp_A Γ) := by
  have hm0 := hC.2.1
  have hm : (f 1).toInt = ((f 1).toInt.toNat : Int) := by omega
  obtain ⟨res, hq, hd, h1, h2⟩ := k_weakP 70000 (by decide) α x f hC hRW h14 h40 h39 a i m what
  refine n_X11_weak_S 70000 Γ l α g x kx a i m what b0 hN (f 1) (f 1).toInt.toNat hm (by omega) (by omega) (fun r β => r = wkA f a i m what ∧ TBX β x ∧ pkp x α β) res hq (wkV α hC hTB hRW a i m what hd h1) (mm_weD hRW hd.1) (tb_weD hTB hN hm (by omega) (by omega) hd.1) (fun {lg} e γ b1 p tb ib => ?_)
  obtain ⟨ok, elg, q1, q2, q3⟩ := h2 lg e
  subst elg
  obtain ⟨t, t1, t2, t3, t4⟩ := k_weakT 70000 (by decide) g kx hC (MRL_X hRW hC) hRW h14 hm a i m what ok hd.1 q1 q2 q3 p.1 p.2.2 tb ib
  exact ⟨t, t1, t2, t3, pkp_tr hd.2 (pkp_tr (pkp_kg g kx hd.1 h6 h3 p.1) t4)⟩
theorem w_weak_N (Γ : hp_G) (l : Launch) (α : hp_T) (g : GC α) (Hs : Heap) (kx : hp_K α x = 12) (hN : hp_N α 618 x = none) (hC : rC f) (hRW : RWX α x f) (h14 : hp_R α 614 x = x + 939) (h40 : hp_R α 300 (x + 939) = x + 940) (h6 : hp_R α 603 x = x + 919) (h3 : hp_R α 300 (x + 919) = x + 920) (h39 : 0 ≤ (hp_I α 301 (x + 939)).toInt ∧ (hp_I α 301 (x + 939)).toInt ≤ 64) (hTB : TBX α x) (a i m what : Int32) : Met l yX11_weak (hp_ws yX11_weak cX11_weak 8 (some .int)) (hp_rm 72 9 131316) (hp_PcH Γ α Hs [.ref x, .int a, .int i, .int m, .int what]) (va_Qi (fun r β => cg w_X11_weak_S α β ∧ (r = wkA f a i m what ∧ TBX β x ∧ pkp x α β)) (hp_Bz Γ Hs x) (hp_A Γ)) 9 131316 (hp_A Γ) := by
  have hm0 := hC.2.1
  have hm : (f 1).toInt = ((f 1).toInt.toNat : Int) := by omega
  obtain ⟨res, hq, hd, h1, h2⟩ := k_weakP 70000 (by decide) α x f hC hRW h14 h40 h39 a i m what
  refine n_X11_weak_N 70000 Γ l α g Hs x kx a i m what hN (f 1) (f 1).toInt.toNat hm (by omega) (by omega) (fun r β => r = wkA f a i m what ∧ TBX β x ∧ pkp x α β) res hq (wkV α hC hTB hRW a i m what hd h1) (mm_weD hRW hd.1) (fun {lg} e γ b1 p tb ib => ?_)
  obtain ⟨ok, elg, q1, q2, q3⟩ := h2 lg e
  subst elg
  obtain ⟨t, t1, t2, t3, t4⟩ := k_weakT 70000 (by decide) g kx hC (MRL_X hRW hC) hRW h14 hm a i m what ok hd.1 q1 q2 q3 p.1 p.2.2 tb ib
  exact ⟨t, t1, t2, t3, pkp_tr hd.2 (pkp_tr (pkp_kg g kx hd.1 h6 h3 p.1) t4)⟩
end WI
/-! ===== forge ===== -/
/-- the first from c on, of d, that P tells -/
def fu (P : Nat → Bool) : Nat → Nat → Option Nat
  | 0, _ => none
  | d + 1, c => if P c = true then some c else fu P d (c + 1)
theorem fu_end (P : Nat → Bool) : ∀ (d c : Nat), fu P (d + 1) c = match fu P d c with
    | some v => some v
    | none => if P (c + d) = true then some (c + d) else none := by
  intro d
  induction d with
  | zero => intro c; rfl
  | succ d ih =>
    intro c
    rw [show fu P (d + 1 + 1) c = if P c = true then some c else fu P (d + 1) (c + 1) from rfl, show fu P (d + 1) c = if P c = true then some c else fu P d (c + 1) from rfl]
    by_cases q : P c = true
    · simp only [if_pos q]
    · rw [if_neg q, if_neg q, ih (c + 1), show c + 1 + d = c + (d + 1) by omega]
theorem tk_fu (P : Nat → Bool) (e : Nat) : ∀ (n : Nat) (s : Nat × Nat), n ≤ e → (¬ s.1 = 0 → n ≤ s.2) → (fu P n 0 = none → (dnL P n).foldl (tk e) s = s) ∧ ∀ v, fu P n 0 = some v → ¬ ((dnL P n).foldl (tk e) s).1 = 0 ∧ ((dnL P n).foldl (tk e) s).2 = v := by
  intro n
  induction n with
  | zero => intro s _ _; exact ⟨fun _ => rfl, fun v h => (by cases h)⟩
  | succ n ih =>
    intro s hn hs
    have e2 := fu_end P n 0
    rw [Nat.zero_add] at e2
    by_cases q : P n = true
    · have et : tk e s n = (s.1 + 1, n) := by
        unfold tk
        rw [if_neg (by omega)]
        by_cases z : s.1 = 0
        · rw [if_pos z]
        · have := hs z
          rw [if_neg z, Nat.min_eq_right (by omega)]
      have ed : dnL P (n + 1) = n :: dnL P n := by rw [dnL, if_pos q]
      rw [ed, List.foldl_cons, et]
      obtain ⟨i1, i2⟩ := ih (s.1 + 1, n) (by omega) (fun _ => Nat.le_refl _)
      cases hf : fu P n 0 with
      | some v =>
        rw [hf] at e2
        replace e2 : fu P (n + 1) 0 = some v := e2
        rw [e2]
        exact ⟨fun h => (by cases h), fun u hu => (by cases hu; exact i2 v hf)⟩
      | none =>
        rw [hf] at e2
        replace e2 : fu P (n + 1) 0 = some n := e2.trans (if_pos q)
        rw [e2]
        refine ⟨fun h => (by cases h), fun u hu => ?_⟩
        cases hu
        rw [i1 hf]
        exact ⟨by show ¬ s.1 + 1 = 0; omega, rfl⟩
    · have ed : dnL P (n + 1) = dnL P n := by rw [dnL, if_neg q]
      rw [ed]
      obtain ⟨i1, i2⟩ := ih s (by omega) (fun z => by have := hs z; omega)
      cases hf : fu P n 0 with
      | some v =>
        rw [hf] at e2
        replace e2 : fu P (n + 1) 0 = some v := e2
        rw [e2]
        exact ⟨fun h => (by cases h), fun u hu => (by cases hu; exact i2 v hf)⟩
      | none =>
        rw [hf] at e2
        replace e2 : fu P (n + 1) 0 = none := e2.trans (if_neg q)
        rw [e2]
        exact ⟨fun _ => i1 hf, fun u hu => (by cases hu)⟩
abbrev fgOK (f : Nat → Int32) (mark i m head k : Int32) : Prop := (((0 ≤ i.toInt ∧ i.toInt < m.toInt) ∧ 0 ≤ k.toInt) ∧ (0 ≤ mark.toInt ∧ mark.toInt < (f 1).toInt) ∧ 0 ≤ head.toInt ∧ head.toInt < (f 1).toInt) ∧ (f 2).toInt.toNat = (wkW i m).length ∧ k.toInt.toNat < (wkW i m).length
/-- the pad with another mark at k -/
def fgX (f : Nat → Int32) (k v : Nat) : Nat → Int32 := fun j => if j = k then Int32.ofNat v else f (8 + j)
def fgP (f : Nat → Int32) (mark i m head k : Int32) (v : Nat) : Bool := decide (fwd (f 1) (fgX f k.toInt.toNat v) (wkW i m) 0 mark = head)
def fgV : Option Nat → Int32
  | none => -1
  | some v => Int32.ofNat v
def fgA (f : Nat → Int32) (mark i m head k : Int32) : Int32 := if fgOK f mark i m head k then fgV (fu (fgP f mark i m head k) (f 1).toInt.toNat 0) else -1
theorem v_forge_L (n : Nat) (mark iI NI head kI m : Int32) (k : Nat) (hk : kI.toInt = (k : Int)) (xs : Nat → Int32) (G : Int32 → Int32) (hG : ∀ (σ : ms_T) (x : Int32), ms_E σ 40 1 = m → (∀ j, ¬ j = k → ms_E σ 44 j = xs j) → ms_E σ 44 k = x → pr (f_X12_folded n σ mark iI NI) (fun res => res.1 = G x ∧ fr [658] [] σ res.2)) (B : Nat) (hB : m.toInt = (B : Int)) (P : Nat → Bool) (hP : ∀ v, v < B → (P v = true ↔ G (Int32.ofNat v) = head)) : ∀ (d c : Nat) (σ : ms_T) (v6 : Int32), c ≤ B → v6.toInt = (c : Int) → ms_E σ 40 1 = m → (∀ j, ¬ j = k → ms_E σ 44 j = xs j) → pr (f_X12_forge_L80 n d σ mark iI NI head kI v6) (fun res => res.1 = fgV (fu P (B - c) c)) := by
  intro d
  induction d with
  | zero => intro c σ v6 _ _ _ _; rw [f_X12_forge_L80.eq_1]; exact pr_0
  | succ d ih =>
    intro c σ v6 hc h6 h40 h44
    have cl1 : ((1 : Int32)).toNatClampNeg = 1 := by decide
    have hmb := ib_hi m
    rw [f_X12_forge_L80.eq_2, cl1, h40]
    refine pr_g (fun _ _ => pr_le (fun z => ?_) (fun z => pr_g (fun _ _ => pr_ln (fun τ hτ => ?_))))
    · rw [show B - c = 0 by omega]
      exact pr_c (v_refuse n σ 5) (fun r τ hr => pr_s hr)
    · have hcB : c < B := by omega
      have e1 : (v6 + 1).toInt = ((c + 1 : Nat) : Int) := by rw [iw_add, lt1]; omega
      have ev : v6 = Int32.ofNat c := i_ofN h6
      rw [cl_n hk] at hτ
      have g40 : ms_E τ 40 1 = m := by rw [hτ, mE_sE, if_neg (fun z => absurd z.1 (by decide))]; exact h40
      have g44 : ∀ j, ¬ j = k → ms_E τ 44 j = xs j := fun j hj => by rw [hτ, mE_sE, if_neg (fun z => hj z.2)]; exact h44 j hj
      have g4k : ms_E τ 44 k = v6 := by rw [hτ, mE_sE, if_pos ⟨rfl, rfl⟩]
      refine pr_c (hG τ v6 g40 g44 g4k) (fun r υ hr => ?_)
      obtain ⟨r1, r2⟩ := hr
      replace r1 : r = G v6 := r1
      rw [ev] at r1
      rw [show B - c = (B - (c + 1)) + 1 by omega, fu]
      refine pr_i (fun y => pr_s ?_) (fun y => pr_l ?_)
      · rw [if_pos ((hP c hcB).mpr (r1.symm.trans y))]
        exact ev
      · rw [if_neg (fun q => y (r1.trans ((hP c hcB).mp q)))]
        exact ih (c + 1) υ _ (by omega) e1 ((r2.2 40 (by decide) 1).trans g40) (fun j hj => (r2.2 44 (by decide) j).trans (g44 j hj))
theorem v_forge (n : Nat) (σ : ms_T) (hC : rC (ms_E σ 40)) (mark i m head k : Int32) : pr (f_X12_forge n σ mark i m head k) (fun res => res.1 = fgA (ms_E σ 40) mark i m head k) := by
  have h64 := hC.2.2.1
  have hm0 := hC.2.1
  have bad : ¬ fgOK (ms_E σ 40) mark i m head k → pr (f_X12_forge_J37 n σ mark i m head k 1) (fun res => res.1 = fgA (ms_E σ 40) mark i m head k) := fun hno => by
    unfold f_X12_forge_J37 fgA
    rw [if_neg hno]
    exact v_is1 n σ 1 (by decide) (pr_s rfl)
  unfold f_X12_forge f_X12_forge_J36
  refine pr_bo (v_isThing n σ i m) (fun z => bad (fun q => z q.1.1.1)) (fun z1 => pr_lt (fun e => bad (fun q => by rw [lt0] at e; have := q.1.1.2; omega)) (fun e => pr_bo (pr_w (s_isMark hC mark)) (fun z => bad (fun q => z q.1.2.1)) (fun z2 => pr_bo (pr_w (s_isMark hC head)) (fun z => bad (fun q => z q.1.2.2)) (fun z3 => ?_))))
  rw [lt0] at e
  unfold f_X12_forge_J37 f_X12_forge_J71
  refine v_is0 n σ ?_
  obtain ⟨τ0, hτ0⟩ : ∃ τ, τ = ms_sI (ms_sI σ 653 0) 652 0 := ⟨_, rfl⟩
  have e0 : ms_E τ0 40 = ms_E σ 40 := by rw [hτ0]; rfl
  rw [← hτ0]
  refine pr_b (T := fun τ => WS τ (wkW i m) ∧ fr [657] [42, 43] τ0 τ) (fun t ht => ⟨v_inclusion n τ0 i m z1.1 z1.2 t ht, v_incl_fr n τ0 i m t ht⟩) (fun σ1 hs1 => ?_)
  obtain ⟨hWS, g1⟩ := hs1
  have s1 : ms_E σ1 40 = ms_E σ 40 := by rw [show ms_E σ1 40 = ms_E τ0 40 from funext (fun j => g1.2 40 (by decide) j), e0]
  refine pr_c (v_fromPad n σ1 (by rw [s1]; exact hC)) (fun c σ2 hs2 => ?_)
  obtain ⟨p1, p2, p3⟩ := hs2
  replace p1 : c = ms_E σ1 40 2 := p1
  rw [s1] at p1 p2
  have s2 : ms_E σ2 40 = ms_E σ 40 := by rw [show ms_E σ2 40 = ms_E σ1 40 from funext (fun j => p3.2 40 (by decide) j), s1]
  have i7 : (ms_I σ2 657).toInt = ((wkW i m).length : Int) := by rw [p3.1 657 (by decide)]; exact hWS.1
  have no : ∀ υ : ms_T, ¬ fgOK (ms_E σ 40) mark i m head k → pr (ms_c (f_X12_refuse n υ (5 : Int32)) fun r ξ => some (r, ξ)) (fun res => res.1 = fgA (ms_E σ 40) mark i m head k) := fun υ hno => by
    unfold fgA
    rw [if_neg hno]
    exact pr_c (v_refuse n υ 5) (fun r ξ hr => pr_s hr)
  have hWl : (wkW i m).length = (wyT 31 i.toInt.toNat 0 m.toInt.toNat).length := by unfold wkW; rw [List.length_reverse]
  refine pr_e (fun ce => pr_lt (fun d => ?_) (fun d => no σ2 (fun q => by have := q.2.2; omega))) (fun ce => no σ2 (fun q => ce (by rw [p1, i7]; have := q.2.1; omega)))
  have cT : (ms_E σ 40 2).toInt.toNat = (wkW i m).length := by
    have := congrArg Int32.toInt ce
    rw [p1, i7] at this; omega
  have ok : fgOK (ms_E σ 40) mark i m head k := ⟨⟨⟨z1, e⟩, z2, z3⟩, cT, by omega⟩
  unfold fgA
  rw [if_pos ok]
  have hkW : k.toInt.toNat < (wkW i m).length := ok.2.2
  have vl := v_forge_L n mark i m head k (ms_E σ 40 1) k.toInt.toNat (by omega) (ms_E σ2 44) (fun x => fwd (ms_E σ 40 1) (fun j => if j = k.toInt.toNat then x else ms_E σ 40 (8 + j)) (wkW i m) 0 mark) (fun τ x q1 q2 q3 => by
    refine pr_m (v_folded n τ mark i.toInt.toNat m.toInt.toNat i m (by omega) (by omega) (by omega)) (fun res hres => ⟨?_, hres.2⟩)
    rw [hres.1, q1]
    refine fwd_c _ _ _ _ (fun j _ hj => ?_)
    by_cases ej : j = k.toInt.toNat
    · rw [if_pos ej, ej]; exact q3
    · rw [if_neg ej, q2 j ej]
      exact p2 j (by rw [cT]; unfold wkW; omega)) (ms_E σ 40 1).toInt.toNat (by omega) (fgP (ms_E σ 40) mark i m head k) (fun v _ => by
    unfold fgP fgX
    rw [decide_eq_true_iff]) n 0 σ2 0 (Nat.zero_le _) rfl (by rw [s2]) (fun j _ => rfl)
  rw [Nat.sub_zero] at vl
  exact vl
theorem fwd_r {m : Int32} (hm : 2 ≤ m.toInt) (hm2 : m.toInt ≤ 65521) (xs : Nat → Int32) (W : List (Nat × Nat × Bool)) (s : Int32) (hs : 0 ≤ s.toInt ∧ s.toInt ≤ 65521) (hx : ∀ j, j < W.length → 0 ≤ (xs j).toInt ∧ (xs j).toInt ≤ 65521) : ∀ k, k ≤ W.length → 0 ≤ (fwd m xs (W.take k) 0 s).toInt ∧ (fwd m xs (W.take k) 0 s).toInt ≤ 65521 := by
  intro k
  induction k with
  | zero => intro _; rw [List.take_zero, fwd]; exact hs
  | succ k ih =>
    intro hk
    have q := ih (by omega)
    have hkl : k < W.length := by omega
    have hxk := hx k hkl
    rw [fwd_ts m xs W s hkl]
    split
    · have := bt_r m (xs k) (fwd m xs (W.take k) 0 s) (by omega) hm2 hxk.1 (by omega) q.1 (by omega)
      omega
    · have := bt_r m (fwd m xs (W.take k) 0 s) (xs k) (by omega) hm2 q.1 (by omega) hxk.1 (by omega)
      omega
/-- forward from a step on: the mark at k is the one that goes -/
theorem fwd_gK {m : Int32} {M : Nat} (hm : m.toInt = (M : Int)) (hM : 0 < M) (hM2 : M ≤ 65521) (xs : Nat → Int32) (W : List (Nat × Nat × Bool)) (k : Nat) (hk : k < W.length) (s sf : Int32) (SF : Nat) (hsf : sf = fwd m xs (W.take k) 0 s) (hSF : sf.toInt = (SF : Int)) (ss : Nat → Bool) (kn : Nat → Nat) (hs0 : ss 0 = !(wfl W k)) (hk0 : kn 0 = SF) (hss : ∀ j, 0 < j → k + j < W.length → ss j = wfl W (k + j)) (hkn : ∀ j, 0 < j → k + j < W.length → (xs (k + j)).toInt = (kn j : Int)) (x : Int32) (X : Nat) (hx : x.toInt = (X : Int)) : ∀ j, k + (j + 1) ≤ W.length → (fwd m (fun q => if q = k then x else xs q) (W.take (k + (j + 1))) 0 s).toInt = ((gF M ss kn (j + 1) X : Nat) : Int) := by
  intro j
  induction j with
  | zero =>
    intro _
    have e : fwd m (fun q => if q = k then x else xs q) (W.take k) 0 s = sf := by
      rw [hsf]
      exact fwd_c m (W.take k) 0 s (fun q _ hq => by rw [List.length_take] at hq; rw [if_neg (by omega)])
    rw [show k + (0 + 1) = k + 1 from rfl, fwd_ts m _ W s hk, e, if_pos rfl, gF, gF, hs0, wfl_g W hk, hk0]
    by_cases c : W[k].2.2 = true
    · rw [if_pos c, c]
      exact bt_N hm hM hM2 hx hSF
    · have c2 : W[k].2.2 = false := by
        cases y : W[k].2.2 with
        | false => rfl
        | true => exact absurd y c
      rw [if_neg c, c2]
      exact bt_N hm hM hM2 hSF hx
  | succ j ih =>
    intro hj
    have q := ih (by omega)
    have hjl : k + (j + 1) < W.length := by omega
    rw [show k + (j + 1 + 1) = k + (j + 1) + 1 by omega, fwd_ts m _ W s hjl, if_neg (show ¬ k + (j + 1) = k by omega), gF, hss (j + 1) (by omega) hjl, wfl_g W hjl]
    have hkj := hkn (j + 1) (by omega) hjl
    by_cases c : W[k + (j + 1)].2.2 = true
    · rw [if_pos c, if_pos c]
      exact bt_N hm hM hM2 hkj q
    · rw [if_neg c, if_neg c]
      exact bt_N hm hM hM2 q hkj
/-! ===== forge: the class ===== -/
section GK
variable {r way row M : Nat} {m : Int32} {W : List (Nat × Nat × Bool)} {XL : List Int32}
theorem k_seekStep (n : Nat) (hn : 70000 ≤ n) {γ : hp_T} (hm : m.toInt = (M : Int)) (hM : 101 ≤ M) (hM2 : M ≤ 65521) (hWC : WC γ way W) (hW60 : W.length ≤ 60) (hRW : RWL γ row XL) (hXL : W.length ≤ XL.length) (hXr : ∀ j, j < W.length → 0 ≤ (XL.getD j 0).toInt ∧ (XL.getD j 0).toInt ≤ 65521) (h252 : hp_I γ 252 r = m) (hT : TB γ r M) (sf tI kI : Int32) (k : Nat) (hk : kI.toInt = (k : Int)) (hkW : k < W.length) (SF T : Nat) (hSF : sf.toInt = (SF : Int)) (hSF2 : SF ≤ 65521) (ht : tI.toInt = (T : Int)) (hTM : T < M) : ws (f_X4_seekStep n γ r way row sf tI kI) (fun β => STN β r ((gbL M (fun j => wfl W (k + j) != decide (kI.toInt = ((k + j : Nat) : Int))) (fun j => if j = 0 then SF else (XL.getD (k + j) 0).toInt.toNat) (W.length - k) T).foldl (tk M) (0, 0)) ∧ TB β r M ∧ hp_I β 252 r = m ∧ hp_N β = hp_N γ ∧ sef γ β) := by
  unfold f_X4_seekStep f_X4_seek
  refine ws_l (ws_l (ws_l (ws_l (ws_l (ws_ln (fun β5 h5 => ?_))))))
  refine ws_b (ws_l (ws_ln (fun β7 h7 => ws_l ?_))) (fun β hβ => ws_s hβ)
  have eR : hp_R β7 253 r = way ∧ hp_R β7 254 r = row := by
    rw [h7, h5]
    constructor
    · rw [hR_sI, hR_sI, hR_sI, hR_sI, hR_sI, hR_sI, hR_sR, if_neg (fun z => absurd z.1 (by decide)), hR_sR, if_pos ⟨rfl, rfl⟩]
    · rw [hR_sI, hR_sI, hR_sI, hR_sI, hR_sI, hR_sI, hR_sR, if_pos ⟨rfl, rfl⟩]
  have eRo : ∀ φ b, φ ≠ 253 → φ ≠ 254 → hp_R β7 φ b = hp_R γ φ b := fun φ b p q => by
    rw [h7, h5, hR_sI, hR_sI, hR_sI, hR_sI, hR_sI, hR_sI, hR_sR, if_neg (fun z => q z.1), hR_sR, if_neg (fun z => p z.1)]
  have eI : ∀ φ b, (φ < 255 ∨ 260 < φ) → hp_I β7 φ b = hp_I γ φ b := fun φ b p => by
    rw [h7, h5, hI_sI, if_neg (fun z => by omega), hI_sI, if_neg (fun z => by omega), hI_sI, if_neg (fun z => by omega), hI_sI, if_neg (fun z => by omega), hI_sI, if_neg (fun z => by omega), hI_sI, if_neg (fun z => by omega), hI_sR, hI_sR]
  have eE : hp_E β7 = hp_E γ := by rw [h7, h5]; rfl
  have eN : hp_N β7 = hp_N γ := by rw [h7, h5]; rfl
  have eK : hp_K β7 = hp_K γ := by rw [h7, h5]; rfl
  have i255 : hp_I β7 255 r = kI := by rw [h7, h5, hI_sI, if_neg (fun z => absurd z.1 (by decide)), hI_sI, if_neg (fun z => absurd z.1 (by decide)), hI_sI, if_neg (fun z => absurd z.1 (by decide)), hI_sI, if_neg (fun z => absurd z.1 (by decide)), hI_sI, if_neg (fun z => absurd z.1 (by decide)), hI_sI, if_pos ⟨rfl, rfl⟩]
  have i256 : hp_I β7 256 r = kI := by rw [h7, h5, hI_sI, if_neg (fun z => absurd z.1 (by decide)), hI_sI, if_neg (fun z => absurd z.1 (by decide)), hI_sI, if_neg (fun z => absurd z.1 (by decide)), hI_sI, if_neg (fun z => absurd z.1 (by decide)), hI_sI, if_pos ⟨rfl, rfl⟩]
  have i257 : hp_I β7 257 r = sf := by rw [h7, h5, hI_sI, if_neg (fun z => absurd z.1 (by decide)), hI_sI, if_neg (fun z => absurd z.1 (by decide)), hI_sI, if_neg (fun z => absurd z.1 (by decide)), hI_sI, if_pos ⟨rfl, rfl⟩]
  have i258 : hp_I β7 258 r = -1 := by rw [h7, h5, hI_sI, if_neg (fun z => absurd z.1 (by decide)), hI_sI, if_neg (fun z => absurd z.1 (by decide)), hI_sI, if_pos ⟨rfl, rfl⟩]
  have i259 : hp_I β7 259 r = 0 := by rw [h7, hI_sI, if_neg (fun z => absurd z.1 (by decide)), hI_sI, if_pos ⟨rfl, rfl⟩]
  have i260 : hp_I β7 260 r = 0 := by rw [h7, hI_sI, if_pos ⟨rfl, rfl⟩]
  have i252 : hp_I β7 252 r = m := (eI 252 r (by omega)).trans h252
  have hWC7 : WC β7 way W := ⟨by rw [eI 453 way (by omega)]; exact hWC.1, fun k q hq => by rw [eRo 450 way (by decide) (by decide), eRo 451 way (by decide) (by decide), eRo 452 way (by decide) (by decide), eE]; exact hWC.2 k q hq⟩
  have hRW7 : RWL β7 row XL := ⟨hRW.1, by rw [eI 301 row (by omega)]; exact hRW.2.1, fun k hk => by rw [eRo 300 row (by decide) (by decide), eE]; exact hRW.2.2 k hk⟩
  have hT7 : TB β7 r M := by
    unfold TB at hT ⊢
    rw [eRo 250 r (by decide) (by decide), eRo 251 r (by decide) (by decide), eE]
    exact hT
  rw [i252]
  refine ws_le (fun c => by rw [lt0] at c; omega) (fun _ => ws_l (ws_l ?_))
  rw [eR.1]
  have h453 := hWC7.1
  have tm1 : (-1 : Int32).toInt = -1 := by decide
  have hlen := gb_len (M := M) (by omega) (fun j => wfl W (k + j) != decide (kI.toInt = ((k + j : Nat) : Int))) (fun j => if j = 0 then SF else (XL.getD (k + j) 0).toInt.toNat) (W.length - k) hTM
  refine ws_b (k_goBack (lo := k) (e := M) (W := W) (XL := XL) (ss := fun j => wfl W (k + j) != decide (kI.toInt = ((k + j : Nat) : Int))) (kn := fun j => if j = 0 then SF else (XL.getD (k + j) 0).toInt.toNat) n hn hm (by omega) hM2 (lastI := kI) (openI := kI) (kw := sf) (ex := -1) hk (by omega) hXL (fun a A ha hA => ⟨fun q => by rw [q, tm1] at ha; omega, fun q => by omega⟩) (fun j hj => rfl) (fun j hj q => ?_) (fun j hj q => ?_) (fun j hj => ?_) 64 (W.length - k) β7 _ tI T (0, 0) (by omega) (by omega) (by rw [iw_sub, lt1]; omega) ht hTM ⟨i252, i255, i256, i257, i258, eR.1, eR.2, hWC7, hRW7, hT7⟩ ⟨by rw [i259]; rfl, by rw [i260]; rfl⟩ (by omega)) (fun β hβ => ws_s ?_)
  · have j0 : j = 0 := by omega
    show sf.toInt = ((if j = 0 then SF else (XL.getD (k + j) 0).toInt.toNat : Nat) : Int)
    rw [if_pos j0]; exact hSF
  · have j0 : ¬ j = 0 := fun z => q (by rw [z, hk, Nat.add_zero])
    have := hXr (k + j) hj
    show _ = ((if j = 0 then SF else (XL.getD (k + j) 0).toInt.toNat : Nat) : Int)
    rw [if_neg j0]; omega
  · have := hXr (k + j) hj
    show (if j = 0 then SF else (XL.getD (k + j) 0).toInt.toNat) ≤ 65521
    split
    · exact hSF2
    · omega
  obtain ⟨⟨f1, f2, f3, f4⟩, hS⟩ := hβ
  refine ⟨hS, ?_, by rw [f4 252 r (by omega)]; exact i252, f2.2.trans eN, ⟨fun φ b p q => by rw [f1]; exact eRo φ b p q, f2.1.trans eK, f2.2.trans eN, f3.trans eE, fun φ b p => by rw [f4 φ b (by omega)]; exact eI φ b p⟩⟩
  unfold TB at hT7 ⊢
  rw [f1, f3]; exact hT7
end GK
theorem k_forgePV (n : Nat) (hn : 70000 ≤ n) (α : hp_T) (x : Nat) (f : Nat → Int32) (hC : rC f) (h : RWX α x f) (h6 : hp_R α 603 x = x + 919) (hP : RWL α (x + 919) (pdl f)) (mark i m head k : Int32) : ws (f_X11_forge_P n α x mark i m head k) (fun res => (weD x α res.2.2 ∧ pkp x α res.2.2) ∧ (res.1 = none → ¬ fgOK f mark i m head k ∧ res.2.1 = -1) ∧ ∀ lg, res.1 = some lg → fgOK f mark i m head k ∧ WC res.2.2 (hp_R α 612 x) (wkW i m) ∧ RWL res.2.2 (x + 919) (pdl f)) := by
  obtain ⟨w, u, h1, h2, -, h4, -⟩ := h
  have bad : ∀ (β : hp_T) (v : Int32), (weD x α β ∧ pkp x α β) → ¬ fgOK f mark i m head k → ws (hq_c (f_X11_refuse n β x v) fun r γ => some ((none : Option Nat), r, γ)) (fun res => (weD x α res.2.2 ∧ pkp x α res.2.2) ∧ (res.1 = none → ¬ fgOK f mark i m head k ∧ res.2.1 = -1) ∧ ∀ lg, res.1 = some lg → fgOK f mark i m head k ∧ WC res.2.2 (hp_R α 612 x) (wkW i m) ∧ RWL res.2.2 (x + 919) (pdl f)) := fun β v hd hno =>
    ws_hc (k_refuse n β x v) (fun z γ hz => ws_s ⟨by rw [show γ = hp_sI β 600 x v from hz.2]; exact ⟨weD_tr hd.1 weD_st, pkp_tr hd.2 pkp_st⟩, fun _ => ⟨hno, hz.1⟩, fun lg q => (by cases q)⟩)
  unfold f_X11_forge_P f_X11_forge_P_J30 f_X11_forge_P_J74
  refine ws_bo (k_isThing n i m) (fun z => bad α 1 ⟨weD_rf, pkp_rf⟩ (fun q => z q.1.1.1)) (fun z1 => ws_lt (fun e => bad α 1 ⟨weD_rf, pkp_rf⟩ (fun q => by rw [lt0] at e; have := q.1.1.2; omega)) (fun e => ws_bo (k_isMark n h1 h4.2.1.1 mark) (fun z => bad α 1 ⟨weD_rf, pkp_rf⟩ (fun q => z q.1.2.1)) (fun z2 => ws_bo (k_isMark n h1 h4.2.1.1 head) (fun z => bad α 1 ⟨weD_rf, pkp_rf⟩ (fun q => z q.1.2.2)) (fun z3 => ws_l ?_))))
  rw [lt0] at e
  refine ws_b (k_toThing n hn α _ i m z1.1 z1.2) (fun β hβ => ws_l (ws_l (ws_l (ws_l ?_))))
  obtain ⟨hWC, hwf⟩ := hβ
  have hP2 := RWL_wf hP hwf
  rw [hwf.1, h6]
  have e301 := hP2.2.1
  have e453 := hWC.1
  rw [pdl_len] at e301
  have hWl : (wkW i m).length = (wyT 31 i.toInt.toNat 0 m.toInt.toNat).reverse.length := rfl
  refine ws_e (fun c => ws_l (ws_l (ws_lt (fun d => ?_) (fun d => bad β 5 ⟨weD_wf hwf, pkp_wf hwf⟩ (fun q => by have q1 := q.2.1; have q2 := q.2.2; omega))))) (fun c => bad β 5 ⟨weD_wf hwf, pkp_wf hwf⟩ (fun q => c (by rw [e301, e453]; have := q.2.1; omega)))
  have cI := congrArg Int32.toInt c
  rw [e301, e453] at cI
  exact ws_s ⟨⟨weD_wf hwf, pkp_wf hwf⟩, fun q => (by cases q), fun lg _ => ⟨⟨⟨⟨z1, e⟩, z2, z3⟩, by omega, by omega⟩, hWC, hP2⟩⟩
section FK
variable {α δ γ : hp_T} {x b1 M : Nat} {f : Nat → Int32}
theorem k_forgeTV (n : Nat) (hn : 70000 ≤ n) (g : GC α) (kx : hp_K α x = 12) (hC : rC f) (hPM : ∀ v ∈ pdl f, 0 ≤ v.toInt ∧ v.toInt ≤ 65521) (h : RWX α x f) (h6 : hp_R α 603 x = x + 919) (hm : (f 1).toInt = (M : Int)) (mark i m head kI : Int32) (ok : fgOK f mark i m head kI) (d : weD x α δ) (hWC : WC δ (hp_R α 612 x) (wkW i m)) (hL : RWL δ (x + 919) (pdl f)) (c : cg w_X4_prepare δ γ) (hN : hp_N γ 618 x = some b1) (hT : TB γ b1 M) (h252 : hp_I γ 252 b1 = f 1) : ∃ t : Int32 × hp_T, f_X11_forge_T n γ x mark head kI b1 = some t ∧ (t.1 = fgA f mark i m head kI ∧ TBX t.2 x ∧ pkp x γ t.2) := by
  obtain ⟨w, u, h1, h2, -, h4, -⟩ := h
  have hm0 := hC.2.1
  obtain ⟨⟨⟨z1, ze⟩, z2, z3⟩, zl, zk⟩ := id ok
  obtain ⟨k, hk⟩ : ∃ k, k = kI.toInt.toNat := ⟨_, rfl⟩
  have hkI : kI.toInt = (k : Int) := by omega
  rw [← hk] at zk
  have hXl : (pdl f).length = (wkW i m).length := by rw [pdl_len]; exact zl
  have kw : hp_K α w = 11 := gkR g kx h1 rfl (by decide) (by decide)
  have kwy : hp_K α (hp_R α 612 x) = 9 := gkR g kx rfl rfl (by decide) (by decide)
  have krow : hp_K α (x + 919) = 6 := gkR g kx h6 rfl (by decide) (by decide)
  obtain ⟨x1, x2, -⟩ := kg_cg g d c kx (by decide)
  obtain ⟨w1, w2, -⟩ := kg_cg g d c kw (by decide)
  have hWCγ := WC_kg g d c kwy hWC
  have hLγ := RWL_kg g d c krow hL
  have h550 : hp_I γ 550 w = f 1 := by rw [w2 550 (by decide), d.2.2.2.1 550 w (by decide) (by decide) (by decide) (by decide)]; exact h4.2.1.1
  have hW31 : (wkW i m).length ≤ 31 := by unfold wkW; rw [List.length_reverse]; exact wyT_len _ _ _ _
  have hXr : ∀ j, j < (wkW i m).length → 0 ≤ ((pdl f).getD j 0).toInt ∧ ((pdl f).getD j 0).toInt ≤ 65521 := fun j hj => by
    have hj2 : j < (pdl f).length := by omega
    rw [List.getD_eq_getElem?_getD, List.getElem?_eq_getElem hj2]
    exact hPM _ (List.getElem_mem hj2)
  have hXe : ∀ j, j < (wkW i m).length → (pdl f).getD j 0 = f (8 + j) := fun j hj => pdl_gD f (by omega)
  unfold f_X11_forge_T
  refine ws_l (ws_l (ws_l (ws_l (ws_l (ws_l ?_)))))
  rw [x1 612, x1 603, x1 601, h6, h1, h550]
  refine ws_b (k_folded n hn γ _ (x + 919) (wkW i m) hWCγ (by omega) (pdl f) hLγ (f 1) (by omega) k kI hkI (by omega) (by omega) mark) (fun sf hsf => ?_)
  have hsr := fwd_r (m := f 1) (by omega) (by omega) (fun j => (pdl f).getD j 0) (wkW i m) mark ⟨z2.1, by omega⟩ hXr k (by omega)
  rw [← hsf] at hsr
  have hsf2 : sf = fwd (f 1) (fun j => f (8 + j)) ((wkW i m).take k) 0 mark := by
    rw [hsf]
    exact fwd_c (f 1) ((wkW i m).take k) 0 mark (fun j _ hj => by rw [List.length_take] at hj; exact hXe j (by omega))
  refine ws_b (k_seekStep (M := M) (m := f 1) n hn hm (by omega) (by omega) hWCγ (by omega) hLγ (by omega) hXr h252 hT sf head kI k hkI zk sf.toInt.toNat head.toInt.toNat (by omega) (by omega) (by omega) (by omega)) (fun β hβ => ws_l ?_)
  obtain ⟨hS, hTβ, hIβ, hNβ, e1, -, -, e4, e5⟩ := hβ
  have pk : pkp x γ β := ⟨e5 301 _ (by omega), e1 300 _ (by decide) (by decide), fun j => by rw [e4]⟩
  have hNb : hp_N β 618 x = some b1 := by rw [hNβ]; exact hN
  have eM : (f 1).toInt.toNat = M := by omega
  have fold := gb_fold (M := M) (by omega) (fun j => wfl (wkW i m) (k + j) != decide (kI.toInt = ((k + j : Nat) : Int))) (fun j => if j = 0 then sf.toInt.toNat else ((pdl f).getD (k + j) 0).toInt.toNat) ((wkW i m).length - k) M head.toInt.toNat (by omega) (fgP f mark i m head kI) (fun v hv => by
    obtain ⟨J, hJ⟩ : ∃ J, (wkW i m).length - k = J + 1 := ⟨(wkW i m).length - k - 1, by omega⟩
    have q := fwd_gK (M := M) hm (by omega) (by omega) (fun j => f (8 + j)) (wkW i m) k zk mark sf sf.toInt.toNat hsf2 (by omega) (fun j => wfl (wkW i m) (k + j) != decide (kI.toInt = ((k + j : Nat) : Int))) (fun j => if j = 0 then sf.toInt.toNat else ((pdl f).getD (k + j) 0).toInt.toNat) (by
        show (wfl (wkW i m) (k + 0) != decide (kI.toInt = ((k + 0 : Nat) : Int))) = _
        rw [Nat.add_zero, decide_eq_true hkI]
        cases wfl (wkW i m) k <;> rfl) rfl (fun j j0 _ => by
        show (wfl (wkW i m) (k + j) != decide (kI.toInt = ((k + j : Nat) : Int))) = _
        rw [decide_eq_false (by omega)]
        cases wfl (wkW i m) (k + j) <;> rfl) (fun j j0 hj => by
        have := hXr (k + j) hj
        show (f (8 + (k + j))).toInt = ((if j = 0 then sf.toInt.toNat else ((pdl f).getD (k + j) 0).toInt.toNat : Nat) : Int)
        rw [if_neg (by omega), ← hXe (k + j) hj]; omega) (Int32.ofNat v) v (by rw [Int32.toInt_ofNat_of_lt (by omega)]) J (by omega)
    rw [show k + (J + 1) = (wkW i m).length by omega, List.take_length] at q
    rw [hJ]
    unfold fgP fgX
    rw [decide_eq_true_iff, ← hk]
    constructor
    · intro z
      rw [z] at q; omega
    · intro z
      exact Int32.toInt_inj.mp (by rw [q, z]; omega)) (0, 0)
  rw [fold] at hS
  obtain ⟨s1, s2⟩ := hS
  obtain ⟨t1, t2⟩ := tk_fu (fgP f mark i m head kI) M M (0, 0) (Nat.le_refl _) (fun z => absurd rfl z)
  unfold fgA
  rw [if_pos ok, eM]
  cases hf : fu (fgP f mark i m head kI) M 0 with
  | none =>
    rw [t1 hf] at s1
    refine ws_i (fun z0 => ws_hc (k_refuse n β x 5) (fun z ε hz => ws_s ⟨hz.1, ?_⟩)) (fun z0 => absurd (Int32.toInt_inj.mp (by rw [s1]; rfl)) z0)
    rw [show ε = hp_sI β 600 x 5 from hz.2]; exact ⟨TBX_1 hm hNb hIβ (TB_st hTβ), pkp_tr pk pkp_st⟩
  | some v =>
    obtain ⟨u1, u2⟩ := t2 v hf
    rw [u2] at s2
    refine ws_i (fun z0 => absurd (by rw [z0, lt0] at s1; omega) u1) (fun z0 => ws_l (ws_hc (k_answer n β x _) (fun z ε hz => ws_s ⟨?_, ?_⟩)))
    · show z = Int32.ofNat v
      rw [show z = hp_I β 260 b1 from hz.1]; exact i_ofN s2
    · rw [show ε = hp_sI β 600 x 0 from hz.2]; exact ⟨TBX_1 hm hNb hIβ (TB_st hTβ), pkp_tr pk pkp_st⟩
end FK
/-! ===== forge for the law ===== -/
section FI
variable {x : Nat} {f : Nat → Int32}
theorem fgV0 (α : hp_T) (hTB : TBX α x) (mark i m head k : Int32) {res : Option Nat × Int32 × hp_T} (hd : weD x α res.2.2 ∧ pkp x α res.2.2) (h1 : res.1 = none → ¬ fgOK f mark i m head k ∧ res.2.1 = -1) : res.1 = none → (res.2.1 = fgA f mark i m head k ∧ TBX res.2.2 x ∧ pkp x α res.2.2) := fun e => by
  obtain ⟨no, q⟩ := h1 e
  refine ⟨?_, TBX_weD hTB hd.1, hd.2⟩
  unfold fgA
  rw [if_neg no]; exact q
theorem w_forge_SV (Γ : hp_G) (l : Launch) (α : hp_T) (g : GC α) (kx : hp_K α x = 12) (b0 : Nat) (hN : hp_N α 618 x = some b0) (hC : rC f) (hPM : ∀ v ∈ pdl f, 0 ≤ v.toInt ∧ v.toInt ≤ 65521) (hRW : RWX α x f) (h6 : hp_R α 603 x = x + 919) (h3 : hp_R α 300 (x + 919) = x + 920) (hP : RWL α (x + 919) (pdl f)) (hTB : TBX α x) (mark i m head k : Int32) : Met l yX11_forge (hp_ws yX11_forge cX11_forge 7 (some .int)) (hp_rm 72 0 0) (hp_Pc Γ α [.ref x, .int mark, .int i, .int m, .int head, .int k]) (hp_Qi Γ (fun r β => cw w_X11_forge_S α β ∧ (r = fgA f mark i m head k ∧ TBX β x ∧ pkp x α β))) 0 0 (hp_A Γ) := by
  have hm0 := hC.2.1
  have hm : (f 1).toInt = ((f 1).toInt.toNat : Int) := by omega
  obtain ⟨res, hq, hd, h1, h2⟩ := k_forgePV 70000 (by decide) α x f hC hRW h6 hP mark i m head k
  refine n_X11_forge_S 70000 Γ l α g x kx mark i m head k b0 hN (f 1) (f 1).toInt.toNat hm (by omega) (by omega) (fun r β => r = fgA f mark i m head k ∧ TBX β x ∧ pkp x α β) res hq (fgV0 α hTB mark i m head k hd h1) (mm_weD hRW hd.1) (tb_weD hTB hN hm (by omega) (by omega) hd.1) (fun {lg} e γ b1 p tb ib => ?_)
  obtain ⟨ok, c4, c5⟩ := h2 lg e
  obtain ⟨t, t1, t2, t3, t4⟩ := k_forgeTV 70000 (by decide) g kx hC hPM hRW h6 hm mark i m head k ok hd.1 c4 c5 p.1 p.2.2 tb ib
  exact ⟨t, t1, t2, t3, pkp_tr hd.2 (pkp_tr (pkp_kg g kx hd.1 h6 h3 p.1) t4)⟩
theorem w_forge_NV (Γ : hp_G) (l : Launch) (α : hp_T) (g : GC α) (Hs : Heap) (kx : hp_K α x = 12) (hN : hp_N α 618 x = none) (hC : rC f) (hPM : ∀ v ∈ pdl f, 0 ≤ v.toInt ∧ v.toInt ≤ 65521) (hRW : RWX α x f) (h6 : hp_R α 603 x = x + 919) (h3 : hp_R α 300 (x + 919) = x + 920) (hP : RWL α (x + 919) (pdl f)) (hTB : TBX α x) (mark i m head k : Int32) : Met l yX11_forge (hp_ws yX11_forge cX11_forge 7 (some .int)) (hp_rm 72 9 131316) (hp_PcH Γ α Hs [.ref x, .int mark, .int i, .int m, .int head, .int k]) (va_Qi (fun r β => cg w_X11_forge_S α β ∧ (r = fgA f mark i m head k ∧ TBX β x ∧ pkp x α β)) (hp_Bz Γ Hs x) (hp_A Γ)) 9 131316 (hp_A Γ) := by
  have hm0 := hC.2.1
  have hm : (f 1).toInt = ((f 1).toInt.toNat : Int) := by omega
  obtain ⟨res, hq, hd, h1, h2⟩ := k_forgePV 70000 (by decide) α x f hC hRW h6 hP mark i m head k
  refine n_X11_forge_N 70000 Γ l α g Hs x kx mark i m head k hN (f 1) (f 1).toInt.toNat hm (by omega) (by omega) (fun r β => r = fgA f mark i m head k ∧ TBX β x ∧ pkp x α β) res hq (fgV0 α hTB mark i m head k hd h1) (mm_weD hRW hd.1) (fun {lg} e γ b1 p tb ib => ?_)
  obtain ⟨ok, c4, c5⟩ := h2 lg e
  obtain ⟨t, t1, t2, t3, t4⟩ := k_forgeTV 70000 (by decide) g kx hC hPM hRW h6 hm mark i m head k ok hd.1 c4 c5 p.1 p.2.2 tb ib
  exact ⟨t, t1, t2, t3, pkp_tr hd.2 (pkp_tr (pkp_kg g kx hd.1 h6 h3 p.1) t4)⟩
end FI
/-! ===== beside LX: where the reader's rows and those of what was heard lie; the fault ===== -/
theorem in_X3_300 (α : hp_T) (h a : Nat) (ha : a < h) : hp_R (F_X3_init α h a) 300 (h + 2) = h + 3 := by
  rw [(tl_X3_5 α h a (h + 2) (by omega) (by omega)).2.2.2.1 300]
  exact (fd_X5_300 (F_X3_init_4 α h a) (h + (3)) (h + (2)) (by omega)).trans (by omega)
theorem in_X3_450 (α : hp_T) (h a : Nat) (ha : a < h) : hp_R (F_X3_init α h a) 450 (h + 4) = h + 5 ∧ hp_R (F_X3_init α h a) 451 (h + 4) = h + 6 ∧ hp_R (F_X3_init α h a) 452 (h + 4) = h + 7 := by
  have q := tl_X3_8 α h a (h + 4) (by omega) (by omega)
  refine ⟨?_, ?_, ?_⟩
  · rw [q.2.2.2.1 450]
    exact (fd_X8_450 (F_X3_init_7 α h a) (h + (5)) (h + (4)) (by omega)).trans (by omega)
  · rw [q.2.2.2.1 451]
    exact (fd_X8_451 (F_X3_init_7 α h a) (h + (5)) (h + (4)) (by omega)).trans (by omega)
  · rw [q.2.2.2.1 452]
    exact (fd_X8_452 (F_X3_init_7 α h a) (h + (5)) (h + (4)) (by omega)).trans (by omega)
theorem XHR_0 (α : hp_T) (x : Nat) (hX : XSH (F_X11_init α (x + 1) x) x) : XHR (F_X11_init α (x + 1) x) x := by
  have ha : x < x + 1 := by omega
  have q : ∀ b, x + 944 ≤ b → b < x + 955 → ∀ φ, hp_R (F_X11_init α (x + 1) x) φ b = hp_R (F_X3_init (F_X11_init_41 α (x + 1) x) (x + 1 + 944) (x + 1 + 943)) φ b := fun b h1 h2 φ => (tl_X11_42 α (x + 1) x b (by omega) (by omega)).2.2.2.1 φ
  have w := in_X3_450 (F_X11_init_41 α (x + 1) x) (x + 1 + 944) (x + 1 + 943) (by omega)
  refine ⟨⟨hX.2.2.2.2.2, ?_, ?_, ?_, ?_, ?_, ?_⟩, Or.inl ⟨?_, ?_⟩, ?_, ?_⟩
  · rw [q _ (by omega) (by omega), show x + 944 = x + 1 + 943 by omega]
    exact (fd_X3_201 _ _ _ (by omega)).trans (by omega)
  · rw [q _ (by omega) (by omega), show x + 944 + 3 = x + 1 + 944 + 2 by omega]
    exact (in_X3_300 _ _ _ (by omega)).trans (by omega)
  · rw [q _ (by omega) (by omega), show x + 944 = x + 1 + 943 by omega]
    exact (fd_X3_202 _ _ _ (by omega)).trans (by omega)
  · rw [q _ (by omega) (by omega), show x + 944 + 5 = x + 1 + 944 + 4 by omega]
    exact w.1.trans (by omega)
  · rw [q _ (by omega) (by omega), show x + 944 + 5 = x + 1 + 944 + 4 by omega]
    exact w.2.1.trans (by omega)
  · rw [q _ (by omega) (by omega), show x + 944 + 5 = x + 1 + 944 + 4 by omega]
    exact w.2.2.trans (by omega)
  · rw [fd_X11_608 α (x + 1) x ha]
  · rw [fd_X11_609 α (x + 1) x ha]
  · have r := tl_X11_21 α (x + 1) x (x + 926) (by omega) (by omega)
    have f : hp_R (F_X5_init (F_X11_init_20 α (x + 1) x) (x + 1 + 926) (x + 1 + 925)) 300 (x + 1 + 925) = _ := fd_X5_300 _ _ _ (by omega)
    rw [r.2.2.2.1 300, show x + 926 = x + 1 + 925 by omega]
    exact f.trans (by omega)
  · have r := tl_X11_24 α (x + 1) x (x + 928) (by omega) (by omega)
    have f : hp_R (F_X5_init (F_X11_init_23 α (x + 1) x) (x + 1 + 928) (x + 1 + 927)) 300 (x + 1 + 927) = _ := fd_X5_300 _ _ _ (by omega)
    rw [r.2.2.2.1 300, show x + 928 = x + 1 + 927 by omega]
    exact f.trans (by omega)
theorem FLX_0 (α : hp_T) (x : Nat) (σ : ms_T) (hσ : ms_i0 σ) : FLX (F_X11_init α (x + 1) x) x σ := by
  obtain ⟨s1, -⟩ := hσ
  have q := tl_X11_42 α (x + 1) x (x + 944) (by omega) (by omega)
  have f4 : hp_I (F_X3_init (F_X11_init_41 α (x + 1) x) (x + 1 + 944) (x + 1 + 943)) 204 (x + 1 + 943) = _ := fd_X3_204 _ _ _ (by omega)
  have f5 : hp_I (F_X3_init (F_X11_init_41 α (x + 1) x) (x + 1 + 944) (x + 1 + 943)) 205 (x + 1 + 943) = _ := fd_X3_205 _ _ _ (by omega)
  refine ⟨?_, ?_⟩
  · rw [q.2.1 204, s1 668, if_pos (by decide), show x + 944 = x + 1 + 943 by omega]
    exact f4
  · rw [q.2.1 205, s1 669, if_pos (by decide), show x + 944 = x + 1 + 943 by omega]
    exact f5
def CZ (α : hp_T) (x : Nat) (σ : ms_T) : Prop := XHR α x ∧ (flP → FLX α x σ)
theorem CZ_0 (α : hp_T) (x : Nat) (σ : ms_T) (hσ : ms_i0 σ) (hX : XSH (F_X11_init α (x + 1) x) x) : CZ (F_X11_init α (x + 1) x) x σ := ⟨XHR_0 α x hX, fun _ => FLX_0 α x σ hσ⟩
def okC (φ : Nat) : Bool := [200, 201, 202, 207, 300, 450, 451, 452, 500, 608, 609].contains φ
/-- the addresses of it -/
def inC (x b : Nat) : Prop := b = x ∨ b = x + 926 ∨ b = x + 928 ∨ b = x + 944 ∨ b = x + 947 ∨ b = x + 949 ∨ b = x + 953
theorem XHR_f {α β : hp_T} {x : Nat} (h : XHR α x) (eR : ∀ φ b, inC x b → okC φ = true → hp_R β φ b = hp_R α φ b) : XHR β x := by
  obtain ⟨⟨⟨r1, r2, r3⟩, r4, r5, r6, r7, r8, r9⟩, h2, h3, h4⟩ := h
  refine ⟨⟨⟨?_, ?_, ?_⟩, ?_, ?_, ?_, ?_, ?_, ?_⟩, ?_, ?_, ?_⟩
  · rw [eR 200 _ (by unfold inC; omega) rfl]; exact r1
  · rw [eR 207 _ (by unfold inC; omega) rfl]; exact r2
  · rw [eR 500 _ (by unfold inC; omega) rfl]; exact r3
  · rw [eR 201 _ (by unfold inC; omega) rfl]; exact r4
  · rw [eR 300 _ (by unfold inC; omega) rfl]; exact r5
  · rw [eR 202 _ (by unfold inC; omega) rfl]; exact r6
  · rw [eR 450 _ (by unfold inC; omega) rfl]; exact r7
  · rw [eR 451 _ (by unfold inC; omega) rfl]; exact r8
  · rw [eR 452 _ (by unfold inC; omega) rfl]; exact r9
  · rw [eR 608 _ (by unfold inC; omega) rfl, eR 609 _ (by unfold inC; omega) rfl]; exact h2
  · rw [eR 300 _ (by unfold inC; omega) rfl]; exact h3
  · rw [eR 300 _ (by unfold inC; omega) rfl]; exact h4
def wcz (w : cw_W) : Bool := w.1.all (fun φ => !(φ == 204) && !(φ == 205)) && w.2.1.all (fun φ => !(okC φ))
theorem wcz_I {w : cw_W} (h : wcz w = true) {φ : Nat} (hφ : φ = 204 ∨ φ = 205) : φ ∉ w.1 := fun q => by
  simp only [wcz, Bool.and_eq_true, List.all_eq_true] at h
  have := h.1 φ q
  rcases hφ with e | e <;> rw [e] at this <;> simp at this
theorem wcz_R {w : cw_W} (h : wcz w = true) {φ : Nat} (hφ : okC φ = true) : φ ∉ w.2.1 := fun q => by
  simp only [wcz, Bool.and_eq_true, List.all_eq_true] at h
  have := h.2 φ q
  rw [hφ] at this; simp at this
theorem CZ_cw {w : cw_W} {α β : hp_T} {x : Nat} {σ : ms_T} (h : CZ α x σ) (c : cw w α β) (hw : wcz w = true) : CZ β x σ := by
  obtain ⟨c0, c1, c2, c3, c4, c5, c6, c7, c8⟩ := c
  refine ⟨XHR_f h.1 (fun φ b _ r => by rw [c6 φ (wcz_R hw r)]), fun p => ⟨?_, ?_⟩⟩
  · rw [c5 204 (wcz_I hw (Or.inl rfl))]; exact (h.2 p).1
  · rw [c5 205 (wcz_I hw (Or.inr rfl))]; exact (h.2 p).2
theorem CZ_cg {w : cw_W} {α β : hp_T} {x : Nat} {σ : ms_T} (g : GC α) (hk : hp_K α x = 12) (hX : XSH α x) (h : CZ α x σ) (c : cg w α β) (hw : wcz w = true) : CZ β x σ := by
  obtain ⟨z1, z2, z3, z4, z5, z6, z7, z8⟩ := id hX
  obtain ⟨⟨⟨r1, r2, r3⟩, r4, r5, r6, r7, r8, r9⟩, h2, h3, h4⟩ := id h.1
  have k44 : hp_K α (x + 944) = 4 := gkR g hk z5 rfl (by decide) (by decide)
  have k26 : hp_K α (x + 926) = 6 ∧ hp_K α (x + 928) = 6 := by
    rcases h2 with q | q
    · exact ⟨gkR g hk q.1 rfl (by decide) (by decide), gkR g hk q.2 rfl (by decide) (by decide)⟩
    · exact ⟨gkR g hk q.2 rfl (by decide) (by decide), gkR g hk q.1 rfl (by decide) (by decide)⟩
  have hK : ∀ b, inC x b → hp_K α b ≠ 0 := by
    intro b hb
    rcases hb with e | e | e | e | e | e | e
    · rw [e]; exact nz hk (by decide)
    · rw [e]; exact nz k26.1 (by decide)
    · rw [e]; exact nz k26.2 (by decide)
    · rw [e]; exact nz k44 (by decide)
    · rw [e]; exact nz (gkR g k44 r4 rfl (by decide) (by decide)) (by decide)
    · rw [e]; exact nz (gkR g k44 r6 rfl (by decide) (by decide)) (by decide)
    · rw [e]; exact nz (gkR g k44 r2 rfl (by decide) (by decide)) (by decide)
  obtain ⟨c0, c1, c2, c3, -⟩ := c
  refine ⟨XHR_f h.1 (fun φ b p r => c3 φ b (hK b p) (wcz_R hw r)), fun p => ⟨?_, ?_⟩⟩
  · rw [c2 204 _ (nz k44 (by decide)) (wcz_I hw (Or.inl rfl))]; exact (h.2 p).1
  · rw [c2 205 _ (nz k44 (by decide)) (wcz_I hw (Or.inr rfl))]; exact (h.2 p).2
theorem CZ_C {α β : hp_T} {x : Nat} {σ : ms_T} (g : GC α) (hk : hp_K α x = 12) (hX : XSH α x) (h : CZ α x σ) (c : ∀ q, hp_K α q ≠ 0 → saC α β q) : CZ β x σ := by
  obtain ⟨z1, z2, z3, z4, z5, z6, z7, z8⟩ := id hX
  obtain ⟨⟨⟨r1, r2, r3⟩, r4, r5, r6, r7, r8, r9⟩, h2, h3, h4⟩ := id h.1
  have k44 : hp_K α (x + 944) = 4 := gkR g hk z5 rfl (by decide) (by decide)
  have k26 : hp_K α (x + 926) = 6 ∧ hp_K α (x + 928) = 6 := by
    rcases h2 with q | q
    · exact ⟨gkR g hk q.1 rfl (by decide) (by decide), gkR g hk q.2 rfl (by decide) (by decide)⟩
    · exact ⟨gkR g hk q.2 rfl (by decide) (by decide), gkR g hk q.1 rfl (by decide) (by decide)⟩
  have hK : ∀ b, inC x b → hp_K α b ≠ 0 := by
    intro b hb
    rcases hb with e | e | e | e | e | e | e
    · rw [e]; exact nz hk (by decide)
    · rw [e]; exact nz k26.1 (by decide)
    · rw [e]; exact nz k26.2 (by decide)
    · rw [e]; exact nz k44 (by decide)
    · rw [e]; exact nz (gkR g k44 r4 rfl (by decide) (by decide)) (by decide)
    · rw [e]; exact nz (gkR g k44 r6 rfl (by decide) (by decide)) (by decide)
    · rw [e]; exact nz (gkR g k44 r2 rfl (by decide) (by decide)) (by decide)
  have c4 := c (x + 944) (nz k44 (by decide))
  refine ⟨XHR_f h.1 (fun φ b p r => (c b (hK b p)).2.2.1 φ), fun p => ⟨?_, ?_⟩⟩
  · rw [c4.2.1 204 (by decide)]; exact (h.2 p).1
  · rw [c4.2.1 205 (by decide)]; exact (h.2 p).2
theorem CZ_load {α β : hp_T} {x : Nat} {σ τ : ms_T} (h : CZ α x σ) (hL : LXW β x τ) (hf : ldf x α β) : CZ β x τ :=
  ⟨XHR_f h.1 (fun φ b q r => hf.1 φ b (fun z => by rcases z.2 with e | e <;> rw [e] at r <;> cases r) (fun z => by rw [z.2] at r; cases r)), hL.2.2.2.2.1⟩
theorem LX_heard {α : hp_T} {x : Nat} {σ : ms_T} {res : Int32 × ms_T} {a : Int32 × hp_T} (h : LX α x σ) (o : HRO x α σ res res a) (hC : rC (ms_E res.2 40)) : LX a.2 x res.2 := by
  obtain ⟨-, hT, -, -, -, ⟨f1, f2, f3, f4, f5, f6⟩, k⟩ := o
  obtain ⟨h0, h1, ⟨w, u, g1, g2, g3, g4, g5⟩, h3, -, l, h5, h6⟩ := h
  have e40 : ms_E res.2 40 = ms_E σ 40 := funext (k.2 40 (by decide))
  have eR : ∀ φ b, okR φ = true → hp_R a.2 φ b = hp_R α φ b := fun φ b r => f1 φ b (fun z => by rcases z.2 with e | e <;> rw [e] at r <;> cases r) (fun z => by rw [z.2] at r; cases r)
  refine ⟨hC, XSH_f h1 (fun φ b _ r => eR φ b r) (by rw [f2]), ?_, by rw [e40]; exact h3, hT, l, TYS_e h5 (k.1 664 (by decide)) (fun j => k.2 45 (by decide) j), TYC_f h6 (fun φ b _ r => eR φ b r) (fun b p q => f5 501 b (fun z => by omega) (fun z => by omega) (by omega)) (fun b j p q => f6 27 b j (fun z => by omega) (by omega))⟩
  rw [e40]
  exact ⟨w, u, by rw [eR 601 _ rfl]; exact g1, by rw [eR 602 _ rfl]; exact g2, g3, WZ_z g4 h0 (fun φ b p q r => eR φ b r) (fun κ b j p q => by rw [f3]) (fun φ b p q r => f5 φ b (fun z => by rcases z.2 with e | e <;> rw [e] at r <;> cases r) (fun z => by rw [z.1] at r; cases r) (by omega)) (fun κ b j p q r => f6 κ b j (fun z => by omega) (by omega)), SHW_z g5 (fun φ b p q r => eR φ b r) (fun κ b j p q => by rw [f3])⟩
theorem CZ_hear {α : hp_T} {x : Nat} {σ : ms_T} {res : Int32 × ms_T} {a : Int32 × hp_T} (h : CZ α x σ) (o : HRO x α σ res res a) : CZ a.2 x res.2 := ⟨o.2.2.1, fun p => o.2.2.2.2.1 (h.2 p)⟩
/-! ===== PAD mode ===== -/
/-- where the rows of marks lie -/
def PRX (α : hp_T) (x : Nat) : Prop := hp_R α 614 x = x + 939 ∧ hp_R α 300 (x + 939) = x + 940 ∧ hp_R α 300 (x + 919) = x + 920
def CY (α : hp_T) (x : Nat) (σ : ms_T) : Prop := CZ α x σ ∧ PRX α x ∧ PDX α x (ms_E σ 40)
theorem PRX_0 (α : hp_T) (x : Nat) : PRX (F_X11_init α (x + 1) x) x := by
  have ha : x < x + 1 := by omega
  have f : hp_R (F_X5_init (F_X11_init_35 α (x + 1) x) (x + 1 + 939) (x + 1 + 938)) 300 (x + 1 + 938) = _ := fd_X5_300 _ _ _ (by omega)
  have g : hp_R (F_X5_init (F_X11_init_8 α (x + 1) x) (x + 1 + 919) (x + 1 + 918)) 300 (x + 1 + 918) = _ := fd_X5_300 _ _ _ (by omega)
  refine ⟨?_, ?_, ?_⟩
  · rw [fd_X11_614 α (x + 1) x ha]
  · rw [(tl_X11_36 α (x + 1) x (x + 939) (by omega) (by omega)).2.2.2.1 300, show x + 939 = x + 1 + 938 by omega]
    exact f.trans (by omega)
  · rw [(tl_X11_9 α (x + 1) x (x + 919) (by omega) (by omega)).2.2.2.1 300, show x + 919 = x + 1 + 918 by omega]
    exact g.trans (by omega)
theorem PDX_0 (α : hp_T) (x : Nat) (σ : ms_T) (hσ : ms_i0 σ) : PDX (F_X11_init α (x + 1) x) x (ms_E σ 40) := by
  obtain ⟨-, -, -, -, s5⟩ := hσ
  have e2 : ms_E σ 40 2 = 0 := s5 2 (by omega) (by omega)
  have e : pdl (ms_E σ 40) = [] := by
    unfold pdl
    rw [e2]; rfl
  have g : hp_I (F_X5_init (F_X11_init_8 α (x + 1) x) (x + 1 + 919) (x + 1 + 918)) 301 (x + 1 + 918) = _ := fd_X5_301 _ _ _ (by omega)
  have z : hp_I (F_X11_init α (x + 1) x) 301 (x + 919) = 0 := by
    rw [(tl_X11_9 α (x + 1) x (x + 919) (by omega) (by omega)).2.1 301, show x + 919 = x + 1 + 918 by omega]
    exact g
  unfold PDX
  rw [e]
  exact ⟨by simp, by rw [z]; rfl, fun k hk => absurd hk (by simp)⟩
theorem CY_0 (α : hp_T) (x : Nat) (σ : ms_T) (hσ : ms_i0 σ) (hX : XSH (F_X11_init α (x + 1) x) x) : CY (F_X11_init α (x + 1) x) x σ := ⟨CZ_0 α x σ hσ hX, PRX_0 α x, PDX_0 α x σ hσ⟩
/-- what leaves the shape; and the pad, too -/
def wcy (w : cw_W) : Bool := wcz w && !(w.2.1.contains 614)
def wck (w : cw_W) : Bool := wcy w && wpd w
theorem wcy_z {w : cw_W} (h : wcy w = true) : wcz w = true := by
  simp only [wcy, Bool.and_eq_true] at h
  exact h.1
theorem wcy_4 {w : cw_W} (h : wcy w = true) : 614 ∉ w.2.1 := by
  simp only [wcy, Bool.and_eq_true] at h
  simpa using h.2
theorem wck_y {w : cw_W} (h : wck w = true) : wcy w = true := by
  simp only [wck, Bool.and_eq_true] at h
  exact h.1
theorem wck_p {w : cw_W} (h : wck w = true) : wpd w = true := by
  simp only [wck, Bool.and_eq_true] at h
  exact h.2
theorem PRX_f {α β : hp_T} {x : Nat} (h : PRX α x) (e1 : hp_R β 614 x = hp_R α 614 x) (e2 : hp_R β 300 (x + 939) = hp_R α 300 (x + 939)) (e3 : hp_R β 300 (x + 919) = hp_R α 300 (x + 919)) : PRX β x := ⟨e1.trans h.1, e2.trans h.2.1, e3.trans h.2.2⟩
theorem PRX_cw {w : cw_W} {α β : hp_T} {x : Nat} (h : PRX α x) (c : cw w α β) (hw : wcy w = true) : PRX β x := by
  have z := wcz_R (wcy_z hw) (φ := 300) rfl
  have y := wcy_4 hw
  obtain ⟨c0, c1, c2, c3, c4, c5, c6, c7, c8⟩ := c
  exact PRX_f h (by rw [c6 614 y]) (by rw [c6 300 z]) (by rw [c6 300 z])
theorem CY_cw {w : cw_W} {α β : hp_T} {x : Nat} {σ : ms_T} (h : CY α x σ) (c : cw w α β) (hw : wck w = true) : CY β x σ :=
  ⟨CZ_cw h.1 c (wcy_z (wck_y hw)), PRX_cw h.2.1 c (wck_y hw), PDX_k h.2.2 h.2.1.2.2 (pkp_cw c (wck_p hw))⟩
/-- an act -/
theorem CY_act {w : cw_W} {α β : hp_T} {x : Nat} {σ τ : ms_T} (h : CY α x σ) (c : cw w α β) (hw : wcy w = true) (wf : wfs x α β) (p : pde (ms_E σ 40) (ms_E τ 40)) (hC : rC (ms_E σ 40)) : CY β x τ :=
  ⟨⟨(CZ_cw h.1 c (wcy_z hw)).1, fun q => q.elim⟩, PRX_cw h.2.1 c hw, PDX_e (PDX_k h.2.2 h.2.1.2.2 (pkp_wfs wf)) (pdl_pde hC p)⟩
/-- a call that writes the pad -/
theorem CY_pad {w : cw_W} {α β : hp_T} {x : Nat} {σ τ : ms_T} {l : List Int32} (h : CY α x σ) (c : cw w α β) (hw : wcy w = true) (r : RWL β (x + 919) l) (e : pdl (ms_E τ 40) = l) : CY β x τ := by
  refine ⟨⟨(CZ_cw h.1 c (wcy_z hw)).1, fun q => q.elim⟩, PRX_cw h.2.1 c hw, ?_⟩
  unfold PDX
  rw [e]; exact r
/-- a call that writes rows of marks, not the pad's -/
theorem CY_R {w : cw_W} {ra rb : List Nat} {α β : hp_T} {x : Nat} {σ : ms_T} (h : CY α x σ) (c : cwr ra rb w α β) (hw : wcy w = true) (n1 : x + 919 ∉ ra) (n2 : x + 920 ∉ rb) : CY β x σ := by
  have z := wcz_R (wcy_z hw) (φ := 300) rfl
  obtain ⟨c, f1, f2⟩ := c
  have e3 : hp_R β 300 (x + 919) = hp_R α 300 (x + 919) := by
    obtain ⟨c0, c1, c2, c3, c4, c5, c6, c7, c8⟩ := c
    rw [c6 300 z]
  exact ⟨CZ_cw h.1 c (wcy_z hw), PRX_cw h.2.1 c hw, PDX_k h.2.2 h.2.1.2.2 ⟨f1 _ n1, e3, fun j => f2 _ j n2⟩⟩
/-- a call that leaves the pad, told by itself -/
theorem CY_pk {w : cw_W} {α β : hp_T} {x : Nat} {σ : ms_T} (h : CY α x σ) (c : cw w α β) (hw : wcy w = true) (q : pkp x α β) : CY β x σ := ⟨CZ_cw h.1 c (wcy_z hw), PRX_cw h.2.1 c hw, PDX_k h.2.2 h.2.1.2.2 q⟩
theorem PRV {α : hp_T} {x : Nat} {f : Nat → Int32} (h : RWZ α x f) : hp_R α 558 (hp_R α 601 x) ∈ [x + 6, x + 465] ∧ hp_R α 300 (hp_R α 558 (hp_R α 601 x)) ∈ [x + 7, x + 466] := by
  obtain ⟨w, u, h1, -, h3, ⟨⟨-, -, -, -, s5, -, -, -, -, s10, -⟩, -⟩, -⟩ := h
  rw [h1, s5, s10]
  rcases h3 with ⟨rfl, -⟩ | ⟨rfl, -⟩
  · exact ⟨List.mem_cons_self, List.mem_cons_self⟩
  · exact ⟨List.mem_cons_of_mem _ List.mem_cons_self, List.mem_cons_of_mem _ List.mem_cons_self⟩
theorem n_19 {x : Nat} : x + 919 ∉ [x + 939] ∧ x + 920 ∉ [x + 940] ∧ x + 919 ∉ [x + 6, x + 465] ∧ x + 920 ∉ [x + 7, x + 466] := by
  refine ⟨fun q => ?_, fun q => ?_, fun q => ?_, fun q => ?_⟩ <;> simp only [List.mem_cons, List.not_mem_nil, or_false] at q <;> omega
theorem PDX_nz {α : hp_T} {x : Nat} (g : GC α) (hk : hp_K α x = 12) (hX : XSH α x) : hp_K α (x + 919) = 6 ∧ hp_K α (x + 920) = 20 := by
  obtain ⟨z1, z2, -⟩ := hX
  have k := gkR g hk z1 rfl (by decide) (by decide)
  exact ⟨k, gkR g k z2 rfl (by decide) (by decide)⟩
theorem CY_C {α β : hp_T} {x : Nat} {σ : ms_T} (g : GC α) (hk : hp_K α x = 12) (hX : XSH α x) (h : CY α x σ) (c : ∀ q, hp_K α q ≠ 0 → saC α β q) : CY β x σ := by
  have k := PDX_nz g hk hX
  have k39 : hp_K α (x + 939) = 6 := gkR g hk h.2.1.1 rfl (by decide) (by decide)
  have c0 := c x (nz hk (by decide))
  have c9 := c (x + 919) (nz k.1 (by decide))
  have c20 := c (x + 920) (nz k.2 (by decide))
  have c39 := c (x + 939) (nz k39 (by decide))
  exact ⟨CZ_C g hk hX h.1 c, PRX_f h.2.1 (c0.2.2.1 614) (c39.2.2.1 300) (c9.2.2.1 300), PDX_k h.2.2 h.2.1.2.2 ⟨c9.2.1 301 (by decide), c9.2.2.1 300, fun j => c20.2.2.2.2.1 20 j (by decide)⟩⟩
theorem CZ_m {α β : hp_T} {x : Nat} {σ τ : ms_T} (h : CZ α x σ) (c : mo α β) : CZ β x τ := by
  obtain ⟨c1, c2, c3, c4, c5, c6, c7⟩ := c
  exact ⟨XHR_f h.1 (fun φ b _ r => by rw [c2]), fun p => p.elim⟩
theorem CY_m {α β : hp_T} {x : Nat} {σ : ms_T} (h : CY α x σ) (c : mo α β) : CY β x σ := by
  have q : pkp x α β := by
    obtain ⟨c1, c2, c3, c4, c5, c6, c7⟩ := c
    exact ⟨by rw [c6 301 (by decide)], by rw [c2], fun j => by rw [c7 20 (by decide)]⟩
  have r : hp_R β = hp_R α := c.2.1
  exact ⟨CZ_m h.1 c, PRX_f h.2.1 (by rw [r]) (by rw [r]) (by rw [r]), PDX_k h.2.2 h.2.1.2.2 q⟩
theorem CY_e {α : hp_T} {x : Nat} {σ τ : ms_T} (q : CY α x σ) (e : ms_E τ 40 = ms_E σ 40) : CY α x τ := by
  refine ⟨⟨q.1.1, fun p => p.elim⟩, q.2.1, ?_⟩
  rw [e]; exact q.2.2
theorem CY_k {α β : hp_T} {x : Nat} {σ τ : ms_T} (h : CY α x σ) (c : mo α β) (k : kf σ τ) : CY β x τ := CY_e (CY_m h c) (funext (fun j => k.2 40 rfl j))
theorem CY_kq {α β : hp_T} {x : Nat} {σ τ : ms_T} (h : CY α x σ) (c : mo α β) (k : kq σ τ) : CY β x τ := CY_e (CY_m h c) (funext (fun j => k.2 40 rfl j))
theorem LXW_LXy {α : hp_T} {x : Nat} {σ : ms_T} (g : GC α) (h : LX α x σ) (hc : CY α x σ) : LXW α x σ := ⟨h.2.1, RWX_Z g h.2.2.1, h.2.2.2.1, h.2.2.2.2.1, hc.1.2, fun _ => hc.2.2⟩
theorem CY_load {α β : hp_T} {x : Nat} {σ τ : ms_T} (h : CY α x σ) (hL : LXW β x τ) (hf : ldf x α β) : CY β x τ :=
  ⟨CZ_load h.1 hL hf, PRX_f h.2.1 (hf.1 614 x (fun z => by omega) (fun z => by omega)) (hf.1 300 _ (fun z => by omega) (fun z => by omega)) (hf.1 300 _ (fun z => by omega) (fun z => by omega)), hL.2.2.2.2.2 trivial⟩
theorem CY_hear {α : hp_T} {x : Nat} {σ : ms_T} {res : Int32 × ms_T} {a : Int32 × hp_T} (h : CY α x σ) (o : HRO x α σ res res a) : CY a.2 x res.2 := by
  refine ⟨CZ_hear h.1 o, ?_, ?_⟩
  · obtain ⟨-, -, -, -, -, ⟨f1, -⟩, -⟩ := o
    exact PRX_f h.2.1 (f1 614 x (fun z => by omega) (fun z => by omega)) (f1 300 _ (fun z => by omega) (fun z => by omega)) (f1 300 _ (fun z => by omega) (fun z => by omega))
  · obtain ⟨-, -, -, -, -, ⟨f1, f2, f3, f4, f5, f6⟩, k⟩ := o
    refine PDX_e (PDX_k h.2.2 h.2.1.2.2 ⟨f5 301 _ (fun z => by omega) (fun z => by omega) (by omega), f1 300 _ (fun z => by omega) (fun z => by omega), fun j => f6 20 _ j (fun z => by omega) (by omega)⟩) ?_
    rw [show ms_E res.2 40 = ms_E σ 40 from funext (k.2 40 (by decide))]
/-! ===== beside it the marks of the pad, and the table of roots ===== -/
def pmL (l : List Int32) : Prop := ∀ v ∈ l, 0 ≤ v.toInt ∧ v.toInt ≤ 65521
def PM (f : Nat → Int32) : Prop := pmL (pdl f)
theorem PM_e {f g : Nat → Int32} (h : PM f) (e : pdl g = pdl f) : PM g := by
  unfold PM at h ⊢
  rw [e]; exact h
theorem pm_0 : pmL [] := fun v hv => absurd hv List.not_mem_nil
section PMs
variable {f : Nat → Int32}
theorem pm_mkl (hC : rC f) {L : List Int32} (h : ∀ x ∈ L, 0 ≤ x.toInt ∧ x.toInt < (f 1).toInt) (l : List (Nat × Nat × Bool)) : pmL (mkl (f 1) L l) := by
  intro v hv
  unfold mkl at hv
  rw [List.mem_map] at hv
  obtain ⟨q, -, rfl⟩ := hv
  have h1 := TMK_lt hC h q.1 q.2.1
  have h2 := hC.2.1
  omega
theorem pm_push (hC : rC f) (h : PM f) (a : Int32) : pmL (psL f a) := by
  have h2 := hC.2.1
  unfold psL
  by_cases ok : psOK f a
  · rw [if_pos ok]
    intro v hv
    rw [List.mem_append] at hv
    rcases hv with hv | hv
    · exact h v hv
    · rw [List.mem_singleton] at hv
      subst hv
      have := ok.1
      omega
  · rw [if_neg ok]; exact h
theorem pm_poke (hC : rC f) (h : PM f) (k a : Int32) : pmL (pqL f k a) := by
  have h2 := hC.2.1
  unfold pqL
  by_cases ok : pqOK f k a
  · rw [if_pos ok]
    intro v hv
    rcases List.mem_or_eq_of_mem_set hv with hv | hv
    · exact h v hv
    · subst hv
      have := ok.1.2
      omega
  · rw [if_neg ok]; exact h
theorem pm_cut (h : PM f) (k : Int32) : pmL (cuL f k) := by
  unfold cuL
  split
  · exact fun v hv => h v (List.mem_of_mem_take hv)
  · exact h
theorem pm_include (hC : rC f) (hM : MRL f) (h : PM f) (a i m : Int32) : pmL (if inOK f a i m then inL f a i m else pdl f) := by
  by_cases ok : inOK f a i m
  · rw [if_pos ok]; exact pm_mkl hC (hM _ (by have := ok.2.1; omega)) _
  · rw [if_neg ok]; exact h
theorem pm_grow (hC : rC f) (hM : MRL f) (h : PM f) (a i m : Int32) : pmL (if grOK f a i m then grL f a i m else pdl f) := by
  by_cases ok : grOK f a i m
  · rw [if_pos ok]; exact pm_mkl hC (hM _ (by have := ok.2.1; omega)) _
  · rw [if_neg ok]; exact h
theorem pm_peaks (hC : rC f) (hM : MRL f) (h : PM f) (a m : Int32) : pmL (if hdOK f a m then pkL f a m else pdl f) := by
  by_cases ok : hdOK f a m
  · rw [if_pos ok]; exact pm_mkl hC (hM _ (by have := ok.2.1; omega)) _
  · rw [if_neg ok]; exact h
theorem pm_bundle (hC : rC f) (hM : MRL f) (h : PM f) (a s m : Int32) : pmL (if buOK f a s m then buL f a s m else pdl f) := by
  by_cases ok : buOK f a s m
  · rw [if_pos ok]; exact pm_mkl hC (hM _ (by have := ok.1; omega)) _
  · rw [if_neg ok]; exact h
theorem pm_exL {m : Int32} (hm : 0 < m.toInt) (hm2 : m.toInt ≤ 65521) : ∀ (e : Nat) (l : List Int32) (r : Nat) (v : Int32), pmL l → 0 ≤ v.toInt ∧ v.toInt ≤ 65521 → pmL (exL m e l r v) := by
  have one : ∀ (l : List Int32) (v : Int32), pmL l → 0 ≤ v.toInt ∧ v.toInt ≤ 65521 → pmL (l ++ [v]) := fun l v h hv u hu => by
    rw [List.mem_append] at hu
    rcases hu with hu | hu
    · exact h u hu
    · rw [List.mem_singleton] at hu
      subst hu; exact hv
  intro e
  induction e with
  | zero => intro l r v h hv; exact one l v h hv
  | succ e ih =>
    intro l r v h hv
    rw [exL]
    by_cases q : r % 2 = 1
    · rw [if_pos q]
      have hg : 0 ≤ (l.getD (l.length - 1) 0).toInt ∧ (l.getD (l.length - 1) 0).toInt ≤ 65521 := by
        rw [List.getD_eq_getElem?_getD]
        by_cases z : l.length - 1 < l.length
        · rw [List.getElem?_eq_getElem z]
          exact h _ (List.getElem_mem z)
        · rw [List.getElem?_eq_none (by omega)]
          exact ⟨by decide, by decide⟩
      have hb := bt_r m (l.getD (l.length - 1) 0) v hm hm2 hg.1 (by omega) hv.1 (by omega)
      exact ih _ _ _ (fun u hu => h u (List.mem_of_mem_take hu)) ⟨hb.1, by omega⟩
    · rw [if_neg q]; exact one l v h hv
theorem pm_extend (hC : rC f) (h : PM f) (m a : Int32) : pmL (exX f m a) := by
  have h2 := hC.2.1
  unfold exX
  by_cases ok : exOK f m a
  · rw [if_pos ok]
    have := ok.2.1
    exact pm_exL (by omega) (by omega) 20 _ _ _ h ⟨by omega, by omega⟩
  · rw [if_neg ok]; exact h
end PMs
def CX (α : hp_T) (x : Nat) (σ : ms_T) : Prop := CY α x σ ∧ PM (ms_E σ 40) ∧ TBX α x
def wtb (w : cw_W) : Bool := !(w.1.contains 252) && !(w.2.1.contains 250) && !(w.2.1.contains 251) && !(w.2.2.1.contains 34) && !(w.2.2.1.contains 35)
def wcx (w : cw_W) : Bool := wck w && wtb w
def wcv (w : cw_W) : Bool := wcy w && wtb w
theorem wcx_k {w : cw_W} (h : wcx w = true) : wck w = true := by
  simp only [wcx, Bool.and_eq_true] at h
  exact h.1
theorem wcx_t {w : cw_W} (h : wcx w = true) : wtb w = true := by
  simp only [wcx, Bool.and_eq_true] at h
  exact h.2
theorem wcv_y {w : cw_W} (h : wcv w = true) : wcy w = true := by
  simp only [wcv, Bool.and_eq_true] at h
  exact h.1
theorem wcv_t {w : cw_W} (h : wcv w = true) : wtb w = true := by
  simp only [wcv, Bool.and_eq_true] at h
  exact h.2
theorem TBX_cw {w : cw_W} {α β : hp_T} {x : Nat} (h : TBX α x) (c : cw w α β) (hw : wtb w = true) : TBX β x := by
  obtain ⟨c0, c1, c2, c3, c4, c5, c6, c7, c8⟩ := c
  simp only [wtb, Bool.and_eq_true, Bool.not_eq_true', List.contains_eq_mem, decide_eq_false_iff_not] at hw
  obtain ⟨⟨⟨⟨w2, w3⟩, w4⟩, w5⟩, w6⟩ := hw
  exact TBX_f h (by rw [c2]) (fun b _ => by rw [c5 252 w2]) (fun b _ => by rw [c6 250 w3, c6 251 w4]; exact ⟨rfl, rfl⟩) (fun b j _ => by rw [c7 34 w5, c7 35 w6]; exact ⟨rfl, rfl⟩)
theorem TBX_mo {α β : hp_T} {x : Nat} (h : TBX α x) (c : mo α β) : TBX β x := by
  obtain ⟨c1, c2, c3, c4, c5, c6, c7⟩ := c
  exact TBX_f h (by rw [c3]) (fun b _ => by rw [c6 252 (by decide)]) (fun b _ => by rw [c2]; exact ⟨rfl, rfl⟩) (fun b j _ => by rw [c7 34 (by decide), c7 35 (by decide)]; exact ⟨rfl, rfl⟩)
theorem TBX_0 {α : hp_T} {x : Nat} (h : hp_N α 618 x = none) : TBX α x := fun b hb => by rw [h] at hb; cases hb
theorem PM_0 (σ : ms_T) (hσ : ms_i0 σ) : PM (ms_E σ 40) := by
  obtain ⟨-, -, -, -, s5⟩ := hσ
  have e2 : ms_E σ 40 2 = 0 := s5 2 (by omega) (by omega)
  have e : pdl (ms_E σ 40) = [] := by
    unfold pdl
    rw [e2]; rfl
  unfold PM
  rw [e]; exact pm_0
theorem CX_cw {w : cw_W} {α β : hp_T} {x : Nat} {σ : ms_T} (h : CX α x σ) (c : cw w α β) (hw : wcx w = true) : CX β x σ := ⟨CY_cw h.1 c (wcx_k hw), h.2.1, TBX_cw h.2.2 c (wcx_t hw)⟩
theorem CX_act {w : cw_W} {α β : hp_T} {x : Nat} {σ τ : ms_T} (h : CX α x σ) (c : cw w α β) (hw : wcv w = true) (wf : wfs x α β) (p : pde (ms_E σ 40) (ms_E τ 40)) (hC : rC (ms_E σ 40)) : CX β x τ := ⟨CY_act h.1 c (wcv_y hw) wf p hC, PM_e h.2.1 (pdl_pde hC p), TBX_cw h.2.2 c (wcv_t hw)⟩
theorem CX_pad {w : cw_W} {α β : hp_T} {x : Nat} {σ τ : ms_T} {l : List Int32} (h : CX α x σ) (c : cw w α β) (hw : wcv w = true) (r : RWL β (x + 919) l) (e : pdl (ms_E τ 40) = l) (pm : pmL l) : CX β x τ := ⟨CY_pad h.1 c (wcv_y hw) r e, by unfold PM; rw [e]; exact pm, TBX_cw h.2.2 c (wcv_t hw)⟩
theorem CX_R {w : cw_W} {ra rb : List Nat} {α β : hp_T} {x : Nat} {σ : ms_T} (h : CX α x σ) (c : cwr ra rb w α β) (hw : wcv w = true) (n1 : x + 919 ∉ ra) (n2 : x + 920 ∉ rb) : CX β x σ := ⟨CY_R h.1 c (wcv_y hw) n1 n2, h.2.1, TBX_cw h.2.2 c.1 (wcv_t hw)⟩
/-- what the call keeps of pad and table, told by itself -/
theorem CX_V {w : cw_W} {α β : hp_T} {x : Nat} {σ : ms_T} (h : CX α x σ) (c : cw w α β) (hw : wcy w = true) (v : TBX β x ∧ pkp x α β) : CX β x σ := ⟨CY_pk h.1 c hw v.2, h.2.1, v.1⟩
theorem CX_cgV {w : cw_W} {α β : hp_T} {x : Nat} {σ : ms_T} (g : GC α) (hk : hp_K α x = 12) (hX : XSH α x) (h : CX α x σ) (c : cg w α β) (hw : wcy w = true) (v : TBX β x ∧ pkp x α β) : CX β x σ := by
  have z := wcz_R (wcy_z hw) (φ := 300) rfl
  have y := wcy_4 hw
  have k := PDX_nz g hk hX
  have k39 : hp_K α (x + 939) = 6 := gkR g hk h.1.2.1.1 rfl (by decide) (by decide)
  have h1 := CZ_cg g hk hX h.1.1 c (wcy_z hw)
  obtain ⟨c0, c1, c2, c3, -⟩ := c
  exact ⟨⟨h1, PRX_f h.1.2.1 (c3 614 x (nz hk (by decide)) y) (c3 300 _ (nz k39 (by decide)) z) (c3 300 _ (nz k.1 (by decide)) z), PDX_k h.1.2.2 h.1.2.1.2.2 v.2⟩, h.2.1, v.1⟩
theorem CX_m {α β : hp_T} {x : Nat} {σ : ms_T} (h : CX α x σ) (c : mo α β) : CX β x σ := ⟨CY_m h.1 c, h.2.1, TBX_mo h.2.2 c⟩
theorem CX_k {α β : hp_T} {x : Nat} {σ τ : ms_T} (h : CX α x σ) (c : mo α β) (k : kf σ τ) : CX β x τ := ⟨CY_k h.1 c k, by rw [show ms_E τ 40 = ms_E σ 40 from funext (fun j => k.2 40 rfl j)]; exact h.2.1, TBX_mo h.2.2 c⟩
theorem CX_kq {α β : hp_T} {x : Nat} {σ τ : ms_T} (h : CX α x σ) (c : mo α β) (k : kq σ τ) : CX β x τ := ⟨CY_kq h.1 c k, by rw [show ms_E τ 40 = ms_E σ 40 from funext (fun j => k.2 40 rfl j)]; exact h.2.1, TBX_mo h.2.2 c⟩
theorem LXW_LXp {α : hp_T} {x : Nat} {σ : ms_T} (g : GC α) (h : LX α x σ) (hc : CX α x σ) : LXW α x σ := LXW_LXy g h hc.1
theorem CX_load {w : cw_W} {α β : hp_T} {x : Nat} {σ τ : ms_T} (h : CX α x σ) (hL : LXW β x τ) (hf : ldf x α β) (c : cw w α β) (hw : wtb w = true) (e : pdl (ms_E τ 40) = pdl (ms_E σ 40) ∨ pdl (ms_E τ 40) = []) : CX β x τ := ⟨CY_load h.1 hL hf, by
  unfold PM
  rcases e with e | e
  · rw [e]; exact h.2.1
  · rw [e]; exact pm_0, TBX_cw h.2.2 c hw⟩
theorem CX_hear {w : cw_W} {α : hp_T} {x : Nat} {σ : ms_T} {res : Int32 × ms_T} {a : Int32 × hp_T} (h : CX α x σ) (o : HRO x α σ res res a) (c : cw w α a.2) (hw : wtb w = true) : CX a.2 x res.2 := by
  have e : ms_E res.2 40 = ms_E σ 40 := by
    obtain ⟨-, -, -, -, -, -, k⟩ := o
    exact funext (k.2 40 (by decide))
  exact ⟨CY_hear h.1 o, by rw [e]; exact h.2.1, TBX_cw h.2.2 c hw⟩
theorem CX_C {α β : hp_T} {x : Nat} {σ : ms_T} (g : GC α) (hk : hp_K α x = 12) (hX : XSH α x) (h : CY α x σ) (p : PM (ms_E σ 40)) (t : TBX β x) (c : ∀ q, hp_K α q ≠ 0 → saC α β q) : CX β x σ := ⟨CY_C g hk hX h c, p, t⟩
end JN11_1
