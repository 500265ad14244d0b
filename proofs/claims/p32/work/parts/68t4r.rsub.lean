set_option maxRecDepth 100000
/-! ===== contracts that tell which rows of marks are written ===== -/
def rofw (ra rb : List Nat) (α β : hp_T) : Prop := (∀ b, b ∉ ra → hp_I β 301 b = hp_I α 301 b) ∧ ∀ b j, b ∉ rb → hp_E β 20 b j = hp_E α 20 b j
theorem rofw_rf {ra rb : List Nat} {α : hp_T} : rofw ra rb α α := ⟨fun _ _ => rfl, fun _ _ _ => rfl⟩
theorem rofw_tr {ra rb : List Nat} {α β γ : hp_T} (h : rofw ra rb α β) (g : rofw ra rb β γ) : rofw ra rb α γ := ⟨fun b q => (g.1 b q).trans (h.1 b q), fun b j q => (g.2 b j q).trans (h.2 b j q)⟩
def wqr (w : cw_W) : Bool := !(w.1.contains 301) && !(w.2.2.1.contains 20)
theorem rofw_sI {ra rb : List Nat} {α β : hp_T} {φ a : Nat} {v : Int32} (h : rofw ra rb α β) (hφ : φ ≠ 301) : rofw ra rb α (hp_sI β φ a v) := ⟨fun b q => by rw [hI_sI, if_neg (fun z => hφ z.1.symm)]; exact h.1 b q, fun b j q => h.2 b j q⟩
theorem rofw_cw {ra rb : List Nat} {w : cw_W} {α β : hp_T} (c : cw w α β) (hw : wqr w = true) : rofw ra rb α β := by
  obtain ⟨c0, c1, c2, c3, c4, c5, c6, c7, c8⟩ := c
  simp only [wqr, Bool.and_eq_true, Bool.not_eq_true', List.contains_eq_mem, decide_eq_false_iff_not] at hw
  exact ⟨fun b _ => by rw [c5 301 hw.1], fun b j _ => by rw [c7 20 hw.2]⟩
def cwr (ra rb : List Nat) (w : cw_W) (α β : hp_T) : Prop := cw w α β ∧ rofw ra rb α β
/-- the same where new things come: what stood -/
def rofg (ra rb : List Nat) (α β : hp_T) : Prop := (∀ b, hp_K α b ≠ 0 → b ∉ ra → hp_I β 301 b = hp_I α 301 b) ∧ ∀ b j, hp_K α b ≠ 0 → b ∉ rb → hp_E β 20 b j = hp_E α 20 b j
def cgr (ra rb : List Nat) (w : cw_W) (α β : hp_T) : Prop := cg w α β ∧ rofg ra rb α β
theorem cgr_cw {ra rb : List Nat} {w : cw_W} {α β : hp_T} (h : cwr ra rb w α β) : cgr ra rb w α β := ⟨cg_cw h.1, fun b _ q => h.2.1 b q, fun b j _ q => h.2.2 b j q⟩
theorem cgr_cg {ra rb : List Nat} {w : cw_W} {α β : hp_T} (c : cg w α β) (hw : wqr w = true) : cgr ra rb w α β := by
  simp only [wqr, Bool.and_eq_true, Bool.not_eq_true', List.contains_eq_mem, decide_eq_false_iff_not] at hw
  exact ⟨c, fun b k _ => c.2.2.1 301 b k hw.1, fun b j k _ => c.2.2.2.2.1 20 b j k hw.2⟩
theorem cgr_tr {ra rb : List Nat} {v w : cw_W} {α β γ : hp_T} (h : cgr ra rb w α β) (g : cgr ra rb v β γ) (hs : cw_sub v w = true) : cgr ra rb w α γ :=
  ⟨cg_tr h.1 g.1 hs, fun b k q => (g.2.1 b (by rw [h.1.2.1 b k]; exact k) q).trans (h.2.1 b k q), fun b j k q => (g.2.2 b j (by rw [h.1.2.1 b k]; exact k) q).trans (h.2.2 b j k q)⟩
theorem hp_Qw {l : Launch} {y : MethodName} {ws : List Cond} {rm : Room} {Pc : Array Value → State → Prop} {Γ : hp_G} {P P' : hp_T → Prop} {mc ms : Nat} {free : Addr → Prop} (h : Met l y ws rm Pc (hp_Qv Γ P) mc ms free) (w : ∀ β, P β → P' β) : Met l y ws rm Pc (hp_Qv Γ P') mc ms free := by
  intro p e ha hc hk s m args below hf happ hP hK
  obtain ⟨n, o, h1, h2, h3, ⟨⟨u, e1, e2, e3⟩, e4⟩, h5⟩ := h p e ha hc hk s m args below hf happ hP hK
  exact ⟨n, o, h1, h2, h3, ⟨⟨u, e1, w u e2, e3⟩, e4⟩, h5⟩
theorem tot_put (n : Nat) (α : hp_T) (a : Nat) (v : Int32) : ws (f_X5_put n α a v) (fun β => ∀ ra rb : List Nat, a ∈ ra → hp_R α 300 a ∈ rb → rofw ra rb α β) := by
  have t64 := t_64
  unfold f_X5_put
  refine ws_l (ws_lt (fun _ => ws_s (fun _ _ _ _ => rofw_rf)) (fun c => ws_l (ws_l (ws_le (fun _ => ws_s (fun _ _ _ _ => rofw_rf)) (fun c2 => ?_)))))
  rw [lt0] at c
  rw [t64] at c2
  refine ws_l (ws_l (ws_g c (by omega) (ws_l (ws_l (ws_l (ws_s (fun ra rb hA hB => ⟨fun b q => ?_, fun b j q => ?_⟩)))))))
  · rw [hI_sI, if_neg (fun z => q (by rw [z.2]; exact hA))]; rfl
  · show hp_E (hp_sE α 20 _ _ _) 20 b j = _
    rw [hE_sE, if_neg (fun z => q (by rw [z.2.1]; exact hB))]
theorem t_X5_put_R {ra rb : List Nat} (Γ : hp_G) (l : Launch) (α : hp_T) (g : GC α) (a0 : Nat) (k0 : hp_K α a0 = 6) (a1 : Int32) (oA : a0 ∈ ra) (oB : hp_R α 300 a0 ∈ rb) : Met l yX5_put (hp_ws yX5_put cX5_put 2 none) (hp_rm 0 0 0) (hp_Pc Γ α [.ref a0, .int a1]) (hp_Qv Γ (fun β => cwr ra rb w_X5_put α β)) 0 0 (hp_A Γ) := by
  obtain ⟨res, h1, h2⟩ := tot_put 70000 α a0 a1
  exact hp_Qw (n_X5_put 70000 Γ l α g a0 k0 a1 res h1) (fun β h => ⟨h.2, by rw [h.1]; exact h2 ra rb oA oB⟩)
theorem tot_short (n : Nat) (α : hp_T) (a : Nat) (v : Int32) : ws (f_X5_shorten n α a v) (fun β => ∀ ra rb : List Nat, a ∈ ra → rofw ra rb α β) := by
  unfold f_X5_shorten
  refine ws_lt (fun _ => ws_s (fun _ _ _ => rofw_rf)) (fun c => ws_l (ws_le (fun _ => ws_s (fun _ _ _ => rofw_rf)) (fun c2 => ws_l (ws_s (fun ra rb hA => ⟨fun b q => ?_, fun _ _ _ => rfl⟩)))))
  rw [hI_sI, if_neg (fun z => q (by rw [z.2]; exact hA))]
theorem t_X5_shorten_R {ra rb : List Nat} (Γ : hp_G) (l : Launch) (α : hp_T) (g : GC α) (a0 : Nat) (k0 : hp_K α a0 = 6) (a1 : Int32) (oA : a0 ∈ ra) (oB : hp_R α 300 a0 ∈ rb) : Met l yX5_shorten (hp_ws yX5_shorten cX5_shorten 2 none) (hp_rm 0 0 0) (hp_Pc Γ α [.ref a0, .int a1]) (hp_Qv Γ (fun β => cwr ra rb w_X5_shorten α β)) 0 0 (hp_A Γ) := by
  obtain ⟨res, h1, h2⟩ := tot_short 70000 α a0 a1
  exact hp_Qw (n_X5_shorten 70000 Γ l α g a0 k0 a1 res h1) (fun β h => ⟨h.2, by rw [h.1]; exact h2 ra rb oA⟩)
set_option maxRecDepth 100000 in
set_option maxHeartbeats 4000000 in
theorem t_X10_marksAlong_R {ra rb : List Nat} (Γ : hp_G) (l : Launch) (α : hp_T) (g : GC α) (a0 : Nat) (k0 : hp_K α a0 = 11) (a1 : Nat) (k1 : hp_K α a1 = 9) (o2 : Option Nat) (k2 : ∀ b, o2 = some b → hp_K α b = 3) (a3 : Nat) (k3 : hp_K α a3 = 6) (oA : a3 ∈ ra) (oB : hp_R α 300 a3 ∈ rb) : Met l yX10_marksAlong (hp_ws yX10_marksAlong cX10_marksAlong 5 none) (hp_rm 2 0 0) (hp_Pc Γ α [.ref a0, .ref a1, va_rf o2, .ref a3]) (hp_Qv Γ (fun β => cwr ra rb w_X10_marksAlong α β)) 0 0 (hp_A Γ) := by
  refine hp_start (by decide) ?_
  intro p e s m below meth c C hr hlk B0 hnm
  have C : hp_C Γ p m c cX10_marksAlong 5 s ([.ref a0, .ref a1, va_rf o2, .ref a3] : List Value).toArray RX10 := C
  have hx := C.1.1
  have hb := C.1.2.1
  have hown := C.1.2.2.2.1
  have hts := C.1.2.2.2.2
  have B : hp_B Γ (cwr ra rb w_X10_marksAlong) s α α s.heap [] := ⟨B0.1, B0.2.1, cw_rf g, rofw_rf⟩
  have lit0 : (0 : Int32).toInt = 0 := by decide
  have lit1 : (1 : Int32).toInt = 1 := by decide
  rcases o2 with _ | a2
  ·
    have hl := lv_entry ([.ref a0, .ref a1, .null, .ref a3]) (n := 5) (Nat.le_of_ble_eq_true rfl)
    show W p l e (hp_rm 2 0 0) s m ([.ref a0, .ref a1, .null, .ref a3] : List Value).toArray below meth c s.heap [] 0 0 (MQ below (hp_Qv Γ (fun β => cwr ra rb w_X10_marksAlong α β)) ([.ref a0, .ref a1, .null, .ref a3] : List Value).toArray s 0 0 (hp_A Γ)) (entryFrame m ([.ref a0, .ref a1, .null, .ref a3] : List Value).toArray 5)
    rw [lg_entry_eq]
    generalize (lg_sl ([.ref a0, .ref a1, .null, .ref a3]) ++ List.replicate (5 - (lg_sl ([.ref a0, .ref a1, .null, .ref a3])).length) Slot.unset).toArray = ls at hl ⊢
    have hl : lv_has ls 5 [(0, .ref a0), (1, .ref a1), (2, .null), (3, .ref a3)] := hl
    refine lv_aload_n hx hb dX10_marksAlong_0 rfl (lv_at hl 3 rfl) (hp_n (n := 1) rfl ?_)
    refine lv_iconst (v := 0) hx hb dX10_marksAlong_1 (by decide) (hp_n (n := 2) rfl ?_)
    refine q_cv (pc' := 5) B (hp_runV (As := [.int 0]) (rest := []) C B (t_X5_shorten_R (ra := ra) (rb := rb) Γ l α B.2.2.1.1 a3 (cw_k B.2.2.1 k3) 0 oA (by rw [cw_R B.2.2.1 _ (by decide)]; exact oB)) lb_X5_shorten lv_X5_shorten lk_X10_96 (cw_k B.2.2.1 k3) rfl (by decide) rfl hl.1 rfl (Nat.le_of_ble_eq_true rfl) dX10_marksAlong_2 ⟨Nat.le_refl _, Nat.le_refl _⟩) (fun _ h => ⟨cw_tr B.2.2.1 h.1 (by decide), rofw_tr B.2.2.2 h.2⟩) rfl (fun αh_1 Hh_1 Lh_1 ph_1 Bh_1 => ?_)
    refine lv_iconst (v := 0) hx hb dX10_marksAlong_5 (by decide) (hp_n (n := 6) rfl ?_)
    have J8 : ∀ (nq : Nat) (αh_2 : hp_T) (Hh_2 : Heap) (Lh_2 : List Loc) (Bh_2 : hp_B Γ (cwr ra rb w_X10_marksAlong) s α αh_2 Hh_2 Lh_2) (v4_h_2 : Int32) (ih_2_0 : 0 ≤ v4_h_2.toInt) (ls : Array Slot) (hl : lv_has ls 5 [(0, .ref a0), (1, .ref a1), (2, .null), (3, .ref a3), (4, .int v4_h_2)]) (hmu8 : (2147483647 - v4_h_2.toInt).toNat = nq), W p l e (hp_rm 2 0 0) s m ([.ref a0, .ref a1, .null, .ref a3] : List Value).toArray below meth c Hh_2 Lh_2 0 0 (MQ below (hp_Qv Γ (fun β => cwr ra rb w_X10_marksAlong α β)) ([.ref a0, .ref a1, .null, .ref a3] : List Value).toArray s 0 0 (hp_A Γ)) (F0 m 8 ls []) := by
      intro nq
      induction nq using Nat.strongRecOn with
      | ind nq ih8 =>
      intro αh_2 Hh_2 Lh_2 Bh_2 v4_h_2 ih_2_0 ls hl hmu8
      have inv8_0 := ih_2_0
      refine lv_iload hx hb dX10_marksAlong_8 (lv_at hl 4 rfl) (hp_n (n := 10) rfl ?_)
      refine lv_aload_n hx hb dX10_marksAlong_10 rfl (lv_at hl 1 rfl) (hp_n (n := 11) rfl ?_)
      refine q_geti (κ := 9) (k := 3) (φ := 453) (pc' := 14) C Bh_2 (cw_k Bh_2.2.2.1 k1) fl_X10_111 rfl rfl rfl dX10_marksAlong_11 rfl (fun x_3 ex_3 => ?_)
      obtain ⟨gx_3a, gx_3b⟩ : 0 ≤ x_3.toInt ∧ x_3.toInt ≤ 64 := by rw [ex_3]; exact Bh_2.2.2.1.1.1 453 a1 rfl
      refine lv_icmp_ge (tgt := 44) hx hb dX10_marksAlong_14 (by decide) (fun c_4 => ?_) (fun c_4 => hp_n (n := 17) rfl ?_)
      ·
        have jc_4 := il_le c_4
        exact q_vret C Bh_2 hr hlk Bh_2.2.2 dX10_marksAlong_44
      ·
        have jc_4 := il_nle c_4
        refine lv_aload_n hx hb dX10_marksAlong_17 rfl (lv_at hl 3 rfl) (hp_n (n := 18) rfl ?_)
        refine lv_aload_n hx hb dX10_marksAlong_18 rfl (lv_at hl 0 rfl) (hp_n (n := 19) rfl ?_)
        refine lv_aload_nN hx hb dX10_marksAlong_19 rfl (lv_at hl 2 rfl) (hp_n (n := 20) rfl ?_)
        refine lv_aload_n hx hb dX10_marksAlong_20 rfl (lv_at hl 1 rfl) (hp_n (n := 21) rfl ?_)
        refine lv_iload hx hb dX10_marksAlong_21 (lv_at hl 4 rfl) (hp_n (n := 23) rfl ?_)
        refine q_ci (pc' := 26) Bh_2 (hp_runV (As := [.int v4_h_2]) (rest := [.null, .ref a0, .ref a3]) C Bh_2 (t_X8_firstAt Γ l αh_2 Bh_2.2.2.1.1 a1 (cw_k Bh_2.2.2.1 k1) v4_h_2) lb_X8_firstAt lv_X8_firstAt lk_X10_114 (cw_k Bh_2.2.2.1 k1) rfl (by decide) rfl hl.1 rfl (Nat.le_of_ble_eq_true rfl) dX10_marksAlong_23 ⟨Nat.le_refl _, Nat.le_refl _⟩) (fun _ _ h => by rw [h]; exact Bh_2.2.2) rfl (fun rh_5 αh_5 Hh_5 Lh_5 ph_5 Bh_5 => ?_)
        rw [ph_5] at Bh_5
        refine lv_aload_n hx hb dX10_marksAlong_26 rfl (lv_at hl 1 rfl) (hp_n (n := 27) rfl ?_)
        refine lv_iload hx hb dX10_marksAlong_27 (lv_at hl 4 rfl) (hp_n (n := 29) rfl ?_)
        refine q_ci (pc' := 32) Bh_5 (hp_runV (As := [.int v4_h_2]) (rest := [.int rh_5, .null, .ref a0, .ref a3]) C Bh_5 (t_X8_manyAt Γ l αh_2 Bh_5.2.2.1.1 a1 (cw_k Bh_5.2.2.1 k1) v4_h_2) lb_X8_manyAt lv_X8_manyAt lk_X10_117 (cw_k Bh_5.2.2.1 k1) rfl (by decide) rfl hl.1 rfl (Nat.le_of_ble_eq_true rfl) dX10_marksAlong_29 ⟨Nat.le_refl _, Nat.le_refl _⟩) (fun _ _ h => by rw [h]; exact Bh_5.2.2) rfl (fun rh_6 αh_6 Hh_6 Lh_6 ph_6 Bh_6 => ?_)
        rw [ph_6] at Bh_6
        refine q_ci (pc' := 35) Bh_6 (hp_runV (As := [va_rf none, .int rh_5, .int rh_6]) (rest := [.ref a3]) C Bh_6 (t_X10_treeMark Γ l αh_2 Bh_6.2.2.1.1 a0 (cw_k Bh_6.2.2.1 k0) none (fun b h => by cases h) rh_5 rh_6) lb_X10_treeMark lv_X10_treeMark lk_X10_100 (cw_k Bh_6.2.2.1 k0) rfl (by decide) rfl hl.1 rfl (Nat.le_of_ble_eq_true rfl) dX10_marksAlong_32 ⟨Nat.le_refl _, Nat.le_refl _⟩) (fun _ _ h => ⟨cw_tr Bh_6.2.2.1 h (by decide), rofw_tr Bh_6.2.2.2 (rofw_cw h (by decide))⟩) rfl (fun rh_7 αh_7 Hh_7 Lh_7 ph_7 Bh_7 => ?_)
        refine q_cv (pc' := 38) Bh_7 (hp_runV (As := [.int rh_7]) (rest := []) C Bh_7 (t_X5_put_R (ra := ra) (rb := rb) Γ l αh_7 Bh_7.2.2.1.1 a3 (cw_k Bh_7.2.2.1 k3) rh_7 oA (by rw [cw_R Bh_7.2.2.1 _ (by decide)]; exact oB)) lb_X5_put lv_X5_put lk_X10_104 (cw_k Bh_7.2.2.1 k3) rfl (by decide) rfl hl.1 rfl (Nat.le_of_ble_eq_true rfl) dX10_marksAlong_35 ⟨Nat.le_refl _, Nat.le_refl _⟩) (fun _ h => ⟨cw_tr Bh_7.2.2.1 h.1 (by decide), rofw_tr Bh_7.2.2.2 h.2⟩) rfl (fun αh_8 Hh_8 Lh_8 ph_8 Bh_8 => ?_)
        obtain ⟨x_9, ex_9⟩ : ∃ y : Int32, y = v4_h_2 + 1 := ⟨_, rfl⟩
        have qx_9 : x_9.toInt = v4_h_2.toInt + 1 := by have q0 := ib_hi x_3; have qa := ib_lo v4_h_2; rw [ex_9]; exact ii_add (by omega) (by omega)
        refine lv_iinc (v := x_9) (lv' := [(4, .int x_9), (0, .ref a0), (1, .ref a1), (2, .null), (3, .ref a3)]) hx hb dX10_marksAlong_38 hl (k := 4) rfl (by rw [ex_9]; rfl) (by decide) rfl (fun ls hl => hp_n (n := 41) rfl ?_)
        refine lv_goto (tgt := 8) hx hb dX10_marksAlong_41 (by decide) ?_
        exact ih8 _ (by have q0 := ib_hi x_3; have q1 := ib_lo x_3; have qa := ib_hi v4_h_2; have qb := ib_lo v4_h_2; have qc : (v4_h_2 + 1).toInt = v4_h_2.toInt + (1 : Int32).toInt := ii_add (by omega) (by omega); rw [ex_9]; omega) αh_8 Hh_8 Lh_8 Bh_8 x_9 (by omega) ls (lv_sub hl [1, 2, 3, 4, 0] rfl) rfl
    refine lv_istore (lv' := [(4, .int 0), (0, .ref a0), (1, .ref a1), (2, .null), (3, .ref a3)]) hx hb dX10_marksAlong_6 hl (by decide) rfl (fun ls hl => hp_n (n := 8) rfl ?_)
    exact J8 _ αh_1 Hh_1 Lh_1 Bh_1 0 (by omega) ls (lv_sub hl [1, 2, 3, 4, 0] rfl) rfl
  ·
    have ka2 := k2 a2 rfl
    have hl := lv_entry ([.ref a0, .ref a1, .ref a2, .ref a3]) (n := 5) (Nat.le_of_ble_eq_true rfl)
    show W p l e (hp_rm 2 0 0) s m ([.ref a0, .ref a1, .ref a2, .ref a3] : List Value).toArray below meth c s.heap [] 0 0 (MQ below (hp_Qv Γ (fun β => cwr ra rb w_X10_marksAlong α β)) ([.ref a0, .ref a1, .ref a2, .ref a3] : List Value).toArray s 0 0 (hp_A Γ)) (entryFrame m ([.ref a0, .ref a1, .ref a2, .ref a3] : List Value).toArray 5)
    rw [lg_entry_eq]
    generalize (lg_sl ([.ref a0, .ref a1, .ref a2, .ref a3]) ++ List.replicate (5 - (lg_sl ([.ref a0, .ref a1, .ref a2, .ref a3])).length) Slot.unset).toArray = ls at hl ⊢
    have hl : lv_has ls 5 [(0, .ref a0), (1, .ref a1), (2, .ref a2), (3, .ref a3)] := hl
    refine lv_aload_n hx hb dX10_marksAlong_0 rfl (lv_at hl 3 rfl) (hp_n (n := 1) rfl ?_)
    refine lv_iconst (v := 0) hx hb dX10_marksAlong_1 (by decide) (hp_n (n := 2) rfl ?_)
    refine q_cv (pc' := 5) B (hp_runV (As := [.int 0]) (rest := []) C B (t_X5_shorten_R (ra := ra) (rb := rb) Γ l α B.2.2.1.1 a3 (cw_k B.2.2.1 k3) 0 oA (by rw [cw_R B.2.2.1 _ (by decide)]; exact oB)) lb_X5_shorten lv_X5_shorten lk_X10_96 (cw_k B.2.2.1 k3) rfl (by decide) rfl hl.1 rfl (Nat.le_of_ble_eq_true rfl) dX10_marksAlong_2 ⟨Nat.le_refl _, Nat.le_refl _⟩) (fun _ h => ⟨cw_tr B.2.2.1 h.1 (by decide), rofw_tr B.2.2.2 h.2⟩) rfl (fun αh_10 Hh_10 Lh_10 ph_10 Bh_10 => ?_)
    refine lv_iconst (v := 0) hx hb dX10_marksAlong_5 (by decide) (hp_n (n := 6) rfl ?_)
    have J8 : ∀ (nq : Nat) (αh_11 : hp_T) (Hh_11 : Heap) (Lh_11 : List Loc) (Bh_11 : hp_B Γ (cwr ra rb w_X10_marksAlong) s α αh_11 Hh_11 Lh_11) (v4_h_11 : Int32) (ih_11_0 : 0 ≤ v4_h_11.toInt) (ls : Array Slot) (hl : lv_has ls 5 [(0, .ref a0), (1, .ref a1), (2, .ref a2), (3, .ref a3), (4, .int v4_h_11)]) (hmu8 : (2147483647 - v4_h_11.toInt).toNat = nq), W p l e (hp_rm 2 0 0) s m ([.ref a0, .ref a1, .ref a2, .ref a3] : List Value).toArray below meth c Hh_11 Lh_11 0 0 (MQ below (hp_Qv Γ (fun β => cwr ra rb w_X10_marksAlong α β)) ([.ref a0, .ref a1, .ref a2, .ref a3] : List Value).toArray s 0 0 (hp_A Γ)) (F0 m 8 ls []) := by
      intro nq
      induction nq using Nat.strongRecOn with
      | ind nq ih8 =>
      intro αh_11 Hh_11 Lh_11 Bh_11 v4_h_11 ih_11_0 ls hl hmu8
      have inv8_0 := ih_11_0
      refine lv_iload hx hb dX10_marksAlong_8 (lv_at hl 4 rfl) (hp_n (n := 10) rfl ?_)
      refine lv_aload_n hx hb dX10_marksAlong_10 rfl (lv_at hl 1 rfl) (hp_n (n := 11) rfl ?_)
      refine q_geti (κ := 9) (k := 3) (φ := 453) (pc' := 14) C Bh_11 (cw_k Bh_11.2.2.1 k1) fl_X10_111 rfl rfl rfl dX10_marksAlong_11 rfl (fun x_12 ex_12 => ?_)
      obtain ⟨gx_12a, gx_12b⟩ : 0 ≤ x_12.toInt ∧ x_12.toInt ≤ 64 := by rw [ex_12]; exact Bh_11.2.2.1.1.1 453 a1 rfl
      refine lv_icmp_ge (tgt := 44) hx hb dX10_marksAlong_14 (by decide) (fun c_13 => ?_) (fun c_13 => hp_n (n := 17) rfl ?_)
      ·
        have jc_13 := il_le c_13
        exact q_vret C Bh_11 hr hlk Bh_11.2.2 dX10_marksAlong_44
      ·
        have jc_13 := il_nle c_13
        refine lv_aload_n hx hb dX10_marksAlong_17 rfl (lv_at hl 3 rfl) (hp_n (n := 18) rfl ?_)
        refine lv_aload_n hx hb dX10_marksAlong_18 rfl (lv_at hl 0 rfl) (hp_n (n := 19) rfl ?_)
        refine lv_aload_n hx hb dX10_marksAlong_19 rfl (lv_at hl 2 rfl) (hp_n (n := 20) rfl ?_)
        refine lv_aload_n hx hb dX10_marksAlong_20 rfl (lv_at hl 1 rfl) (hp_n (n := 21) rfl ?_)
        refine lv_iload hx hb dX10_marksAlong_21 (lv_at hl 4 rfl) (hp_n (n := 23) rfl ?_)
        refine q_ci (pc' := 26) Bh_11 (hp_runV (As := [.int v4_h_11]) (rest := [.ref a2, .ref a0, .ref a3]) C Bh_11 (t_X8_firstAt Γ l αh_11 Bh_11.2.2.1.1 a1 (cw_k Bh_11.2.2.1 k1) v4_h_11) lb_X8_firstAt lv_X8_firstAt lk_X10_114 (cw_k Bh_11.2.2.1 k1) rfl (by decide) rfl hl.1 rfl (Nat.le_of_ble_eq_true rfl) dX10_marksAlong_23 ⟨Nat.le_refl _, Nat.le_refl _⟩) (fun _ _ h => by rw [h]; exact Bh_11.2.2) rfl (fun rh_14 αh_14 Hh_14 Lh_14 ph_14 Bh_14 => ?_)
        rw [ph_14] at Bh_14
        refine lv_aload_n hx hb dX10_marksAlong_26 rfl (lv_at hl 1 rfl) (hp_n (n := 27) rfl ?_)
        refine lv_iload hx hb dX10_marksAlong_27 (lv_at hl 4 rfl) (hp_n (n := 29) rfl ?_)
        refine q_ci (pc' := 32) Bh_14 (hp_runV (As := [.int v4_h_11]) (rest := [.int rh_14, .ref a2, .ref a0, .ref a3]) C Bh_14 (t_X8_manyAt Γ l αh_11 Bh_14.2.2.1.1 a1 (cw_k Bh_14.2.2.1 k1) v4_h_11) lb_X8_manyAt lv_X8_manyAt lk_X10_117 (cw_k Bh_14.2.2.1 k1) rfl (by decide) rfl hl.1 rfl (Nat.le_of_ble_eq_true rfl) dX10_marksAlong_29 ⟨Nat.le_refl _, Nat.le_refl _⟩) (fun _ _ h => by rw [h]; exact Bh_14.2.2) rfl (fun rh_15 αh_15 Hh_15 Lh_15 ph_15 Bh_15 => ?_)
        rw [ph_15] at Bh_15
        refine q_ci (pc' := 35) Bh_15 (hp_runV (As := [va_rf (some a2), .int rh_14, .int rh_15]) (rest := [.ref a3]) C Bh_15 (t_X10_treeMark Γ l αh_11 Bh_15.2.2.1.1 a0 (cw_k Bh_15.2.2.1 k0) (some a2) (fun b h => by cases h; exact (cw_k Bh_15.2.2.1 ka2)) rh_14 rh_15) lb_X10_treeMark lv_X10_treeMark lk_X10_100 (cw_k Bh_15.2.2.1 k0) rfl (by decide) rfl hl.1 rfl (Nat.le_of_ble_eq_true rfl) dX10_marksAlong_32 ⟨Nat.le_refl _, Nat.le_refl _⟩) (fun _ _ h => ⟨cw_tr Bh_15.2.2.1 h (by decide), rofw_tr Bh_15.2.2.2 (rofw_cw h (by decide))⟩) rfl (fun rh_16 αh_16 Hh_16 Lh_16 ph_16 Bh_16 => ?_)
        refine q_cv (pc' := 38) Bh_16 (hp_runV (As := [.int rh_16]) (rest := []) C Bh_16 (t_X5_put_R (ra := ra) (rb := rb) Γ l αh_16 Bh_16.2.2.1.1 a3 (cw_k Bh_16.2.2.1 k3) rh_16 oA (by rw [cw_R Bh_16.2.2.1 _ (by decide)]; exact oB)) lb_X5_put lv_X5_put lk_X10_104 (cw_k Bh_16.2.2.1 k3) rfl (by decide) rfl hl.1 rfl (Nat.le_of_ble_eq_true rfl) dX10_marksAlong_35 ⟨Nat.le_refl _, Nat.le_refl _⟩) (fun _ h => ⟨cw_tr Bh_16.2.2.1 h.1 (by decide), rofw_tr Bh_16.2.2.2 h.2⟩) rfl (fun αh_17 Hh_17 Lh_17 ph_17 Bh_17 => ?_)
        obtain ⟨x_18, ex_18⟩ : ∃ y : Int32, y = v4_h_11 + 1 := ⟨_, rfl⟩
        have qx_18 : x_18.toInt = v4_h_11.toInt + 1 := by have q0 := ib_hi x_12; have qa := ib_lo v4_h_11; rw [ex_18]; exact ii_add (by omega) (by omega)
        refine lv_iinc (v := x_18) (lv' := [(4, .int x_18), (0, .ref a0), (1, .ref a1), (2, .ref a2), (3, .ref a3)]) hx hb dX10_marksAlong_38 hl (k := 4) rfl (by rw [ex_18]; rfl) (by decide) rfl (fun ls hl => hp_n (n := 41) rfl ?_)
        refine lv_goto (tgt := 8) hx hb dX10_marksAlong_41 (by decide) ?_
        exact ih8 _ (by have q0 := ib_hi x_12; have q1 := ib_lo x_12; have qa := ib_hi v4_h_11; have qb := ib_lo v4_h_11; have qc : (v4_h_11 + 1).toInt = v4_h_11.toInt + (1 : Int32).toInt := ii_add (by omega) (by omega); rw [ex_18]; omega) αh_17 Hh_17 Lh_17 Bh_17 x_18 (by omega) ls (lv_sub hl [1, 2, 3, 4, 0] rfl) rfl
    refine lv_istore (lv' := [(4, .int 0), (0, .ref a0), (1, .ref a1), (2, .ref a2), (3, .ref a3)]) hx hb dX10_marksAlong_6 hl (by decide) rfl (fun ls hl => hp_n (n := 8) rfl ?_)
    exact J8 _ αh_10 Hh_10 Lh_10 Bh_10 0 (by omega) ls (lv_sub hl [1, 2, 3, 4, 0] rfl) rfl
set_option maxRecDepth 100000 in
set_option maxHeartbeats 4000000 in
theorem t_X10_peaksOf_R {ra rb : List Nat} (Γ : hp_G) (l : Launch) (α : hp_T) (g : GC α) (a0 : Nat) (k0 : hp_K α a0 = 11) (o1 : Option Nat) (k1 : ∀ b, o1 = some b → hp_K α b = 3) (a2 : Int32) (a3 : Nat) (k3 : hp_K α a3 = 6) (oA : a3 ∈ ra) (oB : hp_R α 300 a3 ∈ rb) : Met l yX10_peaksOf (hp_ws yX10_peaksOf cX10_peaksOf 6 none) (hp_rm 2 0 0) (hp_Pc Γ α [.ref a0, va_rf o1, .int a2, .ref a3]) (hp_Qv Γ (fun β => cwr ra rb w_X10_peaksOf α β)) 0 0 (hp_A Γ) := by
  refine hp_start (by decide) ?_
  intro p e s m below meth c C hr hlk B0 hnm
  have C : hp_C Γ p m c cX10_peaksOf 6 s ([.ref a0, va_rf o1, .int a2, .ref a3] : List Value).toArray RX10 := C
  have hx := C.1.1
  have hb := C.1.2.1
  have hown := C.1.2.2.2.1
  have hts := C.1.2.2.2.2
  have B : hp_B Γ (cwr ra rb w_X10_peaksOf) s α α s.heap [] := ⟨B0.1, B0.2.1, cw_rf g, rofw_rf⟩
  have lit0 : (0 : Int32).toInt = 0 := by decide
  have lit2 : (2 : Int32).toInt = 2 := by decide
  have lit32 : (32 : Int32).toInt = 32 := by decide
  rcases o1 with _ | a1
  ·
    have hl := lv_entry ([.ref a0, .null, .int a2, .ref a3]) (n := 6) (Nat.le_of_ble_eq_true rfl)
    show W p l e (hp_rm 2 0 0) s m ([.ref a0, .null, .int a2, .ref a3] : List Value).toArray below meth c s.heap [] 0 0 (MQ below (hp_Qv Γ (fun β => cwr ra rb w_X10_peaksOf α β)) ([.ref a0, .null, .int a2, .ref a3] : List Value).toArray s 0 0 (hp_A Γ)) (entryFrame m ([.ref a0, .null, .int a2, .ref a3] : List Value).toArray 6)
    rw [lg_entry_eq]
    generalize (lg_sl ([.ref a0, .null, .int a2, .ref a3]) ++ List.replicate (6 - (lg_sl ([.ref a0, .null, .int a2, .ref a3])).length) Slot.unset).toArray = ls at hl ⊢
    have hl : lv_has ls 6 [(0, .ref a0), (1, .null), (2, .int a2), (3, .ref a3)] := hl
    refine lv_aload_n hx hb dX10_peaksOf_0 rfl (lv_at hl 3 rfl) (hp_n (n := 1) rfl ?_)
    refine lv_iconst (v := 0) hx hb dX10_peaksOf_1 (by decide) (hp_n (n := 2) rfl ?_)
    refine q_cv (pc' := 5) B (hp_runV (As := [.int 0]) (rest := []) C B (t_X5_shorten_R (ra := ra) (rb := rb) Γ l α B.2.2.1.1 a3 (cw_k B.2.2.1 k3) 0 oA (by rw [cw_R B.2.2.1 _ (by decide)]; exact oB)) lb_X5_shorten lv_X5_shorten lk_X10_96 (cw_k B.2.2.1 k3) rfl (by decide) rfl hl.1 rfl (Nat.le_of_ble_eq_true rfl) dX10_peaksOf_2 ⟨Nat.le_refl _, Nat.le_refl _⟩) (fun _ h => ⟨cw_tr B.2.2.1 h.1 (by decide), rofw_tr B.2.2.2 h.2⟩) rfl (fun αh_1 Hh_1 Lh_1 ph_1 Bh_1 => ?_)
    refine lv_iconst (v := 0) hx hb dX10_peaksOf_5 (by decide) (hp_n (n := 6) rfl ?_)
    refine lv_istore (lv' := [(4, .int 0), (0, .ref a0), (1, .null), (2, .int a2), (3, .ref a3)]) hx hb dX10_peaksOf_6 hl (by decide) rfl (fun ls hl => hp_n (n := 8) rfl ?_)
    refine lv_bipush (v := 32) hx hb dX10_peaksOf_8 (by decide) (hp_n (n := 10) rfl ?_)
    have J12 : ∀ (nq : Nat) (αh_2 : hp_T) (Hh_2 : Heap) (Lh_2 : List Loc) (Bh_2 : hp_B Γ (cwr ra rb w_X10_peaksOf) s α αh_2 Hh_2 Lh_2) (v4_h_2 : Int32) (v5_h_2 : Int32) (ls : Array Slot) (hl : lv_has ls 6 [(0, .ref a0), (1, .null), (2, .int a2), (3, .ref a3), (4, .int v4_h_2), (5, .int v5_h_2)]) (hmu12 : v5_h_2.toInt.toNat = nq), W p l e (hp_rm 2 0 0) s m ([.ref a0, .null, .int a2, .ref a3] : List Value).toArray below meth c Hh_2 Lh_2 0 0 (MQ below (hp_Qv Γ (fun β => cwr ra rb w_X10_peaksOf α β)) ([.ref a0, .null, .int a2, .ref a3] : List Value).toArray s 0 0 (hp_A Γ)) (F0 m 12 ls []) := by
      intro nq
      induction nq using Nat.strongRecOn with
      | ind nq ih12 =>
      intro αh_2 Hh_2 Lh_2 Bh_2 v4_h_2 v5_h_2 ls hl hmu12
      refine lv_iload hx hb dX10_peaksOf_12 (lv_at hl 5 rfl) (hp_n (n := 14) rfl ?_)
      refine lv_if_le (tgt := 53) hx hb dX10_peaksOf_14 (by decide) (fun c_3 => ?_) (fun c_3 => hp_n (n := 17) rfl ?_)
      ·
        have jc_3 := il_le c_3
        exact q_vret C Bh_2 hr hlk Bh_2.2.2 dX10_peaksOf_53
      ·
        have jc_3 := il_nle c_3
        refine lv_iload_n hx hb dX10_peaksOf_17 rfl (lv_at hl 2 rfl) (hp_n (n := 18) rfl ?_)
        refine lv_iload hx hb dX10_peaksOf_18 (lv_at hl 5 rfl) (hp_n (n := 20) rfl ?_)
        refine lv_iand hx hb dX10_peaksOf_20 (hp_n (n := 21) rfl (lv_topi (fun x_4 ex_4 => ?_)))
        have J44 : ∀ (αh_5 : hp_T) (Hh_5 : Heap) (Lh_5 : List Loc) (Bh_5 : hp_B Γ (cwr ra rb w_X10_peaksOf) s α αh_5 Hh_5 Lh_5) (v4_h_5 : Int32) (ls : Array Slot) (hl : lv_has ls 6 [(0, .ref a0), (1, .null), (2, .int a2), (3, .ref a3), (4, .int v4_h_5), (5, .int v5_h_2)]), W p l e (hp_rm 2 0 0) s m ([.ref a0, .null, .int a2, .ref a3] : List Value).toArray below meth c Hh_5 Lh_5 0 0 (MQ below (hp_Qv Γ (fun β => cwr ra rb w_X10_peaksOf α β)) ([.ref a0, .null, .int a2, .ref a3] : List Value).toArray s 0 0 (hp_A Γ)) (F0 m 44 ls []) := by
          intro αh_5 Hh_5 Lh_5 Bh_5 v4_h_5 ls hl
          refine lv_iload hx hb dX10_peaksOf_44 (lv_at hl 5 rfl) (hp_n (n := 46) rfl ?_)
          refine lv_iconst (v := 2) hx hb dX10_peaksOf_46 (by decide) (hp_n (n := 47) rfl ?_)
          refine lv_idiv hx hb dX10_peaksOf_47 (by decide) (hp_n (n := 48) rfl (lv_topi (fun x_6 ex_6 => ?_)))
          refine lv_istore (lv' := [(5, .int x_6), (0, .ref a0), (1, .null), (2, .int a2), (3, .ref a3), (4, .int v4_h_5)]) hx hb dX10_peaksOf_48 hl (by decide) rfl (fun ls hl => hp_n (n := 50) rfl ?_)
          refine lv_goto (tgt := 12) hx hb dX10_peaksOf_50 (by decide) ?_
          exact ih12 _ (by rw [ex_6]; have q1 := id_lt2 (x := v5_h_2) (by omega); omega) αh_5 Hh_5 Lh_5 Bh_5 v4_h_5 x_6 ls (lv_sub hl [1, 2, 3, 4, 5, 0] rfl) rfl
        refine lv_if_eq (tgt := 44) hx hb dX10_peaksOf_21 (by decide) (fun c_7 => ?_) (fun c_7 => hp_n (n := 24) rfl ?_)
        ·
          have jc_7 := il_eq c_7
          exact J44 αh_2 Hh_2 Lh_2 Bh_2 v4_h_2 ls (lv_sub hl [0, 1, 2, 3, 4, 5] rfl)
        ·
          have jc_7 := il_ne c_7
          refine lv_aload_n hx hb dX10_peaksOf_24 rfl (lv_at hl 3 rfl) (hp_n (n := 25) rfl ?_)
          refine lv_aload_n hx hb dX10_peaksOf_25 rfl (lv_at hl 0 rfl) (hp_n (n := 26) rfl ?_)
          refine lv_aload_nN hx hb dX10_peaksOf_26 rfl (lv_at hl 1 rfl) (hp_n (n := 27) rfl ?_)
          refine lv_iload hx hb dX10_peaksOf_27 (lv_at hl 4 rfl) (hp_n (n := 29) rfl ?_)
          refine lv_iload hx hb dX10_peaksOf_29 (lv_at hl 5 rfl) (hp_n (n := 31) rfl ?_)
          refine q_ci (pc' := 34) Bh_2 (hp_runV (As := [va_rf none, .int v4_h_2, .int v5_h_2]) (rest := [.ref a3]) C Bh_2 (t_X10_treeMark Γ l αh_2 Bh_2.2.2.1.1 a0 (cw_k Bh_2.2.2.1 k0) none (fun b h => by cases h) v4_h_2 v5_h_2) lb_X10_treeMark lv_X10_treeMark lk_X10_100 (cw_k Bh_2.2.2.1 k0) rfl (by decide) rfl hl.1 rfl (Nat.le_of_ble_eq_true rfl) dX10_peaksOf_31 ⟨Nat.le_refl _, Nat.le_refl _⟩) (fun _ _ h => ⟨cw_tr Bh_2.2.2.1 h (by decide), rofw_tr Bh_2.2.2.2 (rofw_cw h (by decide))⟩) rfl (fun rh_8 αh_8 Hh_8 Lh_8 ph_8 Bh_8 => ?_)
          refine q_cv (pc' := 37) Bh_8 (hp_runV (As := [.int rh_8]) (rest := []) C Bh_8 (t_X5_put_R (ra := ra) (rb := rb) Γ l αh_8 Bh_8.2.2.1.1 a3 (cw_k Bh_8.2.2.1 k3) rh_8 oA (by rw [cw_R Bh_8.2.2.1 _ (by decide)]; exact oB)) lb_X5_put lv_X5_put lk_X10_104 (cw_k Bh_8.2.2.1 k3) rfl (by decide) rfl hl.1 rfl (Nat.le_of_ble_eq_true rfl) dX10_peaksOf_34 ⟨Nat.le_refl _, Nat.le_refl _⟩) (fun _ h => ⟨cw_tr Bh_8.2.2.1 h.1 (by decide), rofw_tr Bh_8.2.2.2 h.2⟩) rfl (fun αh_9 Hh_9 Lh_9 ph_9 Bh_9 => ?_)
          refine lv_iload hx hb dX10_peaksOf_37 (lv_at hl 4 rfl) (hp_n (n := 39) rfl ?_)
          refine lv_iload hx hb dX10_peaksOf_39 (lv_at hl 5 rfl) (hp_n (n := 41) rfl ?_)
          refine lv_iadd hx hb dX10_peaksOf_41 (hp_n (n := 42) rfl (lv_topi (fun x_10 ex_10 => ?_)))
          refine lv_istore (lv' := [(4, .int x_10), (0, .ref a0), (1, .null), (2, .int a2), (3, .ref a3), (5, .int v5_h_2)]) hx hb dX10_peaksOf_42 hl (by decide) rfl (fun ls hl => hp_n (n := 44) rfl ?_)
          exact J44 αh_9 Hh_9 Lh_9 Bh_9 x_10 ls (lv_sub hl [1, 2, 3, 4, 0, 5] rfl)
    refine lv_istore (lv' := [(5, .int 32), (4, .int 0), (0, .ref a0), (1, .null), (2, .int a2), (3, .ref a3)]) hx hb dX10_peaksOf_10 hl (by decide) rfl (fun ls hl => hp_n (n := 12) rfl ?_)
    exact J12 _ αh_1 Hh_1 Lh_1 Bh_1 0 32 ls (lv_sub hl [2, 3, 4, 5, 1, 0] rfl) rfl
  ·
    have ka1 := k1 a1 rfl
    have hl := lv_entry ([.ref a0, .ref a1, .int a2, .ref a3]) (n := 6) (Nat.le_of_ble_eq_true rfl)
    show W p l e (hp_rm 2 0 0) s m ([.ref a0, .ref a1, .int a2, .ref a3] : List Value).toArray below meth c s.heap [] 0 0 (MQ below (hp_Qv Γ (fun β => cwr ra rb w_X10_peaksOf α β)) ([.ref a0, .ref a1, .int a2, .ref a3] : List Value).toArray s 0 0 (hp_A Γ)) (entryFrame m ([.ref a0, .ref a1, .int a2, .ref a3] : List Value).toArray 6)
    rw [lg_entry_eq]
    generalize (lg_sl ([.ref a0, .ref a1, .int a2, .ref a3]) ++ List.replicate (6 - (lg_sl ([.ref a0, .ref a1, .int a2, .ref a3])).length) Slot.unset).toArray = ls at hl ⊢
    have hl : lv_has ls 6 [(0, .ref a0), (1, .ref a1), (2, .int a2), (3, .ref a3)] := hl
    refine lv_aload_n hx hb dX10_peaksOf_0 rfl (lv_at hl 3 rfl) (hp_n (n := 1) rfl ?_)
    refine lv_iconst (v := 0) hx hb dX10_peaksOf_1 (by decide) (hp_n (n := 2) rfl ?_)
    refine q_cv (pc' := 5) B (hp_runV (As := [.int 0]) (rest := []) C B (t_X5_shorten_R (ra := ra) (rb := rb) Γ l α B.2.2.1.1 a3 (cw_k B.2.2.1 k3) 0 oA (by rw [cw_R B.2.2.1 _ (by decide)]; exact oB)) lb_X5_shorten lv_X5_shorten lk_X10_96 (cw_k B.2.2.1 k3) rfl (by decide) rfl hl.1 rfl (Nat.le_of_ble_eq_true rfl) dX10_peaksOf_2 ⟨Nat.le_refl _, Nat.le_refl _⟩) (fun _ h => ⟨cw_tr B.2.2.1 h.1 (by decide), rofw_tr B.2.2.2 h.2⟩) rfl (fun αh_11 Hh_11 Lh_11 ph_11 Bh_11 => ?_)
    refine lv_iconst (v := 0) hx hb dX10_peaksOf_5 (by decide) (hp_n (n := 6) rfl ?_)
    refine lv_istore (lv' := [(4, .int 0), (0, .ref a0), (1, .ref a1), (2, .int a2), (3, .ref a3)]) hx hb dX10_peaksOf_6 hl (by decide) rfl (fun ls hl => hp_n (n := 8) rfl ?_)
    refine lv_bipush (v := 32) hx hb dX10_peaksOf_8 (by decide) (hp_n (n := 10) rfl ?_)
    have J12 : ∀ (nq : Nat) (αh_12 : hp_T) (Hh_12 : Heap) (Lh_12 : List Loc) (Bh_12 : hp_B Γ (cwr ra rb w_X10_peaksOf) s α αh_12 Hh_12 Lh_12) (v4_h_12 : Int32) (v5_h_12 : Int32) (ls : Array Slot) (hl : lv_has ls 6 [(0, .ref a0), (1, .ref a1), (2, .int a2), (3, .ref a3), (4, .int v4_h_12), (5, .int v5_h_12)]) (hmu12 : v5_h_12.toInt.toNat = nq), W p l e (hp_rm 2 0 0) s m ([.ref a0, .ref a1, .int a2, .ref a3] : List Value).toArray below meth c Hh_12 Lh_12 0 0 (MQ below (hp_Qv Γ (fun β => cwr ra rb w_X10_peaksOf α β)) ([.ref a0, .ref a1, .int a2, .ref a3] : List Value).toArray s 0 0 (hp_A Γ)) (F0 m 12 ls []) := by
      intro nq
      induction nq using Nat.strongRecOn with
      | ind nq ih12 =>
      intro αh_12 Hh_12 Lh_12 Bh_12 v4_h_12 v5_h_12 ls hl hmu12
      refine lv_iload hx hb dX10_peaksOf_12 (lv_at hl 5 rfl) (hp_n (n := 14) rfl ?_)
      refine lv_if_le (tgt := 53) hx hb dX10_peaksOf_14 (by decide) (fun c_13 => ?_) (fun c_13 => hp_n (n := 17) rfl ?_)
      ·
        have jc_13 := il_le c_13
        exact q_vret C Bh_12 hr hlk Bh_12.2.2 dX10_peaksOf_53
      ·
        have jc_13 := il_nle c_13
        refine lv_iload_n hx hb dX10_peaksOf_17 rfl (lv_at hl 2 rfl) (hp_n (n := 18) rfl ?_)
        refine lv_iload hx hb dX10_peaksOf_18 (lv_at hl 5 rfl) (hp_n (n := 20) rfl ?_)
        refine lv_iand hx hb dX10_peaksOf_20 (hp_n (n := 21) rfl (lv_topi (fun x_14 ex_14 => ?_)))
        have J44 : ∀ (αh_15 : hp_T) (Hh_15 : Heap) (Lh_15 : List Loc) (Bh_15 : hp_B Γ (cwr ra rb w_X10_peaksOf) s α αh_15 Hh_15 Lh_15) (v4_h_15 : Int32) (ls : Array Slot) (hl : lv_has ls 6 [(0, .ref a0), (1, .ref a1), (2, .int a2), (3, .ref a3), (4, .int v4_h_15), (5, .int v5_h_12)]), W p l e (hp_rm 2 0 0) s m ([.ref a0, .ref a1, .int a2, .ref a3] : List Value).toArray below meth c Hh_15 Lh_15 0 0 (MQ below (hp_Qv Γ (fun β => cwr ra rb w_X10_peaksOf α β)) ([.ref a0, .ref a1, .int a2, .ref a3] : List Value).toArray s 0 0 (hp_A Γ)) (F0 m 44 ls []) := by
          intro αh_15 Hh_15 Lh_15 Bh_15 v4_h_15 ls hl
          refine lv_iload hx hb dX10_peaksOf_44 (lv_at hl 5 rfl) (hp_n (n := 46) rfl ?_)
          refine lv_iconst (v := 2) hx hb dX10_peaksOf_46 (by decide) (hp_n (n := 47) rfl ?_)
          refine lv_idiv hx hb dX10_peaksOf_47 (by decide) (hp_n (n := 48) rfl (lv_topi (fun x_16 ex_16 => ?_)))
          refine lv_istore (lv' := [(5, .int x_16), (0, .ref a0), (1, .ref a1), (2, .int a2), (3, .ref a3), (4, .int v4_h_15)]) hx hb dX10_peaksOf_48 hl (by decide) rfl (fun ls hl => hp_n (n := 50) rfl ?_)
          refine lv_goto (tgt := 12) hx hb dX10_peaksOf_50 (by decide) ?_
          exact ih12 _ (by rw [ex_16]; have q1 := id_lt2 (x := v5_h_12) (by omega); omega) αh_15 Hh_15 Lh_15 Bh_15 v4_h_15 x_16 ls (lv_sub hl [1, 2, 3, 4, 5, 0] rfl) rfl
        refine lv_if_eq (tgt := 44) hx hb dX10_peaksOf_21 (by decide) (fun c_17 => ?_) (fun c_17 => hp_n (n := 24) rfl ?_)
        ·
          have jc_17 := il_eq c_17
          exact J44 αh_12 Hh_12 Lh_12 Bh_12 v4_h_12 ls (lv_sub hl [0, 1, 2, 3, 4, 5] rfl)
        ·
          have jc_17 := il_ne c_17
          refine lv_aload_n hx hb dX10_peaksOf_24 rfl (lv_at hl 3 rfl) (hp_n (n := 25) rfl ?_)
          refine lv_aload_n hx hb dX10_peaksOf_25 rfl (lv_at hl 0 rfl) (hp_n (n := 26) rfl ?_)
          refine lv_aload_n hx hb dX10_peaksOf_26 rfl (lv_at hl 1 rfl) (hp_n (n := 27) rfl ?_)
          refine lv_iload hx hb dX10_peaksOf_27 (lv_at hl 4 rfl) (hp_n (n := 29) rfl ?_)
          refine lv_iload hx hb dX10_peaksOf_29 (lv_at hl 5 rfl) (hp_n (n := 31) rfl ?_)
          refine q_ci (pc' := 34) Bh_12 (hp_runV (As := [va_rf (some a1), .int v4_h_12, .int v5_h_12]) (rest := [.ref a3]) C Bh_12 (t_X10_treeMark Γ l αh_12 Bh_12.2.2.1.1 a0 (cw_k Bh_12.2.2.1 k0) (some a1) (fun b h => by cases h; exact (cw_k Bh_12.2.2.1 ka1)) v4_h_12 v5_h_12) lb_X10_treeMark lv_X10_treeMark lk_X10_100 (cw_k Bh_12.2.2.1 k0) rfl (by decide) rfl hl.1 rfl (Nat.le_of_ble_eq_true rfl) dX10_peaksOf_31 ⟨Nat.le_refl _, Nat.le_refl _⟩) (fun _ _ h => ⟨cw_tr Bh_12.2.2.1 h (by decide), rofw_tr Bh_12.2.2.2 (rofw_cw h (by decide))⟩) rfl (fun rh_18 αh_18 Hh_18 Lh_18 ph_18 Bh_18 => ?_)
          refine q_cv (pc' := 37) Bh_18 (hp_runV (As := [.int rh_18]) (rest := []) C Bh_18 (t_X5_put_R (ra := ra) (rb := rb) Γ l αh_18 Bh_18.2.2.1.1 a3 (cw_k Bh_18.2.2.1 k3) rh_18 oA (by rw [cw_R Bh_18.2.2.1 _ (by decide)]; exact oB)) lb_X5_put lv_X5_put lk_X10_104 (cw_k Bh_18.2.2.1 k3) rfl (by decide) rfl hl.1 rfl (Nat.le_of_ble_eq_true rfl) dX10_peaksOf_34 ⟨Nat.le_refl _, Nat.le_refl _⟩) (fun _ h => ⟨cw_tr Bh_18.2.2.1 h.1 (by decide), rofw_tr Bh_18.2.2.2 h.2⟩) rfl (fun αh_19 Hh_19 Lh_19 ph_19 Bh_19 => ?_)
          refine lv_iload hx hb dX10_peaksOf_37 (lv_at hl 4 rfl) (hp_n (n := 39) rfl ?_)
          refine lv_iload hx hb dX10_peaksOf_39 (lv_at hl 5 rfl) (hp_n (n := 41) rfl ?_)
          refine lv_iadd hx hb dX10_peaksOf_41 (hp_n (n := 42) rfl (lv_topi (fun x_20 ex_20 => ?_)))
          refine lv_istore (lv' := [(4, .int x_20), (0, .ref a0), (1, .ref a1), (2, .int a2), (3, .ref a3), (5, .int v5_h_12)]) hx hb dX10_peaksOf_42 hl (by decide) rfl (fun ls hl => hp_n (n := 44) rfl ?_)
          exact J44 αh_19 Hh_19 Lh_19 Bh_19 x_20 ls (lv_sub hl [1, 2, 3, 4, 0, 5] rfl)
    refine lv_istore (lv' := [(5, .int 32), (4, .int 0), (0, .ref a0), (1, .ref a1), (2, .int a2), (3, .ref a3)]) hx hb dX10_peaksOf_10 hl (by decide) rfl (fun ls hl => hp_n (n := 12) rfl ?_)
    exact J12 _ αh_11 Hh_11 Lh_11 Bh_11 0 32 ls (lv_sub hl [2, 3, 4, 5, 1, 0] rfl) rfl
set_option maxRecDepth 100000 in
set_option maxHeartbeats 4000000 in
theorem t_X10_sickBits_R {ra rb : List Nat} (Γ : hp_G) (l : Launch) (α : hp_T) (g : GC α) (a0 : Nat) (k0 : hp_K α a0 = 11) (a1 : Nat) (k1 : hp_K α a1 = 2) (a2 : Nat) (k2 : hp_K α a2 = 6) (oA : a2 ∈ ra) (oB : hp_R α 300 a2 ∈ rb) : Met l yX10_sickBits (hp_ws yX10_sickBits cX10_sickBits 5 (some .int)) (hp_rm 3 0 0) (hp_Pc Γ α [.ref a0, .ref a1, .ref a2]) (hp_Qi Γ (fun r β => cwr ra rb w_X10_sickBits α β)) 0 0 (hp_A Γ) := by
  refine hp_start (by decide) ?_
  intro p e s m below meth c C hr hlk B0 hnm
  have C : hp_C Γ p m c cX10_sickBits 5 s ([.ref a0, .ref a1, .ref a2] : List Value).toArray RX10 := C
  have hx := C.1.1
  have hb := C.1.2.1
  have hown := C.1.2.2.2.1
  have hts := C.1.2.2.2.2
  have B : hp_B Γ (cwr ra rb w_X10_sickBits) s α α s.heap [] := ⟨B0.1, B0.2.1, cw_rf g, rofw_rf⟩
  have lit0 : (0 : Int32).toInt = 0 := by decide
  have lit1 : (1 : Int32).toInt = 1 := by decide
  have lit31 : (31 : Int32).toInt = 31 := by decide
  have hl := lv_entry ([.ref a0, .ref a1, .ref a2]) (n := 5) (Nat.le_of_ble_eq_true rfl)
  show W p l e (hp_rm 3 0 0) s m ([.ref a0, .ref a1, .ref a2] : List Value).toArray below meth c s.heap [] 0 0 (MQ below (hp_Qi Γ (fun r β => cwr ra rb w_X10_sickBits α β)) ([.ref a0, .ref a1, .ref a2] : List Value).toArray s 0 0 (hp_A Γ)) (entryFrame m ([.ref a0, .ref a1, .ref a2] : List Value).toArray 5)
  rw [lg_entry_eq]
  generalize (lg_sl ([.ref a0, .ref a1, .ref a2]) ++ List.replicate (5 - (lg_sl ([.ref a0, .ref a1, .ref a2])).length) Slot.unset).toArray = ls at hl ⊢
  have hl : lv_has ls 5 [(0, .ref a0), (1, .ref a1), (2, .ref a2)] := hl
  refine lv_aload_n hx hb dX10_sickBits_0 rfl (lv_at hl 0 rfl) (hp_n (n := 1) rfl ?_)
  refine lv_aload_n hx hb dX10_sickBits_1 rfl (lv_at hl 0 rfl) (hp_n (n := 2) rfl ?_)
  refine lv_aload_n hx hb dX10_sickBits_2 rfl (lv_at hl 1 rfl) (hp_n (n := 3) rfl ?_)
  refine q_geti (κ := 2) (k := 0) (φ := 100) (pc' := 6) C B (cw_k B.2.2.1 k1) fl_X10_128 rfl rfl rfl dX10_sickBits_3 rfl (fun x_1 ex_1 => ?_)
  refine q_cq (pc' := 9) B (hp_runV (As := [.int x_1]) (rest := [.ref a0]) C B (t_X10_logAt Γ l α B.2.2.1.1 a0 (cw_k B.2.2.1 k0) x_1) lb_X10_logAt lv_X10_logAt lk_X10_64 (cw_k B.2.2.1 k0) rfl (by decide) rfl hl.1 rfl (Nat.le_of_ble_eq_true rfl) dX10_sickBits_6 ⟨Nat.le_refl _, Nat.le_refl _⟩) (fun _ _ h => by rw [h.1]; exact B.2.2) rfl (fun rh_2 αh_2 Hh_2 Lh_2 ph_2 Bh_2 => ?_)
  rw [ph_2.1] at Bh_2
  rcases rh_2 with _ | bh_2
  ·
    refine lv_aload_n hx hb dX10_sickBits_9 rfl (lv_at hl 1 rfl) (hp_n (n := 10) rfl ?_)
    refine q_geti (κ := 2) (k := 1) (φ := 101) (pc' := 13) C Bh_2 (cw_k Bh_2.2.2.1 k1) fl_X10_131 rfl rfl rfl dX10_sickBits_10 rfl (fun x_3 ex_3 => ?_)
    refine lv_aload_n hx hb dX10_sickBits_13 rfl (lv_at hl 2 rfl) (hp_n (n := 14) rfl ?_)
    refine q_cv (pc' := 17) Bh_2 (hp_runV (As := [va_rf none, .int x_3, .ref a2]) (rest := []) C Bh_2 (t_X10_peaksOf_R (ra := ra) (rb := rb) Γ l α Bh_2.2.2.1.1 a0 (cw_k Bh_2.2.2.1 k0) none (fun b h => by cases h) x_3 a2 (cw_k Bh_2.2.2.1 k2) oA (by rw [cw_R Bh_2.2.2.1 _ (by decide)]; exact oB)) lb_X10_peaksOf lv_X10_peaksOf lk_X10_143 (cw_k Bh_2.2.2.1 k0) rfl (by decide) rfl hl.1 rfl (Nat.le_of_ble_eq_true rfl) dX10_sickBits_14 ⟨Nat.le_refl _, Nat.le_refl _⟩) (fun _ h => ⟨cw_tr Bh_2.2.2.1 h.1 (by decide), rofw_tr Bh_2.2.2.2 h.2⟩) rfl (fun αh_4 Hh_4 Lh_4 ph_4 Bh_4 => ?_)
    refine lv_iconst (v := 0) hx hb dX10_sickBits_17 (by decide) (hp_n (n := 18) rfl ?_)
    refine lv_istore_n (lv' := [(3, .int 0), (0, .ref a0), (1, .ref a1), (2, .ref a2)]) hx hb dX10_sickBits_18 rfl hl (by decide) rfl (fun ls hl => hp_n (n := 19) rfl ?_)
    refine lv_iconst (v := 0) hx hb dX10_sickBits_19 (by decide) (hp_n (n := 20) rfl ?_)
    have J22 : ∀ (nq : Nat) (Hh_5 : Heap) (Lh_5 : List Loc) (Bh_5 : hp_B Γ (cwr ra rb w_X10_sickBits) s α αh_4 Hh_5 Lh_5) (v3_h_5 : Int32) (v4_h_5 : Int32) (ih_5_0 : 0 ≤ v4_h_5.toInt) (ls : Array Slot) (hl : lv_has ls 5 [(1, .ref a1), (2, .ref a2), (3, .int v3_h_5), (4, .int v4_h_5)]) (hmu22 : (2147483647 - v4_h_5.toInt).toNat = nq), W p l e (hp_rm 3 0 0) s m ([.ref a0, .ref a1, .ref a2] : List Value).toArray below meth c Hh_5 Lh_5 0 0 (MQ below (hp_Qi Γ (fun r β => cwr ra rb w_X10_sickBits α β)) ([.ref a0, .ref a1, .ref a2] : List Value).toArray s 0 0 (hp_A Γ)) (F0 m 22 ls []) := by
      intro nq
      induction nq using Nat.strongRecOn with
      | ind nq ih22 =>
      intro Hh_5 Lh_5 Bh_5 v3_h_5 v4_h_5 ih_5_0 ls hl hmu22
      have inv22_0 := ih_5_0
      refine lv_iload hx hb dX10_sickBits_22 (lv_at hl 3 rfl) (hp_n (n := 24) rfl ?_)
      refine lv_aload_n hx hb dX10_sickBits_24 rfl (lv_at hl 1 rfl) (hp_n (n := 25) rfl ?_)
      refine q_geti (κ := 6) (k := 1) (φ := 301) (pc' := 28) C Bh_5 (cw_k Bh_5.2.2.1 k2) fl_X10_184 rfl rfl rfl dX10_sickBits_25 rfl (fun x_6 ex_6 => ?_)
      refine lv_icmp_ge (tgt := 69) hx hb dX10_sickBits_28 (by decide) (fun c_7 => ?_) (fun c_7 => hp_n (n := 31) rfl ?_)
      ·
        have jc_7 := il_le c_7
        refine lv_iload_n hx hb dX10_sickBits_69 rfl (lv_at hl 2 rfl) (hp_n (n := 70) rfl ?_)
        exact q_iret C Bh_5 hr hlk Bh_5.2.2 dX10_sickBits_70
      ·
        have jc_7 := il_nle c_7
        refine lv_iload hx hb dX10_sickBits_31 (lv_at hl 3 rfl) (hp_n (n := 33) rfl ?_)
        refine lv_bipush (v := 31) hx hb dX10_sickBits_33 (by decide) (hp_n (n := 35) rfl ?_)
        refine lv_icmp_ge (tgt := 69) hx hb dX10_sickBits_35 (by decide) (fun c_8 => ?_) (fun c_8 => hp_n (n := 38) rfl ?_)
        ·
          have jc_8 := il_le c_8
          refine lv_iload_n hx hb dX10_sickBits_69 rfl (lv_at hl 2 rfl) (hp_n (n := 70) rfl ?_)
          exact q_iret C Bh_5 hr hlk Bh_5.2.2 dX10_sickBits_70
        ·
          have jc_8 := il_nle c_8
          refine lv_aload_n hx hb dX10_sickBits_38 rfl (lv_at hl 1 rfl) (hp_n (n := 39) rfl ?_)
          refine lv_iload hx hb dX10_sickBits_39 (lv_at hl 3 rfl) (hp_n (n := 41) rfl ?_)
          refine q_ci (pc' := 44) Bh_5 (hp_runV (As := [.int v4_h_5]) (rest := []) C Bh_5 (t_X5_at Γ l αh_4 Bh_5.2.2.1.1 a2 (cw_k Bh_5.2.2.1 k2) v4_h_5) lb_X5_at lv_X5_at lk_X10_185 (cw_k Bh_5.2.2.1 k2) rfl (by decide) rfl hl.1 rfl (Nat.le_of_ble_eq_true rfl) dX10_sickBits_41 ⟨Nat.le_refl _, Nat.le_refl _⟩) (fun _ _ h => by rw [h]; exact Bh_5.2.2) rfl (fun rh_9 αh_9 Hh_9 Lh_9 ph_9 Bh_9 => ?_)
          rw [ph_9] at Bh_9
          refine lv_aload_n hx hb dX10_sickBits_44 rfl (lv_at hl 0 rfl) (hp_n (n := 45) rfl ?_)
          refine q_getr (κ := 2) (k := 4) (φ := 104) (pc' := 48) C Bh_9 (cw_k Bh_9.2.2.1 k1) fl_X10_140 rfl rfl rfl (cw_r Bh_9.2.2.1 k1 rfl rfl (by decide) (by decide)) dX10_sickBits_45 rfl (fun b_10 eb_10 kb_10 => ?_)
          refine lv_iload hx hb dX10_sickBits_48 (lv_at hl 3 rfl) (hp_n (n := 50) rfl ?_)
          refine q_ci (pc' := 53) Bh_9 (hp_runV (As := [.int v4_h_5]) (rest := [.int rh_9]) C Bh_9 (t_X5_at Γ l αh_4 Bh_9.2.2.1.1 b_10 (cw_k Bh_9.2.2.1 kb_10) v4_h_5) lb_X5_at lv_X5_at lk_X10_185 (cw_k Bh_9.2.2.1 kb_10) rfl (by decide) rfl hl.1 rfl (Nat.le_of_ble_eq_true rfl) dX10_sickBits_50 ⟨Nat.le_refl _, Nat.le_refl _⟩) (fun _ _ h => by rw [h]; exact Bh_9.2.2) rfl (fun rh_11 αh_11 Hh_11 Lh_11 ph_11 Bh_11 => ?_)
          rw [ph_11] at Bh_11
          refine lv_icmp_eq (tgt := 63) hx hb dX10_sickBits_53 (by decide) (fun c_12 => ?_) (fun c_12 => hp_n (n := 56) rfl ?_)
          ·
            have jc_12 := il_eq c_12
            obtain ⟨x_13, ex_13⟩ : ∃ y : Int32, y = v4_h_5 + 1 := ⟨_, rfl⟩
            have qx_13 : x_13.toInt = v4_h_5.toInt + 1 := by have q0 := ib_hi x_6; have qa := ib_lo v4_h_5; rw [ex_13]; exact ii_add (by omega) (by omega)
            refine lv_iinc (v := x_13) (lv' := [(4, .int x_13), (1, .ref a1), (2, .ref a2), (3, .int v3_h_5)]) hx hb dX10_sickBits_63 hl (k := 3) rfl (by rw [ex_13]; rfl) (by decide) rfl (fun ls hl => hp_n (n := 66) rfl ?_)
            refine lv_goto (tgt := 22) hx hb dX10_sickBits_66 (by decide) ?_
            exact ih22 _ (by have q0 := ib_hi x_6; have q1 := ib_lo x_6; have qa := ib_hi v4_h_5; have qb := ib_lo v4_h_5; have qc : (v4_h_5 + 1).toInt = v4_h_5.toInt + (1 : Int32).toInt := ii_add (by omega) (by omega); rw [ex_13]; omega) Hh_11 Lh_11 Bh_11 v3_h_5 x_13 (by omega) ls (lv_sub hl [1, 2, 3, 0] rfl) rfl
          ·
            have jc_12 := il_ne c_12
            refine lv_iload_n hx hb dX10_sickBits_56 rfl (lv_at hl 2 rfl) (hp_n (n := 57) rfl ?_)
            refine lv_iconst (v := 1) hx hb dX10_sickBits_57 (by decide) (hp_n (n := 58) rfl ?_)
            refine lv_iload hx hb dX10_sickBits_58 (lv_at hl 3 rfl) (hp_n (n := 60) rfl ?_)
            refine lv_ishl hx hb dX10_sickBits_60 (hp_n (n := 61) rfl (lv_topi (fun x_14 ex_14 => ?_)))
            refine lv_ior hx hb dX10_sickBits_61 (hp_n (n := 62) rfl (lv_topi (fun x_15 ex_15 => ?_)))
            refine lv_istore_n (lv' := [(3, .int x_15), (1, .ref a1), (2, .ref a2), (4, .int v4_h_5)]) hx hb dX10_sickBits_62 rfl hl (by decide) rfl (fun ls hl => hp_n (n := 63) rfl ?_)
            obtain ⟨x_16, ex_16⟩ : ∃ y : Int32, y = v4_h_5 + 1 := ⟨_, rfl⟩
            have qx_16 : x_16.toInt = v4_h_5.toInt + 1 := by have q0 := ib_hi x_6; have qa := ib_lo v4_h_5; rw [ex_16]; exact ii_add (by omega) (by omega)
            refine lv_iinc (v := x_16) (lv' := [(4, .int x_16), (3, .int x_15), (1, .ref a1), (2, .ref a2)]) hx hb dX10_sickBits_63 hl (k := 3) rfl (by rw [ex_16]; rfl) (by decide) rfl (fun ls hl => hp_n (n := 66) rfl ?_)
            refine lv_goto (tgt := 22) hx hb dX10_sickBits_66 (by decide) ?_
            exact ih22 _ (by have q0 := ib_hi x_6; have q1 := ib_lo x_6; have qa := ib_hi v4_h_5; have qb := ib_lo v4_h_5; have qc : (v4_h_5 + 1).toInt = v4_h_5.toInt + (1 : Int32).toInt := ii_add (by omega) (by omega); rw [ex_16]; omega) Hh_11 Lh_11 Bh_11 x_15 x_16 (by omega) ls (lv_sub hl [2, 3, 1, 0] rfl) rfl
    refine lv_istore (lv' := [(4, .int 0), (3, .int 0), (0, .ref a0), (1, .ref a1), (2, .ref a2)]) hx hb dX10_sickBits_20 hl (by decide) rfl (fun ls hl => hp_n (n := 22) rfl ?_)
    exact J22 _ Hh_4 Lh_4 Bh_4 0 0 (by omega) ls (lv_sub hl [3, 4, 1, 0] rfl) rfl
  ·
    have kbh_2 : hp_K α bh_2 = 3 := cw_k' Bh_2.2.2.1 (ph_2.2 bh_2 rfl)
    refine lv_aload_n hx hb dX10_sickBits_9 rfl (lv_at hl 1 rfl) (hp_n (n := 10) rfl ?_)
    refine q_geti (κ := 2) (k := 1) (φ := 101) (pc' := 13) C Bh_2 (cw_k Bh_2.2.2.1 k1) fl_X10_131 rfl rfl rfl dX10_sickBits_10 rfl (fun x_17 ex_17 => ?_)
    refine lv_aload_n hx hb dX10_sickBits_13 rfl (lv_at hl 2 rfl) (hp_n (n := 14) rfl ?_)
    refine q_cv (pc' := 17) Bh_2 (hp_runV (As := [va_rf (some bh_2), .int x_17, .ref a2]) (rest := []) C Bh_2 (t_X10_peaksOf_R (ra := ra) (rb := rb) Γ l α Bh_2.2.2.1.1 a0 (cw_k Bh_2.2.2.1 k0) (some bh_2) (fun b h => by cases h; exact (cw_k Bh_2.2.2.1 kbh_2)) x_17 a2 (cw_k Bh_2.2.2.1 k2) oA (by rw [cw_R Bh_2.2.2.1 _ (by decide)]; exact oB)) lb_X10_peaksOf lv_X10_peaksOf lk_X10_143 (cw_k Bh_2.2.2.1 k0) rfl (by decide) rfl hl.1 rfl (Nat.le_of_ble_eq_true rfl) dX10_sickBits_14 ⟨Nat.le_refl _, Nat.le_refl _⟩) (fun _ h => ⟨cw_tr Bh_2.2.2.1 h.1 (by decide), rofw_tr Bh_2.2.2.2 h.2⟩) rfl (fun αh_18 Hh_18 Lh_18 ph_18 Bh_18 => ?_)
    refine lv_iconst (v := 0) hx hb dX10_sickBits_17 (by decide) (hp_n (n := 18) rfl ?_)
    refine lv_istore_n (lv' := [(3, .int 0), (0, .ref a0), (1, .ref a1), (2, .ref a2)]) hx hb dX10_sickBits_18 rfl hl (by decide) rfl (fun ls hl => hp_n (n := 19) rfl ?_)
    refine lv_iconst (v := 0) hx hb dX10_sickBits_19 (by decide) (hp_n (n := 20) rfl ?_)
    have J22 : ∀ (nq : Nat) (Hh_19 : Heap) (Lh_19 : List Loc) (Bh_19 : hp_B Γ (cwr ra rb w_X10_sickBits) s α αh_18 Hh_19 Lh_19) (v3_h_19 : Int32) (v4_h_19 : Int32) (ih_19_0 : 0 ≤ v4_h_19.toInt) (ls : Array Slot) (hl : lv_has ls 5 [(1, .ref a1), (2, .ref a2), (3, .int v3_h_19), (4, .int v4_h_19)]) (hmu22 : (2147483647 - v4_h_19.toInt).toNat = nq), W p l e (hp_rm 3 0 0) s m ([.ref a0, .ref a1, .ref a2] : List Value).toArray below meth c Hh_19 Lh_19 0 0 (MQ below (hp_Qi Γ (fun r β => cwr ra rb w_X10_sickBits α β)) ([.ref a0, .ref a1, .ref a2] : List Value).toArray s 0 0 (hp_A Γ)) (F0 m 22 ls []) := by
      intro nq
      induction nq using Nat.strongRecOn with
      | ind nq ih22 =>
      intro Hh_19 Lh_19 Bh_19 v3_h_19 v4_h_19 ih_19_0 ls hl hmu22
      have inv22_0 := ih_19_0
      refine lv_iload hx hb dX10_sickBits_22 (lv_at hl 3 rfl) (hp_n (n := 24) rfl ?_)
      refine lv_aload_n hx hb dX10_sickBits_24 rfl (lv_at hl 1 rfl) (hp_n (n := 25) rfl ?_)
      refine q_geti (κ := 6) (k := 1) (φ := 301) (pc' := 28) C Bh_19 (cw_k Bh_19.2.2.1 k2) fl_X10_184 rfl rfl rfl dX10_sickBits_25 rfl (fun x_20 ex_20 => ?_)
      refine lv_icmp_ge (tgt := 69) hx hb dX10_sickBits_28 (by decide) (fun c_21 => ?_) (fun c_21 => hp_n (n := 31) rfl ?_)
      ·
        have jc_21 := il_le c_21
        refine lv_iload_n hx hb dX10_sickBits_69 rfl (lv_at hl 2 rfl) (hp_n (n := 70) rfl ?_)
        exact q_iret C Bh_19 hr hlk Bh_19.2.2 dX10_sickBits_70
      ·
        have jc_21 := il_nle c_21
        refine lv_iload hx hb dX10_sickBits_31 (lv_at hl 3 rfl) (hp_n (n := 33) rfl ?_)
        refine lv_bipush (v := 31) hx hb dX10_sickBits_33 (by decide) (hp_n (n := 35) rfl ?_)
        refine lv_icmp_ge (tgt := 69) hx hb dX10_sickBits_35 (by decide) (fun c_22 => ?_) (fun c_22 => hp_n (n := 38) rfl ?_)
        ·
          have jc_22 := il_le c_22
          refine lv_iload_n hx hb dX10_sickBits_69 rfl (lv_at hl 2 rfl) (hp_n (n := 70) rfl ?_)
          exact q_iret C Bh_19 hr hlk Bh_19.2.2 dX10_sickBits_70
        ·
          have jc_22 := il_nle c_22
          refine lv_aload_n hx hb dX10_sickBits_38 rfl (lv_at hl 1 rfl) (hp_n (n := 39) rfl ?_)
          refine lv_iload hx hb dX10_sickBits_39 (lv_at hl 3 rfl) (hp_n (n := 41) rfl ?_)
          refine q_ci (pc' := 44) Bh_19 (hp_runV (As := [.int v4_h_19]) (rest := []) C Bh_19 (t_X5_at Γ l αh_18 Bh_19.2.2.1.1 a2 (cw_k Bh_19.2.2.1 k2) v4_h_19) lb_X5_at lv_X5_at lk_X10_185 (cw_k Bh_19.2.2.1 k2) rfl (by decide) rfl hl.1 rfl (Nat.le_of_ble_eq_true rfl) dX10_sickBits_41 ⟨Nat.le_refl _, Nat.le_refl _⟩) (fun _ _ h => by rw [h]; exact Bh_19.2.2) rfl (fun rh_23 αh_23 Hh_23 Lh_23 ph_23 Bh_23 => ?_)
          rw [ph_23] at Bh_23
          refine lv_aload_n hx hb dX10_sickBits_44 rfl (lv_at hl 0 rfl) (hp_n (n := 45) rfl ?_)
          refine q_getr (κ := 2) (k := 4) (φ := 104) (pc' := 48) C Bh_23 (cw_k Bh_23.2.2.1 k1) fl_X10_140 rfl rfl rfl (cw_r Bh_23.2.2.1 k1 rfl rfl (by decide) (by decide)) dX10_sickBits_45 rfl (fun b_24 eb_24 kb_24 => ?_)
          refine lv_iload hx hb dX10_sickBits_48 (lv_at hl 3 rfl) (hp_n (n := 50) rfl ?_)
          refine q_ci (pc' := 53) Bh_23 (hp_runV (As := [.int v4_h_19]) (rest := [.int rh_23]) C Bh_23 (t_X5_at Γ l αh_18 Bh_23.2.2.1.1 b_24 (cw_k Bh_23.2.2.1 kb_24) v4_h_19) lb_X5_at lv_X5_at lk_X10_185 (cw_k Bh_23.2.2.1 kb_24) rfl (by decide) rfl hl.1 rfl (Nat.le_of_ble_eq_true rfl) dX10_sickBits_50 ⟨Nat.le_refl _, Nat.le_refl _⟩) (fun _ _ h => by rw [h]; exact Bh_23.2.2) rfl (fun rh_25 αh_25 Hh_25 Lh_25 ph_25 Bh_25 => ?_)
          rw [ph_25] at Bh_25
          refine lv_icmp_eq (tgt := 63) hx hb dX10_sickBits_53 (by decide) (fun c_26 => ?_) (fun c_26 => hp_n (n := 56) rfl ?_)
          ·
            have jc_26 := il_eq c_26
            obtain ⟨x_27, ex_27⟩ : ∃ y : Int32, y = v4_h_19 + 1 := ⟨_, rfl⟩
            have qx_27 : x_27.toInt = v4_h_19.toInt + 1 := by have q0 := ib_hi x_20; have qa := ib_lo v4_h_19; rw [ex_27]; exact ii_add (by omega) (by omega)
            refine lv_iinc (v := x_27) (lv' := [(4, .int x_27), (1, .ref a1), (2, .ref a2), (3, .int v3_h_19)]) hx hb dX10_sickBits_63 hl (k := 3) rfl (by rw [ex_27]; rfl) (by decide) rfl (fun ls hl => hp_n (n := 66) rfl ?_)
            refine lv_goto (tgt := 22) hx hb dX10_sickBits_66 (by decide) ?_
            exact ih22 _ (by have q0 := ib_hi x_20; have q1 := ib_lo x_20; have qa := ib_hi v4_h_19; have qb := ib_lo v4_h_19; have qc : (v4_h_19 + 1).toInt = v4_h_19.toInt + (1 : Int32).toInt := ii_add (by omega) (by omega); rw [ex_27]; omega) Hh_25 Lh_25 Bh_25 v3_h_19 x_27 (by omega) ls (lv_sub hl [1, 2, 3, 0] rfl) rfl
          ·
            have jc_26 := il_ne c_26
            refine lv_iload_n hx hb dX10_sickBits_56 rfl (lv_at hl 2 rfl) (hp_n (n := 57) rfl ?_)
            refine lv_iconst (v := 1) hx hb dX10_sickBits_57 (by decide) (hp_n (n := 58) rfl ?_)
            refine lv_iload hx hb dX10_sickBits_58 (lv_at hl 3 rfl) (hp_n (n := 60) rfl ?_)
            refine lv_ishl hx hb dX10_sickBits_60 (hp_n (n := 61) rfl (lv_topi (fun x_28 ex_28 => ?_)))
            refine lv_ior hx hb dX10_sickBits_61 (hp_n (n := 62) rfl (lv_topi (fun x_29 ex_29 => ?_)))
            refine lv_istore_n (lv' := [(3, .int x_29), (1, .ref a1), (2, .ref a2), (4, .int v4_h_19)]) hx hb dX10_sickBits_62 rfl hl (by decide) rfl (fun ls hl => hp_n (n := 63) rfl ?_)
            obtain ⟨x_30, ex_30⟩ : ∃ y : Int32, y = v4_h_19 + 1 := ⟨_, rfl⟩
            have qx_30 : x_30.toInt = v4_h_19.toInt + 1 := by have q0 := ib_hi x_20; have qa := ib_lo v4_h_19; rw [ex_30]; exact ii_add (by omega) (by omega)
            refine lv_iinc (v := x_30) (lv' := [(4, .int x_30), (3, .int x_29), (1, .ref a1), (2, .ref a2)]) hx hb dX10_sickBits_63 hl (k := 3) rfl (by rw [ex_30]; rfl) (by decide) rfl (fun ls hl => hp_n (n := 66) rfl ?_)
            refine lv_goto (tgt := 22) hx hb dX10_sickBits_66 (by decide) ?_
            exact ih22 _ (by have q0 := ib_hi x_20; have q1 := ib_lo x_20; have qa := ib_hi v4_h_19; have qb := ib_lo v4_h_19; have qc : (v4_h_19 + 1).toInt = v4_h_19.toInt + (1 : Int32).toInt := ii_add (by omega) (by omega); rw [ex_30]; omega) Hh_25 Lh_25 Bh_25 x_29 x_30 (by omega) ls (lv_sub hl [2, 3, 1, 0] rfl) rfl
    refine lv_istore (lv' := [(4, .int 0), (3, .int 0), (0, .ref a0), (1, .ref a1), (2, .ref a2)]) hx hb dX10_sickBits_20 hl (by decide) rfl (fun ls hl => hp_n (n := 22) rfl ?_)
    exact J22 _ Hh_18 Lh_18 Bh_18 0 0 (by omega) ls (lv_sub hl [3, 4, 1, 0] rfl) rfl
set_option maxRecDepth 100000 in
set_option maxHeartbeats 4000000 in
theorem t_X10_whyGrown_R {ra rb : List Nat} (Γ : hp_G) (l : Launch) (α : hp_T) (g : GC α) (a0 : Nat) (k0 : hp_K α a0 = 11) (o1 : Option Nat) (k1 : ∀ b, o1 = some b → hp_K α b = 3) (a2 : Int32) (a3 : Int32) (a4 : Int32) (a5 : Int32) (oA : (hp_R α 558 a0) ∈ ra) (oB : hp_R α 300 (hp_R α 558 a0) ∈ rb) : Met l yX10_whyGrown (hp_ws yX10_whyGrown cX10_whyGrown 6 (some .int)) (hp_rm 5 0 0) (hp_Pc Γ α [.ref a0, va_rf o1, .int a2, .int a3, .int a4, .int a5]) (hp_Qi Γ (fun r β => cwr ra rb w_X10_whyGrown α β)) 0 0 (hp_A Γ) := by
  refine hp_start (by decide) ?_
  intro p e s m below meth c C hr hlk B0 hnm
  have C : hp_C Γ p m c cX10_whyGrown 6 s ([.ref a0, va_rf o1, .int a2, .int a3, .int a4, .int a5] : List Value).toArray RX10 := C
  have hx := C.1.1
  have hb := C.1.2.1
  have hown := C.1.2.2.2.1
  have hts := C.1.2.2.2.2
  have B : hp_B Γ (cwr ra rb w_X10_whyGrown) s α α s.heap [] := ⟨B0.1, B0.2.1, cw_rf g, rofw_rf⟩
  have lit5 : (5 : Int32).toInt = 5 := by decide
  rcases o1 with _ | a1
  ·
    have hl := lv_entry ([.ref a0, .null, .int a2, .int a3, .int a4, .int a5]) (n := 6) (Nat.le_of_ble_eq_true rfl)
    show W p l e (hp_rm 5 0 0) s m ([.ref a0, .null, .int a2, .int a3, .int a4, .int a5] : List Value).toArray below meth c s.heap [] 0 0 (MQ below (hp_Qi Γ (fun r β => cwr ra rb w_X10_whyGrown α β)) ([.ref a0, .null, .int a2, .int a3, .int a4, .int a5] : List Value).toArray s 0 0 (hp_A Γ)) (entryFrame m ([.ref a0, .null, .int a2, .int a3, .int a4, .int a5] : List Value).toArray 6)
    rw [lg_entry_eq]
    generalize (lg_sl ([.ref a0, .null, .int a2, .int a3, .int a4, .int a5]) ++ List.replicate (6 - (lg_sl ([.ref a0, .null, .int a2, .int a3, .int a4, .int a5])).length) Slot.unset).toArray = ls at hl ⊢
    have hl : lv_has ls 6 [(0, .ref a0), (1, .null), (2, .int a2), (3, .int a3), (4, .int a4), (5, .int a5)] := hl
    refine lv_aload_nN hx hb dX10_whyGrown_0 rfl (lv_at hl 1 rfl) (hp_n (n := 1) rfl ?_)
    refine lv_ifnullN (tgt := 13) hx hb dX10_whyGrown_1 (by decide) ?_
    refine lv_iconst (v := 5) hx hb dX10_whyGrown_13 (by decide) (hp_n (n := 14) rfl ?_)
    exact q_iret C B hr hlk B.2.2 dX10_whyGrown_14
  ·
    have ka1 := k1 a1 rfl
    have hl := lv_entry ([.ref a0, .ref a1, .int a2, .int a3, .int a4, .int a5]) (n := 6) (Nat.le_of_ble_eq_true rfl)
    show W p l e (hp_rm 5 0 0) s m ([.ref a0, .ref a1, .int a2, .int a3, .int a4, .int a5] : List Value).toArray below meth c s.heap [] 0 0 (MQ below (hp_Qi Γ (fun r β => cwr ra rb w_X10_whyGrown α β)) ([.ref a0, .ref a1, .int a2, .int a3, .int a4, .int a5] : List Value).toArray s 0 0 (hp_A Γ)) (entryFrame m ([.ref a0, .ref a1, .int a2, .int a3, .int a4, .int a5] : List Value).toArray 6)
    rw [lg_entry_eq]
    generalize (lg_sl ([.ref a0, .ref a1, .int a2, .int a3, .int a4, .int a5]) ++ List.replicate (6 - (lg_sl ([.ref a0, .ref a1, .int a2, .int a3, .int a4, .int a5])).length) Slot.unset).toArray = ls at hl ⊢
    have hl : lv_has ls 6 [(0, .ref a0), (1, .ref a1), (2, .int a2), (3, .int a3), (4, .int a4), (5, .int a5)] := hl
    refine lv_aload_n hx hb dX10_whyGrown_0 rfl (lv_at hl 1 rfl) (hp_n (n := 1) rfl ?_)
    refine lv_ifnull hx hb dX10_whyGrown_1 (hp_n (n := 4) rfl ?_)
    refine lv_iload hx hb dX10_whyGrown_4 (lv_at hl 4 rfl) (hp_n (n := 6) rfl ?_)
    refine lv_aload_n hx hb dX10_whyGrown_6 rfl (lv_at hl 1 rfl) (hp_n (n := 7) rfl ?_)
    refine q_geti (κ := 3) (k := 2) (φ := 152) (pc' := 10) C B (cw_k B.2.2.1 ka1) fl_X10_68 rfl rfl rfl dX10_whyGrown_7 rfl (fun x_1 ex_1 => ?_)
    refine lv_icmp_le (tgt := 15) hx hb dX10_whyGrown_10 (by decide) (fun c_2 => ?_) (fun c_2 => hp_n (n := 13) rfl ?_)
    ·
      have jc_2 := il_le c_2
      refine lv_aload_n hx hb dX10_whyGrown_15 rfl (lv_at hl 0 rfl) (hp_n (n := 16) rfl ?_)
      refine q_getr (κ := 11) (k := 9) (φ := 559) (pc' := 19) C B (cw_k B.2.2.1 k0) fl_X10_57 rfl rfl rfl (cw_r B.2.2.1 k0 rfl rfl (by decide) (by decide)) dX10_whyGrown_16 rfl (fun b_3 eb_3 kb_3 => ?_)
      refine lv_iload_n hx hb dX10_whyGrown_19 rfl (lv_at hl 2 rfl) (hp_n (n := 20) rfl ?_)
      refine lv_iload hx hb dX10_whyGrown_20 (lv_at hl 4 rfl) (hp_n (n := 22) rfl ?_)
      refine q_cv (pc' := 25) B (hp_runV (As := [.int a2, .int a4]) (rest := []) C B (t_X8_toGrowth Γ l α B.2.2.1.1 b_3 (cw_k B.2.2.1 kb_3) a2 a4) lb_X8_toGrowth lv_X8_toGrowth lk_X10_151 (cw_k B.2.2.1 kb_3) rfl (by decide) rfl hl.1 rfl (Nat.le_of_ble_eq_true rfl) dX10_whyGrown_22 ⟨Nat.le_refl _, Nat.le_refl _⟩) (fun _ h => ⟨cw_tr B.2.2.1 h (by decide), rofw_tr B.2.2.2 (rofw_cw h (by decide))⟩) rfl (fun αh_4 Hh_4 Lh_4 ph_4 Bh_4 => ?_)
      refine lv_aload_n hx hb dX10_whyGrown_25 rfl (lv_at hl 0 rfl) (hp_n (n := 26) rfl ?_)
      refine lv_aload_n hx hb dX10_whyGrown_26 rfl (lv_at hl 0 rfl) (hp_n (n := 27) rfl ?_)
      have t_5 : b_3 = hp_R αh_4 559 a0 := by rw [cw_R ph_4 a0 (by decide)]; exact eb_3
      refine q_gets (κ := 11) (k := 9) (φ := 559) (pc' := 30) C Bh_4 (cw_k Bh_4.2.2.1 k0) fl_X10_57 rfl rfl rfl t_5 dX10_whyGrown_27 rfl ?_
      refine lv_aload_n hx hb dX10_whyGrown_30 rfl (lv_at hl 1 rfl) (hp_n (n := 31) rfl ?_)
      refine lv_aload_n hx hb dX10_whyGrown_31 rfl (lv_at hl 0 rfl) (hp_n (n := 32) rfl ?_)
      refine q_getr (κ := 11) (k := 8) (φ := 558) (pc' := 35) C Bh_4 (cw_k Bh_4.2.2.1 k0) fl_X10_50 rfl rfl rfl (cw_r Bh_4.2.2.1 k0 rfl rfl (by decide) (by decide)) dX10_whyGrown_32 rfl (fun b_6 eb_6 kb_6 => ?_)
      refine q_cv (pc' := 38) Bh_4 (hp_runV (As := [.ref b_3, va_rf (some a1), .ref b_6]) (rest := []) C Bh_4 (t_X10_marksAlong_R (ra := ra) (rb := rb) Γ l αh_4 Bh_4.2.2.1.1 a0 (cw_k Bh_4.2.2.1 k0) b_3 (cw_k Bh_4.2.2.1 kb_3) (some a1) (fun b h => by cases h; exact (cw_k Bh_4.2.2.1 ka1)) b_6 (cw_k Bh_4.2.2.1 kb_6) (by rw [eb_6, cw_R Bh_4.2.2.1 a0 (by decide)]; exact oA) (by rw [cw_R Bh_4.2.2.1 _ (by decide), eb_6, cw_R Bh_4.2.2.1 a0 (by decide)]; exact oB)) lb_X10_marksAlong lv_X10_marksAlong lk_X10_155 (cw_k Bh_4.2.2.1 k0) rfl (by decide) rfl hl.1 rfl (Nat.le_of_ble_eq_true rfl) dX10_whyGrown_35 ⟨Nat.le_refl _, Nat.le_refl _⟩) (fun _ h => ⟨cw_tr Bh_4.2.2.1 h.1 (by decide), rofw_tr Bh_4.2.2.2 h.2⟩) rfl (fun αh_7 Hh_7 Lh_7 ph_7 Bh_7 => ?_)
      refine lv_aload_n hx hb dX10_whyGrown_38 rfl (lv_at hl 0 rfl) (hp_n (n := 39) rfl ?_)
      have t_8 : b_3 = hp_R αh_7 559 a0 := by rw [cw_R ph_7.1 a0 (by decide)]; exact t_5
      refine q_gets (κ := 11) (k := 9) (φ := 559) (pc' := 42) C Bh_7 (cw_k Bh_7.2.2.1 k0) fl_X10_57 rfl rfl rfl t_8 dX10_whyGrown_39 rfl ?_
      refine lv_aload_n hx hb dX10_whyGrown_42 rfl (lv_at hl 0 rfl) (hp_n (n := 43) rfl ?_)
      refine q_geti (κ := 11) (k := 0) (φ := 550) (pc' := 46) C Bh_7 (cw_k Bh_7.2.2.1 k0) fl_X10_10 rfl rfl rfl dX10_whyGrown_43 rfl (fun x_9 ex_9 => ?_)
      refine lv_aload_n hx hb dX10_whyGrown_46 rfl (lv_at hl 0 rfl) (hp_n (n := 47) rfl ?_)
      have t_10 : b_6 = hp_R αh_7 558 a0 := by rw [cw_R ph_7.1 a0 (by decide)]; exact eb_6
      refine q_gets (κ := 11) (k := 8) (φ := 558) (pc' := 50) C Bh_7 (cw_k Bh_7.2.2.1 k0) fl_X10_50 rfl rfl rfl t_10 dX10_whyGrown_47 rfl ?_
      refine lv_iload_n hx hb dX10_whyGrown_50 rfl (lv_at hl 2 rfl) (hp_n (n := 51) rfl ?_)
      refine lv_iload_n hx hb dX10_whyGrown_51 rfl (lv_at hl 3 rfl) (hp_n (n := 52) rfl ?_)
      refine lv_iload hx hb dX10_whyGrown_52 (lv_at hl 4 rfl) (hp_n (n := 54) rfl ?_)
      refine lv_iload hx hb dX10_whyGrown_54 (lv_at hl 5 rfl) (hp_n (n := 56) rfl ?_)
      refine q_ci (pc' := 59) Bh_7 (hp_runV (As := [.int x_9, .ref b_6, .int a2, .int a3, .int a4, .int a5]) (rest := []) C Bh_7 (t_X8_whyGrowth Γ l αh_7 Bh_7.2.2.1.1 b_3 (cw_k Bh_7.2.2.1 kb_3) x_9 b_6 (cw_k Bh_7.2.2.1 kb_6) a2 a3 a4 a5) lb_X8_whyGrowth lv_X8_whyGrowth lk_X10_159 (cw_k Bh_7.2.2.1 kb_3) rfl (by decide) rfl hl.1 rfl (Nat.le_of_ble_eq_true rfl) dX10_whyGrown_56 ⟨Nat.le_refl _, Nat.le_refl _⟩) (fun _ _ h => ⟨cw_tr Bh_7.2.2.1 h (by decide), rofw_tr Bh_7.2.2.2 (rofw_cw h (by decide))⟩) rfl (fun rh_11 αh_11 Hh_11 Lh_11 ph_11 Bh_11 => ?_)
      exact q_iret C Bh_11 hr hlk Bh_11.2.2 dX10_whyGrown_59
    ·
      have jc_2 := il_nle c_2
      refine lv_iconst (v := 5) hx hb dX10_whyGrown_13 (by decide) (hp_n (n := 14) rfl ?_)
      exact q_iret C B hr hlk B.2.2 dX10_whyGrown_14
set_option maxRecDepth 100000 in
set_option maxHeartbeats 4000000 in
theorem t_X11_proves_R {ra rb : List Nat} (Γ : hp_G) (l : Launch) (α : hp_T) (g : GC α) (a0 : Nat) (k0 : hp_K α a0 = 12) (a1 : Int32) (a2 : Int32) (oA : (hp_R α 558 (hp_R α 601 a0)) ∈ ra) (oB : hp_R α 300 (hp_R α 558 (hp_R α 601 a0)) ∈ rb) : Met l yX11_proves (hp_ws yX11_proves cX11_proves 6 (some .int)) (hp_rm 6 0 0) (hp_Pc Γ α [.ref a0, .int a1, .int a2]) (hp_Qi Γ (fun r β => cwr ra rb w_X11_proves α β)) 0 0 (hp_A Γ) := by
  refine hp_start (by decide) ?_
  intro p e s m below meth c C hr hlk B0 hnm
  have C : hp_C Γ p m c cX11_proves 6 s ([.ref a0, .int a1, .int a2] : List Value).toArray RX11 := C
  have hx := C.1.1
  have hb := C.1.2.1
  have hown := C.1.2.2.2.1
  have hts := C.1.2.2.2.2
  have B : hp_B Γ (cwr ra rb w_X11_proves) s α α s.heap [] := ⟨B0.1, B0.2.1, cw_rf g, rofw_rf⟩
  have lit0 : (0 : Int32).toInt = 0 := by decide
  have lit1 : (1 : Int32).toInt = 1 := by decide
  have lit5 : (5 : Int32).toInt = 5 := by decide
  have hl := lv_entry ([.ref a0, .int a1, .int a2]) (n := 6) (Nat.le_of_ble_eq_true rfl)
  show W p l e (hp_rm 6 0 0) s m ([.ref a0, .int a1, .int a2] : List Value).toArray below meth c s.heap [] 0 0 (MQ below (hp_Qi Γ (fun r β => cwr ra rb w_X11_proves α β)) ([.ref a0, .int a1, .int a2] : List Value).toArray s 0 0 (hp_A Γ)) (entryFrame m ([.ref a0, .int a1, .int a2] : List Value).toArray 6)
  rw [lg_entry_eq]
  generalize (lg_sl ([.ref a0, .int a1, .int a2]) ++ List.replicate (6 - (lg_sl ([.ref a0, .int a1, .int a2])).length) Slot.unset).toArray = ls at hl ⊢
  have hl : lv_has ls 6 [(0, .ref a0), (1, .int a1), (2, .int a2)] := hl
  refine lv_iload_n hx hb dX11_proves_0 rfl (lv_at hl 1 rfl) (hp_n (n := 1) rfl ?_)
  have J8 : ∀ (Hh_1 : Heap) (Lh_1 : List Loc) (Bh_1 : hp_B Γ (cwr ra rb w_X11_proves) s α α Hh_1 Lh_1) (ls : Array Slot) (hl : lv_has ls 6 [(0, .ref a0)]), W p l e (hp_rm 6 0 0) s m ([.ref a0, .int a1, .int a2] : List Value).toArray below meth c Hh_1 Lh_1 0 0 (MQ below (hp_Qi Γ (fun r β => cwr ra rb w_X11_proves α β)) ([.ref a0, .int a1, .int a2] : List Value).toArray s 0 0 (hp_A Γ)) (F0 m 8 ls []) := by
    intro Hh_1 Lh_1 Bh_1 ls hl
    refine lv_aload_n hx hb dX11_proves_8 rfl (lv_at hl 0 rfl) (hp_n (n := 9) rfl ?_)
    refine lv_iconst (v := 1) hx hb dX11_proves_9 (by decide) (hp_n (n := 10) rfl ?_)
    refine q_ci (pc' := 13) Bh_1 (hp_runV (As := [.int 1]) (rest := []) C Bh_1 (t_X11_refuse Γ l α Bh_1.2.2.1.1 a0 (cw_k Bh_1.2.2.1 k0) 1) lb_X11_refuse lv_X11_refuse lk_X11_98 (cw_k Bh_1.2.2.1 k0) rfl (by decide) rfl hl.1 rfl (Nat.le_of_ble_eq_true rfl) dX11_proves_10 ⟨Nat.le_refl _, Nat.le_refl _⟩) (fun _ _ h => ⟨cw_tr Bh_1.2.2.1 h (by decide), rofw_tr Bh_1.2.2.2 (rofw_cw h (by decide))⟩) rfl (fun rh_2 αh_2 Hh_2 Lh_2 ph_2 Bh_2 => ?_)
    exact q_iret C Bh_2 hr hlk Bh_2.2.2 dX11_proves_13
  refine lv_if_lt (tgt := 8) hx hb dX11_proves_1 (by decide) (fun c_3 => ?_) (fun c_3 => hp_n (n := 4) rfl ?_)
  ·
    have jc_3 := il_lt c_3
    exact J8 s.heap [] B ls (lv_sub hl [0] rfl)
  ·
    have jc_3 := il_nlt c_3
    refine lv_iload_n hx hb dX11_proves_4 rfl (lv_at hl 2 rfl) (hp_n (n := 5) rfl ?_)
    refine lv_if_ge (tgt := 14) hx hb dX11_proves_5 (by decide) (fun c_4 => ?_) (fun c_4 => hp_n (n := 8) rfl ?_)
    ·
      have jc_4 := il_le c_4
      refine lv_aload_n hx hb dX11_proves_14 rfl (lv_at hl 0 rfl) (hp_n (n := 15) rfl ?_)
      refine q_getr (κ := 12) (k := 1) (φ := 601) (pc' := 18) C B (cw_k B.2.2.1 k0) fl_X11_16 rfl rfl rfl (cw_r B.2.2.1 k0 rfl rfl (by decide) (by decide)) dX11_proves_15 rfl (fun b_5 eb_5 kb_5 => ?_)
      refine lv_iload_n hx hb dX11_proves_18 rfl (lv_at hl 1 rfl) (hp_n (n := 19) rfl ?_)
      refine q_cq (pc' := 22) B (hp_runV (As := [.int a1]) (rest := []) C B (t_X10_frozenAt Γ l α B.2.2.1.1 b_5 (cw_k B.2.2.1 kb_5) a1) lb_X10_frozenAt lv_X10_frozenAt lk_X11_198 (cw_k B.2.2.1 kb_5) rfl (by decide) rfl hl.1 rfl (Nat.le_of_ble_eq_true rfl) dX11_proves_19 ⟨Nat.le_refl _, Nat.le_refl _⟩) (fun _ _ h => by rw [h.1]; exact B.2.2) rfl (fun rh_6 αh_6 Hh_6 Lh_6 ph_6 Bh_6 => ?_)
      rw [ph_6.1] at Bh_6
      rcases rh_6 with _ | bh_6
      ·
        refine lv_astore_nN (lv' := [(3, .null), (0, .ref a0), (1, .int a1), (2, .int a2)]) hx hb dX11_proves_22 rfl hl (by decide) rfl (fun ls hl => hp_n (n := 23) rfl ?_)
        refine lv_aload_n hx hb dX11_proves_23 rfl (lv_at hl 1 rfl) (hp_n (n := 24) rfl ?_)
        refine q_gets (κ := 12) (k := 1) (φ := 601) (pc' := 27) C Bh_6 (cw_k Bh_6.2.2.1 k0) fl_X11_16 rfl rfl rfl eb_5 dX11_proves_24 rfl ?_
        refine lv_iload_n hx hb dX11_proves_27 rfl (lv_at hl 3 rfl) (hp_n (n := 28) rfl ?_)
        refine q_cq (pc' := 31) Bh_6 (hp_runV (As := [.int a2]) (rest := []) C Bh_6 (t_X10_frozenAt Γ l α Bh_6.2.2.1.1 b_5 (cw_k Bh_6.2.2.1 kb_5) a2) lb_X10_frozenAt lv_X10_frozenAt lk_X11_198 (cw_k Bh_6.2.2.1 kb_5) rfl (by decide) rfl hl.1 rfl (Nat.le_of_ble_eq_true rfl) dX11_proves_28 ⟨Nat.le_refl _, Nat.le_refl _⟩) (fun _ _ h => by rw [h.1]; exact Bh_6.2.2) rfl (fun rh_7 αh_7 Hh_7 Lh_7 ph_7 Bh_7 => ?_)
        rw [ph_7.1] at Bh_7
        rcases rh_7 with _ | bh_7
        ·
          refine lv_astoreN (lv' := [(4, .null), (3, .null), (0, .ref a0), (1, .int a1), (2, .int a2)]) hx hb dX11_proves_31 hl (by decide) rfl (fun ls hl => hp_n (n := 33) rfl ?_)
          refine lv_aload_nN hx hb dX11_proves_33 rfl (lv_at hl 1 rfl) (hp_n (n := 34) rfl ?_)
          have J54 : ∀ (Hh_8 : Heap) (Lh_8 : List Loc) (Bh_8 : hp_B Γ (cwr ra rb w_X11_proves) s α α Hh_8 Lh_8) (ls : Array Slot) (hl : lv_has ls 6 [(0, .ref a0)]), W p l e (hp_rm 6 0 0) s m ([.ref a0, .int a1, .int a2] : List Value).toArray below meth c Hh_8 Lh_8 0 0 (MQ below (hp_Qi Γ (fun r β => cwr ra rb w_X11_proves α β)) ([.ref a0, .int a1, .int a2] : List Value).toArray s 0 0 (hp_A Γ)) (F0 m 54 ls []) := by
            intro Hh_8 Lh_8 Bh_8 ls hl
            refine lv_aload_n hx hb dX11_proves_54 rfl (lv_at hl 0 rfl) (hp_n (n := 55) rfl ?_)
            refine lv_iconst (v := 5) hx hb dX11_proves_55 (by decide) (hp_n (n := 56) rfl ?_)
            refine q_ci (pc' := 59) Bh_8 (hp_runV (As := [.int 5]) (rest := []) C Bh_8 (t_X11_refuse Γ l α Bh_8.2.2.1.1 a0 (cw_k Bh_8.2.2.1 k0) 5) lb_X11_refuse lv_X11_refuse lk_X11_98 (cw_k Bh_8.2.2.1 k0) rfl (by decide) rfl hl.1 rfl (Nat.le_of_ble_eq_true rfl) dX11_proves_56 ⟨Nat.le_refl _, Nat.le_refl _⟩) (fun _ _ h => ⟨cw_tr Bh_8.2.2.1 h (by decide), rofw_tr Bh_8.2.2.2 (rofw_cw h (by decide))⟩) rfl (fun rh_9 αh_9 Hh_9 Lh_9 ph_9 Bh_9 => ?_)
            exact q_iret C Bh_9 hr hlk Bh_9.2.2 dX11_proves_59
          refine lv_ifnullN (tgt := 54) hx hb dX11_proves_34 (by decide) ?_
          exact J54 Hh_7 Lh_7 Bh_7 ls (lv_sub hl [2] rfl)
        ·
          have kbh_7 : hp_K α bh_7 = 2 := cw_k' Bh_7.2.2.1 (ph_7.2 bh_7 rfl)
          refine lv_astore (lv' := [(4, .ref bh_7), (3, .null), (0, .ref a0), (1, .int a1), (2, .int a2)]) hx hb dX11_proves_31 hl (by decide) rfl (fun ls hl => hp_n (n := 33) rfl ?_)
          refine lv_aload_nN hx hb dX11_proves_33 rfl (lv_at hl 1 rfl) (hp_n (n := 34) rfl ?_)
          have J54 : ∀ (Hh_10 : Heap) (Lh_10 : List Loc) (Bh_10 : hp_B Γ (cwr ra rb w_X11_proves) s α α Hh_10 Lh_10) (ls : Array Slot) (hl : lv_has ls 6 [(0, .ref a0)]), W p l e (hp_rm 6 0 0) s m ([.ref a0, .int a1, .int a2] : List Value).toArray below meth c Hh_10 Lh_10 0 0 (MQ below (hp_Qi Γ (fun r β => cwr ra rb w_X11_proves α β)) ([.ref a0, .int a1, .int a2] : List Value).toArray s 0 0 (hp_A Γ)) (F0 m 54 ls []) := by
            intro Hh_10 Lh_10 Bh_10 ls hl
            refine lv_aload_n hx hb dX11_proves_54 rfl (lv_at hl 0 rfl) (hp_n (n := 55) rfl ?_)
            refine lv_iconst (v := 5) hx hb dX11_proves_55 (by decide) (hp_n (n := 56) rfl ?_)
            refine q_ci (pc' := 59) Bh_10 (hp_runV (As := [.int 5]) (rest := []) C Bh_10 (t_X11_refuse Γ l α Bh_10.2.2.1.1 a0 (cw_k Bh_10.2.2.1 k0) 5) lb_X11_refuse lv_X11_refuse lk_X11_98 (cw_k Bh_10.2.2.1 k0) rfl (by decide) rfl hl.1 rfl (Nat.le_of_ble_eq_true rfl) dX11_proves_56 ⟨Nat.le_refl _, Nat.le_refl _⟩) (fun _ _ h => ⟨cw_tr Bh_10.2.2.1 h (by decide), rofw_tr Bh_10.2.2.2 (rofw_cw h (by decide))⟩) rfl (fun rh_11 αh_11 Hh_11 Lh_11 ph_11 Bh_11 => ?_)
            exact q_iret C Bh_11 hr hlk Bh_11.2.2 dX11_proves_59
          refine lv_ifnullN (tgt := 54) hx hb dX11_proves_34 (by decide) ?_
          exact J54 Hh_7 Lh_7 Bh_7 ls (lv_sub hl [2] rfl)
      ·
        have kbh_6 : hp_K α bh_6 = 2 := cw_k' Bh_6.2.2.1 (ph_6.2 bh_6 rfl)
        refine lv_astore_n (lv' := [(3, .ref bh_6), (0, .ref a0), (1, .int a1), (2, .int a2)]) hx hb dX11_proves_22 rfl hl (by decide) rfl (fun ls hl => hp_n (n := 23) rfl ?_)
        refine lv_aload_n hx hb dX11_proves_23 rfl (lv_at hl 1 rfl) (hp_n (n := 24) rfl ?_)
        refine q_gets (κ := 12) (k := 1) (φ := 601) (pc' := 27) C Bh_6 (cw_k Bh_6.2.2.1 k0) fl_X11_16 rfl rfl rfl eb_5 dX11_proves_24 rfl ?_
        refine lv_iload_n hx hb dX11_proves_27 rfl (lv_at hl 3 rfl) (hp_n (n := 28) rfl ?_)
        refine q_cq (pc' := 31) Bh_6 (hp_runV (As := [.int a2]) (rest := []) C Bh_6 (t_X10_frozenAt Γ l α Bh_6.2.2.1.1 b_5 (cw_k Bh_6.2.2.1 kb_5) a2) lb_X10_frozenAt lv_X10_frozenAt lk_X11_198 (cw_k Bh_6.2.2.1 kb_5) rfl (by decide) rfl hl.1 rfl (Nat.le_of_ble_eq_true rfl) dX11_proves_28 ⟨Nat.le_refl _, Nat.le_refl _⟩) (fun _ _ h => by rw [h.1]; exact Bh_6.2.2) rfl (fun rh_12 αh_12 Hh_12 Lh_12 ph_12 Bh_12 => ?_)
        rw [ph_12.1] at Bh_12
        rcases rh_12 with _ | bh_12
        ·
          refine lv_astoreN (lv' := [(4, .null), (3, .ref bh_6), (0, .ref a0), (1, .int a1), (2, .int a2)]) hx hb dX11_proves_31 hl (by decide) rfl (fun ls hl => hp_n (n := 33) rfl ?_)
          refine lv_aload_n hx hb dX11_proves_33 rfl (lv_at hl 1 rfl) (hp_n (n := 34) rfl ?_)
          have J54 : ∀ (Hh_13 : Heap) (Lh_13 : List Loc) (Bh_13 : hp_B Γ (cwr ra rb w_X11_proves) s α α Hh_13 Lh_13) (ls : Array Slot) (hl : lv_has ls 6 [(0, .ref a0)]), W p l e (hp_rm 6 0 0) s m ([.ref a0, .int a1, .int a2] : List Value).toArray below meth c Hh_13 Lh_13 0 0 (MQ below (hp_Qi Γ (fun r β => cwr ra rb w_X11_proves α β)) ([.ref a0, .int a1, .int a2] : List Value).toArray s 0 0 (hp_A Γ)) (F0 m 54 ls []) := by
            intro Hh_13 Lh_13 Bh_13 ls hl
            refine lv_aload_n hx hb dX11_proves_54 rfl (lv_at hl 0 rfl) (hp_n (n := 55) rfl ?_)
            refine lv_iconst (v := 5) hx hb dX11_proves_55 (by decide) (hp_n (n := 56) rfl ?_)
            refine q_ci (pc' := 59) Bh_13 (hp_runV (As := [.int 5]) (rest := []) C Bh_13 (t_X11_refuse Γ l α Bh_13.2.2.1.1 a0 (cw_k Bh_13.2.2.1 k0) 5) lb_X11_refuse lv_X11_refuse lk_X11_98 (cw_k Bh_13.2.2.1 k0) rfl (by decide) rfl hl.1 rfl (Nat.le_of_ble_eq_true rfl) dX11_proves_56 ⟨Nat.le_refl _, Nat.le_refl _⟩) (fun _ _ h => ⟨cw_tr Bh_13.2.2.1 h (by decide), rofw_tr Bh_13.2.2.2 (rofw_cw h (by decide))⟩) rfl (fun rh_14 αh_14 Hh_14 Lh_14 ph_14 Bh_14 => ?_)
            exact q_iret C Bh_14 hr hlk Bh_14.2.2 dX11_proves_59
          refine lv_ifnull hx hb dX11_proves_34 (hp_n (n := 37) rfl ?_)
          refine lv_aloadN hx hb dX11_proves_37 (lv_at hl 0 rfl) (hp_n (n := 39) rfl ?_)
          refine lv_ifnullN (tgt := 54) hx hb dX11_proves_39 (by decide) ?_
          exact J54 Hh_12 Lh_12 Bh_12 ls (lv_sub hl [2] rfl)
        ·
          have kbh_12 : hp_K α bh_12 = 2 := cw_k' Bh_12.2.2.1 (ph_12.2 bh_12 rfl)
          refine lv_astore (lv' := [(4, .ref bh_12), (3, .ref bh_6), (0, .ref a0), (1, .int a1), (2, .int a2)]) hx hb dX11_proves_31 hl (by decide) rfl (fun ls hl => hp_n (n := 33) rfl ?_)
          refine lv_aload_n hx hb dX11_proves_33 rfl (lv_at hl 1 rfl) (hp_n (n := 34) rfl ?_)
          have J54 : ∀ (Hh_15 : Heap) (Lh_15 : List Loc) (Bh_15 : hp_B Γ (cwr ra rb w_X11_proves) s α α Hh_15 Lh_15) (ls : Array Slot) (hl : lv_has ls 6 [(0, .ref a0)]), W p l e (hp_rm 6 0 0) s m ([.ref a0, .int a1, .int a2] : List Value).toArray below meth c Hh_15 Lh_15 0 0 (MQ below (hp_Qi Γ (fun r β => cwr ra rb w_X11_proves α β)) ([.ref a0, .int a1, .int a2] : List Value).toArray s 0 0 (hp_A Γ)) (F0 m 54 ls []) := by
            intro Hh_15 Lh_15 Bh_15 ls hl
            refine lv_aload_n hx hb dX11_proves_54 rfl (lv_at hl 0 rfl) (hp_n (n := 55) rfl ?_)
            refine lv_iconst (v := 5) hx hb dX11_proves_55 (by decide) (hp_n (n := 56) rfl ?_)
            refine q_ci (pc' := 59) Bh_15 (hp_runV (As := [.int 5]) (rest := []) C Bh_15 (t_X11_refuse Γ l α Bh_15.2.2.1.1 a0 (cw_k Bh_15.2.2.1 k0) 5) lb_X11_refuse lv_X11_refuse lk_X11_98 (cw_k Bh_15.2.2.1 k0) rfl (by decide) rfl hl.1 rfl (Nat.le_of_ble_eq_true rfl) dX11_proves_56 ⟨Nat.le_refl _, Nat.le_refl _⟩) (fun _ _ h => ⟨cw_tr Bh_15.2.2.1 h (by decide), rofw_tr Bh_15.2.2.2 (rofw_cw h (by decide))⟩) rfl (fun rh_16 αh_16 Hh_16 Lh_16 ph_16 Bh_16 => ?_)
            exact q_iret C Bh_16 hr hlk Bh_16.2.2 dX11_proves_59
          refine lv_ifnull hx hb dX11_proves_34 (hp_n (n := 37) rfl ?_)
          refine lv_aload hx hb dX11_proves_37 (lv_at hl 0 rfl) (hp_n (n := 39) rfl ?_)
          refine lv_ifnull hx hb dX11_proves_39 (hp_n (n := 42) rfl ?_)
          refine lv_aload_n hx hb dX11_proves_42 rfl (lv_at hl 1 rfl) (hp_n (n := 43) rfl ?_)
          refine q_geti (κ := 2) (k := 1) (φ := 101) (pc' := 46) C Bh_12 (cw_k Bh_12.2.2.1 kbh_6) fl_X11_207 rfl rfl rfl dX11_proves_43 rfl (fun x_17 ex_17 => ?_)
          refine lv_aload hx hb dX11_proves_46 (lv_at hl 0 rfl) (hp_n (n := 48) rfl ?_)
          refine q_geti (κ := 2) (k := 1) (φ := 101) (pc' := 51) C Bh_12 (cw_k Bh_12.2.2.1 kbh_12) fl_X11_207 rfl rfl rfl dX11_proves_48 rfl (fun x_18 ex_18 => ?_)
          refine lv_icmp_le (tgt := 60) hx hb dX11_proves_51 (by decide) (fun c_19 => ?_) (fun c_19 => hp_n (n := 54) rfl ?_)
          ·
            have jc_19 := il_le c_19
            refine lv_aload_n hx hb dX11_proves_60 rfl (lv_at hl 2 rfl) (hp_n (n := 61) rfl ?_)
            refine q_gets (κ := 12) (k := 1) (φ := 601) (pc' := 64) C Bh_12 (cw_k Bh_12.2.2.1 k0) fl_X11_16 rfl rfl rfl eb_5 dX11_proves_61 rfl ?_
            refine lv_aload hx hb dX11_proves_64 (lv_at hl 0 rfl) (hp_n (n := 66) rfl ?_)
            refine q_geti (κ := 2) (k := 0) (φ := 100) (pc' := 69) C Bh_12 (cw_k Bh_12.2.2.1 kbh_12) fl_X11_202 rfl rfl rfl dX11_proves_66 rfl (fun x_20 ex_20 => ?_)
            refine q_cq (pc' := 72) Bh_12 (hp_runV (As := [.int x_20]) (rest := []) C Bh_12 (t_X10_logAt Γ l α Bh_12.2.2.1.1 b_5 (cw_k Bh_12.2.2.1 kb_5) x_20) lb_X10_logAt lv_X10_logAt lk_X11_163 (cw_k Bh_12.2.2.1 kb_5) rfl (by decide) rfl hl.1 rfl (Nat.le_of_ble_eq_true rfl) dX11_proves_69 ⟨Nat.le_refl _, Nat.le_refl _⟩) (fun _ _ h => by rw [h.1]; exact Bh_12.2.2) rfl (fun rh_21 αh_21 Hh_21 Lh_21 ph_21 Bh_21 => ?_)
            rw [ph_21.1] at Bh_21
            rcases rh_21 with _ | bh_21
            ·
              refine lv_astoreN (lv' := [(5, .null), (4, .ref bh_12), (3, .ref bh_6), (0, .ref a0), (1, .int a1), (2, .int a2)]) hx hb dX11_proves_72 hl (by decide) rfl (fun ls hl => hp_n (n := 74) rfl ?_)
              refine lv_aload_n hx hb dX11_proves_74 rfl (lv_at hl 3 rfl) (hp_n (n := 75) rfl ?_)
              refine lv_aload_n hx hb dX11_proves_75 rfl (lv_at hl 3 rfl) (hp_n (n := 76) rfl ?_)
              refine q_gets (κ := 12) (k := 1) (φ := 601) (pc' := 79) C Bh_21 (cw_k Bh_21.2.2.1 k0) fl_X11_16 rfl rfl rfl eb_5 dX11_proves_76 rfl ?_
              refine lv_aloadN hx hb dX11_proves_79 (lv_at hl 0 rfl) (hp_n (n := 81) rfl ?_)
              refine lv_aload_n hx hb dX11_proves_81 rfl (lv_at hl 2 rfl) (hp_n (n := 82) rfl ?_)
              refine q_getj (κ := 2) (k := 1) (φ := 101) (pc' := 85) C Bh_21 (cw_k Bh_21.2.2.1 kbh_6) fl_X11_207 rfl rfl rfl ex_17 dX11_proves_82 rfl ?_
              refine lv_aload_n hx hb dX11_proves_85 rfl (lv_at hl 2 rfl) (hp_n (n := 86) rfl ?_)
              refine q_geti (κ := 2) (k := 2) (φ := 102) (pc' := 89) C Bh_21 (cw_k Bh_21.2.2.1 kbh_6) fl_X11_210 rfl rfl rfl dX11_proves_86 rfl (fun x_22 ex_22 => ?_)
              refine lv_aload hx hb dX11_proves_89 (lv_at hl 1 rfl) (hp_n (n := 91) rfl ?_)
              refine q_getj (κ := 2) (k := 1) (φ := 101) (pc' := 94) C Bh_21 (cw_k Bh_21.2.2.1 kbh_12) fl_X11_207 rfl rfl rfl ex_18 dX11_proves_91 rfl ?_
              refine lv_aload hx hb dX11_proves_94 (lv_at hl 1 rfl) (hp_n (n := 96) rfl ?_)
              refine q_geti (κ := 2) (k := 2) (φ := 102) (pc' := 99) C Bh_21 (cw_k Bh_21.2.2.1 kbh_12) fl_X11_210 rfl rfl rfl dX11_proves_96 rfl (fun x_23 ex_23 => ?_)
              refine q_ci (pc' := 102) Bh_21 (hp_runV (As := [va_rf none, .int x_17, .int x_22, .int x_18, .int x_23]) (rest := [.ref a0]) C Bh_21 (t_X10_whyGrown_R (ra := ra) (rb := rb) Γ l α Bh_21.2.2.1.1 b_5 (cw_k Bh_21.2.2.1 kb_5) none (fun b h => by cases h) x_17 x_22 x_18 x_23 (by rw [cw_R Bh_21.2.2.1 _ (by decide), eb_5, cw_R B.2.2.1 a0 (by decide)]; exact oA) (by rw [cw_R Bh_21.2.2.1 _ (by decide), cw_R Bh_21.2.2.1 _ (by decide), eb_5, cw_R B.2.2.1 a0 (by decide)]; exact oB)) lb_X10_whyGrown lv_X10_whyGrown lk_X11_342 (cw_k Bh_21.2.2.1 kb_5) rfl (by decide) rfl hl.1 rfl (Nat.le_of_ble_eq_true rfl) dX11_proves_99 ⟨Nat.le_refl _, Nat.le_refl _⟩) (fun _ _ h => ⟨cw_tr Bh_21.2.2.1 h.1 (by decide), rofw_tr Bh_21.2.2.2 h.2⟩) rfl (fun rh_24 αh_24 Hh_24 Lh_24 ph_24 Bh_24 => ?_)
              refine q_ci (pc' := 105) Bh_24 (hp_runV (As := [.int rh_24]) (rest := []) C Bh_24 (t_X11_answer Γ l αh_24 Bh_24.2.2.1.1 a0 (cw_k Bh_24.2.2.1 k0) rh_24) lb_X11_answer lv_X11_answer lk_X11_115 (cw_k Bh_24.2.2.1 k0) rfl (by decide) rfl hl.1 rfl (Nat.le_of_ble_eq_true rfl) dX11_proves_102 ⟨Nat.le_refl _, Nat.le_refl _⟩) (fun _ _ h => ⟨cw_tr Bh_24.2.2.1 h (by decide), rofw_tr Bh_24.2.2.2 (rofw_cw h (by decide))⟩) rfl (fun rh_25 αh_25 Hh_25 Lh_25 ph_25 Bh_25 => ?_)
              exact q_iret C Bh_25 hr hlk Bh_25.2.2 dX11_proves_105
            ·
              have kbh_21 : hp_K α bh_21 = 3 := cw_k' Bh_21.2.2.1 (ph_21.2 bh_21 rfl)
              refine lv_astore (lv' := [(5, .ref bh_21), (4, .ref bh_12), (3, .ref bh_6), (0, .ref a0), (1, .int a1), (2, .int a2)]) hx hb dX11_proves_72 hl (by decide) rfl (fun ls hl => hp_n (n := 74) rfl ?_)
              refine lv_aload_n hx hb dX11_proves_74 rfl (lv_at hl 3 rfl) (hp_n (n := 75) rfl ?_)
              refine lv_aload_n hx hb dX11_proves_75 rfl (lv_at hl 3 rfl) (hp_n (n := 76) rfl ?_)
              refine q_gets (κ := 12) (k := 1) (φ := 601) (pc' := 79) C Bh_21 (cw_k Bh_21.2.2.1 k0) fl_X11_16 rfl rfl rfl eb_5 dX11_proves_76 rfl ?_
              refine lv_aload hx hb dX11_proves_79 (lv_at hl 0 rfl) (hp_n (n := 81) rfl ?_)
              refine lv_aload_n hx hb dX11_proves_81 rfl (lv_at hl 2 rfl) (hp_n (n := 82) rfl ?_)
              refine q_getj (κ := 2) (k := 1) (φ := 101) (pc' := 85) C Bh_21 (cw_k Bh_21.2.2.1 kbh_6) fl_X11_207 rfl rfl rfl ex_17 dX11_proves_82 rfl ?_
              refine lv_aload_n hx hb dX11_proves_85 rfl (lv_at hl 2 rfl) (hp_n (n := 86) rfl ?_)
              refine q_geti (κ := 2) (k := 2) (φ := 102) (pc' := 89) C Bh_21 (cw_k Bh_21.2.2.1 kbh_6) fl_X11_210 rfl rfl rfl dX11_proves_86 rfl (fun x_26 ex_26 => ?_)
              refine lv_aload hx hb dX11_proves_89 (lv_at hl 1 rfl) (hp_n (n := 91) rfl ?_)
              refine q_getj (κ := 2) (k := 1) (φ := 101) (pc' := 94) C Bh_21 (cw_k Bh_21.2.2.1 kbh_12) fl_X11_207 rfl rfl rfl ex_18 dX11_proves_91 rfl ?_
              refine lv_aload hx hb dX11_proves_94 (lv_at hl 1 rfl) (hp_n (n := 96) rfl ?_)
              refine q_geti (κ := 2) (k := 2) (φ := 102) (pc' := 99) C Bh_21 (cw_k Bh_21.2.2.1 kbh_12) fl_X11_210 rfl rfl rfl dX11_proves_96 rfl (fun x_27 ex_27 => ?_)
              refine q_ci (pc' := 102) Bh_21 (hp_runV (As := [va_rf (some bh_21), .int x_17, .int x_26, .int x_18, .int x_27]) (rest := [.ref a0]) C Bh_21 (t_X10_whyGrown_R (ra := ra) (rb := rb) Γ l α Bh_21.2.2.1.1 b_5 (cw_k Bh_21.2.2.1 kb_5) (some bh_21) (fun b h => by cases h; exact (cw_k Bh_21.2.2.1 kbh_21)) x_17 x_26 x_18 x_27 (by rw [cw_R Bh_21.2.2.1 _ (by decide), eb_5, cw_R B.2.2.1 a0 (by decide)]; exact oA) (by rw [cw_R Bh_21.2.2.1 _ (by decide), cw_R Bh_21.2.2.1 _ (by decide), eb_5, cw_R B.2.2.1 a0 (by decide)]; exact oB)) lb_X10_whyGrown lv_X10_whyGrown lk_X11_342 (cw_k Bh_21.2.2.1 kb_5) rfl (by decide) rfl hl.1 rfl (Nat.le_of_ble_eq_true rfl) dX11_proves_99 ⟨Nat.le_refl _, Nat.le_refl _⟩) (fun _ _ h => ⟨cw_tr Bh_21.2.2.1 h.1 (by decide), rofw_tr Bh_21.2.2.2 h.2⟩) rfl (fun rh_28 αh_28 Hh_28 Lh_28 ph_28 Bh_28 => ?_)
              refine q_ci (pc' := 105) Bh_28 (hp_runV (As := [.int rh_28]) (rest := []) C Bh_28 (t_X11_answer Γ l αh_28 Bh_28.2.2.1.1 a0 (cw_k Bh_28.2.2.1 k0) rh_28) lb_X11_answer lv_X11_answer lk_X11_115 (cw_k Bh_28.2.2.1 k0) rfl (by decide) rfl hl.1 rfl (Nat.le_of_ble_eq_true rfl) dX11_proves_102 ⟨Nat.le_refl _, Nat.le_refl _⟩) (fun _ _ h => ⟨cw_tr Bh_28.2.2.1 h (by decide), rofw_tr Bh_28.2.2.2 (rofw_cw h (by decide))⟩) rfl (fun rh_29 αh_29 Hh_29 Lh_29 ph_29 Bh_29 => ?_)
              exact q_iret C Bh_29 hr hlk Bh_29.2.2 dX11_proves_105
          ·
            have jc_19 := il_nle c_19
            exact J54 Hh_12 Lh_12 Bh_12 ls (lv_sub hl [2] rfl)
    ·
      have jc_4 := il_nle c_4
      exact J8 s.heap [] B ls (lv_sub hl [0] rfl)
set_option maxRecDepth 100000 in
set_option maxHeartbeats 4000000 in
theorem t_X11_sick_R {ra rb : List Nat} (Γ : hp_G) (l : Launch) (α : hp_T) (g : GC α) (a0 : Nat) (k0 : hp_K α a0 = 12) (a1 : Int32) (oA : (hp_R α 614 a0) ∈ ra) (oB : hp_R α 300 (hp_R α 614 a0) ∈ rb) : Met l yX11_sick (hp_ws yX11_sick cX11_sick 3 (some .int)) (hp_rm 4 0 0) (hp_Pc Γ α [.ref a0, .int a1]) (hp_Qi Γ (fun r β => cwr ra rb w_X11_sick α β)) 0 0 (hp_A Γ) := by
  refine hp_start (by decide) ?_
  intro p e s m below meth c C hr hlk B0 hnm
  have C : hp_C Γ p m c cX11_sick 3 s ([.ref a0, .int a1] : List Value).toArray RX11 := C
  have hx := C.1.1
  have hb := C.1.2.1
  have hown := C.1.2.2.2.1
  have hts := C.1.2.2.2.2
  have B : hp_B Γ (cwr ra rb w_X11_sick) s α α s.heap [] := ⟨B0.1, B0.2.1, cw_rf g, rofw_rf⟩
  have lit0 : (0 : Int32).toInt = 0 := by decide
  have lit1 : (1 : Int32).toInt = 1 := by decide
  have lit5 : (5 : Int32).toInt = 5 := by decide
  have hl := lv_entry ([.ref a0, .int a1]) (n := 3) (Nat.le_of_ble_eq_true rfl)
  show W p l e (hp_rm 4 0 0) s m ([.ref a0, .int a1] : List Value).toArray below meth c s.heap [] 0 0 (MQ below (hp_Qi Γ (fun r β => cwr ra rb w_X11_sick α β)) ([.ref a0, .int a1] : List Value).toArray s 0 0 (hp_A Γ)) (entryFrame m ([.ref a0, .int a1] : List Value).toArray 3)
  rw [lg_entry_eq]
  generalize (lg_sl ([.ref a0, .int a1]) ++ List.replicate (3 - (lg_sl ([.ref a0, .int a1])).length) Slot.unset).toArray = ls at hl ⊢
  have hl : lv_has ls 3 [(0, .ref a0), (1, .int a1)] := hl
  refine lv_iload_n hx hb dX11_sick_0 rfl (lv_at hl 1 rfl) (hp_n (n := 1) rfl ?_)
  refine lv_if_ge (tgt := 10) hx hb dX11_sick_1 (by decide) (fun c_1 => ?_) (fun c_1 => hp_n (n := 4) rfl ?_)
  ·
    have jc_1 := il_le c_1
    refine lv_aload_n hx hb dX11_sick_10 rfl (lv_at hl 0 rfl) (hp_n (n := 11) rfl ?_)
    refine q_getr (κ := 12) (k := 1) (φ := 601) (pc' := 14) C B (cw_k B.2.2.1 k0) fl_X11_16 rfl rfl rfl (cw_r B.2.2.1 k0 rfl rfl (by decide) (by decide)) dX11_sick_11 rfl (fun b_2 eb_2 kb_2 => ?_)
    refine lv_iload_n hx hb dX11_sick_14 rfl (lv_at hl 1 rfl) (hp_n (n := 15) rfl ?_)
    refine q_cq (pc' := 18) B (hp_runV (As := [.int a1]) (rest := []) C B (t_X10_frozenAt Γ l α B.2.2.1.1 b_2 (cw_k B.2.2.1 kb_2) a1) lb_X10_frozenAt lv_X10_frozenAt lk_X11_198 (cw_k B.2.2.1 kb_2) rfl (by decide) rfl hl.1 rfl (Nat.le_of_ble_eq_true rfl) dX11_sick_15 ⟨Nat.le_refl _, Nat.le_refl _⟩) (fun _ _ h => by rw [h.1]; exact B.2.2) rfl (fun rh_3 αh_3 Hh_3 Lh_3 ph_3 Bh_3 => ?_)
    rw [ph_3.1] at Bh_3
    rcases rh_3 with _ | bh_3
    ·
      refine lv_astore_nN (lv' := [(2, .null), (0, .ref a0), (1, .int a1)]) hx hb dX11_sick_18 rfl hl (by decide) rfl (fun ls hl => hp_n (n := 19) rfl ?_)
      refine lv_aload_nN hx hb dX11_sick_19 rfl (lv_at hl 0 rfl) (hp_n (n := 20) rfl ?_)
      refine lv_ifnonnullN hx hb dX11_sick_20 (hp_n (n := 23) rfl ?_)
      refine lv_aload_n hx hb dX11_sick_23 rfl (lv_at hl 1 rfl) (hp_n (n := 24) rfl ?_)
      refine lv_iconst (v := 5) hx hb dX11_sick_24 (by decide) (hp_n (n := 25) rfl ?_)
      refine q_ci (pc' := 28) Bh_3 (hp_runV (As := [.int 5]) (rest := []) C Bh_3 (t_X11_refuse Γ l α Bh_3.2.2.1.1 a0 (cw_k Bh_3.2.2.1 k0) 5) lb_X11_refuse lv_X11_refuse lk_X11_98 (cw_k Bh_3.2.2.1 k0) rfl (by decide) rfl hl.1 rfl (Nat.le_of_ble_eq_true rfl) dX11_sick_25 ⟨Nat.le_refl _, Nat.le_refl _⟩) (fun _ _ h => ⟨cw_tr Bh_3.2.2.1 h (by decide), rofw_tr Bh_3.2.2.2 (rofw_cw h (by decide))⟩) rfl (fun rh_4 αh_4 Hh_4 Lh_4 ph_4 Bh_4 => ?_)
      refine lv_goto (tgt := 47) hx hb dX11_sick_28 (by decide) ?_
      exact q_iret C Bh_4 hr hlk Bh_4.2.2 dX11_sick_47
    ·
      have kbh_3 : hp_K α bh_3 = 2 := cw_k' Bh_3.2.2.1 (ph_3.2 bh_3 rfl)
      refine lv_astore_n (lv' := [(2, .ref bh_3), (0, .ref a0), (1, .int a1)]) hx hb dX11_sick_18 rfl hl (by decide) rfl (fun ls hl => hp_n (n := 19) rfl ?_)
      refine lv_aload_n hx hb dX11_sick_19 rfl (lv_at hl 0 rfl) (hp_n (n := 20) rfl ?_)
      refine lv_ifnonnull (tgt := 31) hx hb dX11_sick_20 (by decide) ?_
      refine lv_aload_n hx hb dX11_sick_31 rfl (lv_at hl 1 rfl) (hp_n (n := 32) rfl ?_)
      refine lv_aload_n hx hb dX11_sick_32 rfl (lv_at hl 1 rfl) (hp_n (n := 33) rfl ?_)
      refine q_gets (κ := 12) (k := 1) (φ := 601) (pc' := 36) C Bh_3 (cw_k Bh_3.2.2.1 k0) fl_X11_16 rfl rfl rfl eb_2 dX11_sick_33 rfl ?_
      refine lv_aload_n hx hb dX11_sick_36 rfl (lv_at hl 0 rfl) (hp_n (n := 37) rfl ?_)
      refine lv_aload_n hx hb dX11_sick_37 rfl (lv_at hl 1 rfl) (hp_n (n := 38) rfl ?_)
      refine q_getr (κ := 12) (k := 14) (φ := 614) (pc' := 41) C Bh_3 (cw_k Bh_3.2.2.1 k0) fl_X11_69 rfl rfl rfl (cw_r Bh_3.2.2.1 k0 rfl rfl (by decide) (by decide)) dX11_sick_38 rfl (fun b_5 eb_5 kb_5 => ?_)
      refine q_ci (pc' := 44) Bh_3 (hp_runV (As := [.ref bh_3, .ref b_5]) (rest := [.ref a0]) C Bh_3 (t_X10_sickBits_R (ra := ra) (rb := rb) Γ l α Bh_3.2.2.1.1 b_2 (cw_k Bh_3.2.2.1 kb_2) bh_3 (cw_k Bh_3.2.2.1 kbh_3) b_5 (cw_k Bh_3.2.2.1 kb_5) (by rw [eb_5, cw_R Bh_3.2.2.1 a0 (by decide)]; exact oA) (by rw [cw_R Bh_3.2.2.1 _ (by decide), eb_5, cw_R Bh_3.2.2.1 a0 (by decide)]; exact oB)) lb_X10_sickBits lv_X10_sickBits lk_X11_399 (cw_k Bh_3.2.2.1 kb_2) rfl (by decide) rfl hl.1 rfl (Nat.le_of_ble_eq_true rfl) dX11_sick_41 ⟨Nat.le_refl _, Nat.le_refl _⟩) (fun _ _ h => ⟨cw_tr Bh_3.2.2.1 h.1 (by decide), rofw_tr Bh_3.2.2.2 h.2⟩) rfl (fun rh_6 αh_6 Hh_6 Lh_6 ph_6 Bh_6 => ?_)
      refine q_ci (pc' := 47) Bh_6 (hp_runV (As := [.int rh_6]) (rest := []) C Bh_6 (t_X11_answer Γ l αh_6 Bh_6.2.2.1.1 a0 (cw_k Bh_6.2.2.1 k0) rh_6) lb_X11_answer lv_X11_answer lk_X11_115 (cw_k Bh_6.2.2.1 k0) rfl (by decide) rfl hl.1 rfl (Nat.le_of_ble_eq_true rfl) dX11_sick_44 ⟨Nat.le_refl _, Nat.le_refl _⟩) (fun _ _ h => ⟨cw_tr Bh_6.2.2.1 h (by decide), rofw_tr Bh_6.2.2.2 (rofw_cw h (by decide))⟩) rfl (fun rh_7 αh_7 Hh_7 Lh_7 ph_7 Bh_7 => ?_)
      exact q_iret C Bh_7 hr hlk Bh_7.2.2 dX11_sick_47
  ·
    have jc_1 := il_nle c_1
    refine lv_aload_n hx hb dX11_sick_4 rfl (lv_at hl 0 rfl) (hp_n (n := 5) rfl ?_)
    refine lv_iconst (v := 1) hx hb dX11_sick_5 (by decide) (hp_n (n := 6) rfl ?_)
    refine q_ci (pc' := 9) B (hp_runV (As := [.int 1]) (rest := []) C B (t_X11_refuse Γ l α B.2.2.1.1 a0 (cw_k B.2.2.1 k0) 1) lb_X11_refuse lv_X11_refuse lk_X11_98 (cw_k B.2.2.1 k0) rfl (by decide) rfl hl.1 rfl (Nat.le_of_ble_eq_true rfl) dX11_sick_6 ⟨Nat.le_refl _, Nat.le_refl _⟩) (fun _ _ h => ⟨cw_tr B.2.2.1 h (by decide), rofw_tr B.2.2.2 (rofw_cw h (by decide))⟩) rfl (fun rh_8 αh_8 Hh_8 Lh_8 ph_8 Bh_8 => ?_)
    exact q_iret C Bh_8 hr hlk Bh_8.2.2 dX11_sick_9
set_option maxRecDepth 100000 in
set_option maxHeartbeats 4000000 in
theorem t_X11_clash_R {ra rb : List Nat} (Γ : hp_G) (l : Launch) (α : hp_T) (g : GC α) (a0 : Nat) (k0 : hp_K α a0 = 12) (a1 : Int32) (a2 : Int32) (a3 : Int32) (a4 : Int32) (a5 : Int32) (oA : (hp_R α 614 a0) ∈ ra) (oB : hp_R α 300 (hp_R α 614 a0) ∈ rb) : Met l yX11_clash (hp_ws yX11_clash cX11_clash 13 (some .int)) (hp_rm 4 0 0) (hp_Pc Γ α [.ref a0, .int a1, .int a2, .int a3, .int a4, .int a5]) (hp_Qi Γ (fun r β => cwr ra rb w_X11_clash α β)) 0 0 (hp_A Γ) := by
  refine hp_start (by decide) ?_
  intro p e s m below meth c C hr hlk B0 hnm
  have C : hp_C Γ p m c cX11_clash 13 s ([.ref a0, .int a1, .int a2, .int a3, .int a4, .int a5] : List Value).toArray RX11 := C
  have hx := C.1.1
  have hb := C.1.2.1
  have hown := C.1.2.2.2.1
  have hts := C.1.2.2.2.2
  have B : hp_B Γ (cwr ra rb w_X11_clash) s α α s.heap [] := ⟨B0.1, B0.2.1, cw_rf g, rofw_rf⟩
  have lit0 : (0 : Int32).toInt = 0 := by decide
  have lit1 : (1 : Int32).toInt = 1 := by decide
  have lit2 : (2 : Int32).toInt = 2 := by decide
  have lit3 : (3 : Int32).toInt = 3 := by decide
  have lit4 : (4 : Int32).toInt = 4 := by decide
  have lit5 : (5 : Int32).toInt = 5 := by decide
  have hl := lv_entry ([.ref a0, .int a1, .int a2, .int a3, .int a4, .int a5]) (n := 13) (Nat.le_of_ble_eq_true rfl)
  show W p l e (hp_rm 4 0 0) s m ([.ref a0, .int a1, .int a2, .int a3, .int a4, .int a5] : List Value).toArray below meth c s.heap [] 0 0 (MQ below (hp_Qi Γ (fun r β => cwr ra rb w_X11_clash α β)) ([.ref a0, .int a1, .int a2, .int a3, .int a4, .int a5] : List Value).toArray s 0 0 (hp_A Γ)) (entryFrame m ([.ref a0, .int a1, .int a2, .int a3, .int a4, .int a5] : List Value).toArray 13)
  rw [lg_entry_eq]
  generalize (lg_sl ([.ref a0, .int a1, .int a2, .int a3, .int a4, .int a5]) ++ List.replicate (13 - (lg_sl ([.ref a0, .int a1, .int a2, .int a3, .int a4, .int a5])).length) Slot.unset).toArray = ls at hl ⊢
  have hl : lv_has ls 13 [(0, .ref a0), (1, .int a1), (2, .int a2), (3, .int a3), (4, .int a4), (5, .int a5)] := hl
  refine lv_iload hx hb dX11_clash_0 (lv_at hl 5 rfl) (hp_n (n := 2) rfl ?_)
  have J20 : ∀ (Hh_1 : Heap) (Lh_1 : List Loc) (Bh_1 : hp_B Γ (cwr ra rb w_X11_clash) s α α Hh_1 Lh_1) (ls : Array Slot) (hl : lv_has ls 13 [(0, .ref a0)]), W p l e (hp_rm 4 0 0) s m ([.ref a0, .int a1, .int a2, .int a3, .int a4, .int a5] : List Value).toArray below meth c Hh_1 Lh_1 0 0 (MQ below (hp_Qi Γ (fun r β => cwr ra rb w_X11_clash α β)) ([.ref a0, .int a1, .int a2, .int a3, .int a4, .int a5] : List Value).toArray s 0 0 (hp_A Γ)) (F0 m 20 ls []) := by
    intro Hh_1 Lh_1 Bh_1 ls hl
    refine lv_aload_n hx hb dX11_clash_20 rfl (lv_at hl 0 rfl) (hp_n (n := 21) rfl ?_)
    refine lv_iconst (v := 1) hx hb dX11_clash_21 (by decide) (hp_n (n := 22) rfl ?_)
    refine q_ci (pc' := 25) Bh_1 (hp_runV (As := [.int 1]) (rest := []) C Bh_1 (t_X11_refuse Γ l α Bh_1.2.2.1.1 a0 (cw_k Bh_1.2.2.1 k0) 1) lb_X11_refuse lv_X11_refuse lk_X11_98 (cw_k Bh_1.2.2.1 k0) rfl (by decide) rfl hl.1 rfl (Nat.le_of_ble_eq_true rfl) dX11_clash_22 ⟨Nat.le_refl _, Nat.le_refl _⟩) (fun _ _ h => ⟨cw_tr Bh_1.2.2.1 h (by decide), rofw_tr Bh_1.2.2.2 (rofw_cw h (by decide))⟩) rfl (fun rh_2 αh_2 Hh_2 Lh_2 ph_2 Bh_2 => ?_)
    exact q_iret C Bh_2 hr hlk Bh_2.2.2 dX11_clash_25
  refine lv_if_lt (tgt := 20) hx hb dX11_clash_2 (by decide) (fun c_3 => ?_) (fun c_3 => hp_n (n := 5) rfl ?_)
  ·
    have jc_3 := il_lt c_3
    exact J20 s.heap [] B ls (lv_sub hl [0] rfl)
  ·
    have jc_3 := il_nlt c_3
    refine lv_iload hx hb dX11_clash_5 (lv_at hl 5 rfl) (hp_n (n := 7) rfl ?_)
    refine lv_iconst (v := 4) hx hb dX11_clash_7 (by decide) (hp_n (n := 8) rfl ?_)
    refine lv_icmp_gt (tgt := 20) hx hb dX11_clash_8 (by decide) (fun c_4 => ?_) (fun c_4 => hp_n (n := 11) rfl ?_)
    ·
      have jc_4 := il_lt c_4
      exact J20 s.heap [] B ls (lv_sub hl [0] rfl)
    ·
      have jc_4 := il_nlt c_4
      refine lv_aload_n hx hb dX11_clash_11 rfl (lv_at hl 0 rfl) (hp_n (n := 12) rfl ?_)
      refine lv_iload hx hb dX11_clash_12 (lv_at hl 4 rfl) (hp_n (n := 14) rfl ?_)
      refine q_ci (pc' := 17) B (hp_runV (As := [.int a4]) (rest := []) C B (t_X11_isMark Γ l α B.2.2.1.1 a0 (cw_k B.2.2.1 k0) a4) lb_X11_isMark lv_X11_isMark lk_X11_188 (cw_k B.2.2.1 k0) rfl (by decide) rfl hl.1 rfl (Nat.le_of_ble_eq_true rfl) dX11_clash_14 ⟨Nat.le_refl _, Nat.le_refl _⟩) (fun _ _ h => by rw [h.1]; exact B.2.2) rfl (fun rh_5 αh_5 Hh_5 Lh_5 ph_5 Bh_5 => ?_)
      rw [ph_5.1] at Bh_5
      have zh_5 := ph_5.2
      refine lv_if_ne (tgt := 26) hx hb dX11_clash_17 (by decide) (fun c_6 => ?_) (fun c_6 => hp_n (n := 20) rfl ?_)
      ·
        have jc_6 := il_ne c_6
        refine lv_aload_n hx hb dX11_clash_26 rfl (lv_at hl 0 rfl) (hp_n (n := 27) rfl ?_)
        refine q_getr (κ := 12) (k := 1) (φ := 601) (pc' := 30) C Bh_5 (cw_k Bh_5.2.2.1 k0) fl_X11_16 rfl rfl rfl (cw_r Bh_5.2.2.1 k0 rfl rfl (by decide) (by decide)) dX11_clash_27 rfl (fun b_7 eb_7 kb_7 => ?_)
        refine lv_iload_n hx hb dX11_clash_30 rfl (lv_at hl 1 rfl) (hp_n (n := 31) rfl ?_)
        refine q_cq (pc' := 34) Bh_5 (hp_runV (As := [.int a1]) (rest := []) C Bh_5 (t_X10_logAt Γ l α Bh_5.2.2.1.1 b_7 (cw_k Bh_5.2.2.1 kb_7) a1) lb_X10_logAt lv_X10_logAt lk_X11_163 (cw_k Bh_5.2.2.1 kb_7) rfl (by decide) rfl hl.1 rfl (Nat.le_of_ble_eq_true rfl) dX11_clash_31 ⟨Nat.le_refl _, Nat.le_refl _⟩) (fun _ _ h => by rw [h.1]; exact Bh_5.2.2) rfl (fun rh_8 αh_8 Hh_8 Lh_8 ph_8 Bh_8 => ?_)
        rw [ph_8.1] at Bh_8
        rcases rh_8 with _ | bh_8
        ·
          refine lv_astoreN (lv' := [(6, .null), (0, .ref a0), (1, .int a1), (2, .int a2), (3, .int a3), (4, .int a4), (5, .int a5)]) hx hb dX11_clash_34 hl (by decide) rfl (fun ls hl => hp_n (n := 36) rfl ?_)
          refine lv_aloadN hx hb dX11_clash_36 (lv_at hl 0 rfl) (hp_n (n := 38) rfl ?_)
          refine lv_iload_n hx hb dX11_clash_38 rfl (lv_at hl 3 rfl) (hp_n (n := 39) rfl ?_)
          refine lv_iload_n hx hb dX11_clash_39 rfl (lv_at hl 4 rfl) (hp_n (n := 40) rfl ?_)
          refine q_ci (pc' := 43) Bh_8 (hp_runS (As := [va_rf none, .int a2, .int a3]) (rest := []) C Bh_8 (t_X11_wrongInclusion Γ l α Bh_8.2.2.1.1 none (fun b h => by cases h) a2 a3) lb_X11_wrongInclusion ls_X11_wrongInclusion lk_X11_264 rfl (by decide) rfl hl.1 rfl (Nat.le_of_ble_eq_true rfl) dX11_clash_40 ⟨Nat.le_refl _, Nat.le_refl _⟩) (fun _ _ h => by rw [h]; exact Bh_8.2.2) rfl (fun rh_9 αh_9 Hh_9 Lh_9 ph_9 Bh_9 => ?_)
          rw [ph_9] at Bh_9
          refine lv_istore (lv' := [(7, .int rh_9), (6, .null), (0, .ref a0), (1, .int a1), (2, .int a2), (3, .int a3), (4, .int a4), (5, .int a5)]) hx hb dX11_clash_43 hl (by decide) rfl (fun ls hl => hp_n (n := 45) rfl ?_)
          refine lv_iload hx hb dX11_clash_45 (lv_at hl 0 rfl) (hp_n (n := 47) rfl ?_)
          have J55 : ∀ (Hh_10 : Heap) (Lh_10 : List Loc) (Bh_10 : hp_B Γ (cwr ra rb w_X11_clash) s α α Hh_10 Lh_10) (ls : Array Slot) (hl : lv_has ls 13 [(0, .ref a0), (7, .int rh_9)]), W p l e (hp_rm 4 0 0) s m ([.ref a0, .int a1, .int a2, .int a3, .int a4, .int a5] : List Value).toArray below meth c Hh_10 Lh_10 0 0 (MQ below (hp_Qi Γ (fun r β => cwr ra rb w_X11_clash α β)) ([.ref a0, .int a1, .int a2, .int a3, .int a4, .int a5] : List Value).toArray s 0 0 (hp_A Γ)) (F0 m 55 ls []) := by
            intro Hh_10 Lh_10 Bh_10 ls hl
            refine lv_aload_n hx hb dX11_clash_55 rfl (lv_at hl 0 rfl) (hp_n (n := 56) rfl ?_)
            refine lv_iload hx hb dX11_clash_56 (lv_at hl 1 rfl) (hp_n (n := 58) rfl ?_)
            refine q_ci (pc' := 61) Bh_10 (hp_runV (As := [.int rh_9]) (rest := []) C Bh_10 (t_X11_refuse Γ l α Bh_10.2.2.1.1 a0 (cw_k Bh_10.2.2.1 k0) rh_9) lb_X11_refuse lv_X11_refuse lk_X11_98 (cw_k Bh_10.2.2.1 k0) rfl (by decide) rfl hl.1 rfl (Nat.le_of_ble_eq_true rfl) dX11_clash_58 ⟨Nat.le_refl _, Nat.le_refl _⟩) (fun _ _ h => ⟨cw_tr Bh_10.2.2.1 h (by decide), rofw_tr Bh_10.2.2.2 (rofw_cw h (by decide))⟩) rfl (fun rh_11 αh_11 Hh_11 Lh_11 ph_11 Bh_11 => ?_)
            exact q_iret C Bh_11 hr hlk Bh_11.2.2 dX11_clash_61
          refine lv_if_ne (tgt := 55) hx hb dX11_clash_47 (by decide) (fun c_12 => ?_) (fun c_12 => hp_n (n := 50) rfl ?_)
          ·
            have jc_12 := il_ne c_12
            exact J55 Hh_9 Lh_9 Bh_9 ls (lv_sub hl [2, 0] rfl)
          ·
            have jc_12 := il_eq c_12
            refine lv_aloadN hx hb dX11_clash_50 (lv_at hl 1 rfl) (hp_n (n := 52) rfl ?_)
            refine lv_ifnonnullN hx hb dX11_clash_52 (hp_n (n := 55) rfl ?_)
            exact J55 Hh_9 Lh_9 Bh_9 ls (lv_sub hl [2, 0] rfl)
        ·
          have kbh_8 : hp_K α bh_8 = 3 := cw_k' Bh_8.2.2.1 (ph_8.2 bh_8 rfl)
          refine lv_astore (lv' := [(6, .ref bh_8), (0, .ref a0), (1, .int a1), (2, .int a2), (3, .int a3), (4, .int a4), (5, .int a5)]) hx hb dX11_clash_34 hl (by decide) rfl (fun ls hl => hp_n (n := 36) rfl ?_)
          refine lv_aload hx hb dX11_clash_36 (lv_at hl 0 rfl) (hp_n (n := 38) rfl ?_)
          refine lv_iload_n hx hb dX11_clash_38 rfl (lv_at hl 3 rfl) (hp_n (n := 39) rfl ?_)
          refine lv_iload_n hx hb dX11_clash_39 rfl (lv_at hl 4 rfl) (hp_n (n := 40) rfl ?_)
          refine q_ci (pc' := 43) Bh_8 (hp_runS (As := [va_rf (some bh_8), .int a2, .int a3]) (rest := []) C Bh_8 (t_X11_wrongInclusion Γ l α Bh_8.2.2.1.1 (some bh_8) (fun b h => by cases h; exact (cw_k Bh_8.2.2.1 kbh_8)) a2 a3) lb_X11_wrongInclusion ls_X11_wrongInclusion lk_X11_264 rfl (by decide) rfl hl.1 rfl (Nat.le_of_ble_eq_true rfl) dX11_clash_40 ⟨Nat.le_refl _, Nat.le_refl _⟩) (fun _ _ h => by rw [h]; exact Bh_8.2.2) rfl (fun rh_13 αh_13 Hh_13 Lh_13 ph_13 Bh_13 => ?_)
          rw [ph_13] at Bh_13
          refine lv_istore (lv' := [(7, .int rh_13), (6, .ref bh_8), (0, .ref a0), (1, .int a1), (2, .int a2), (3, .int a3), (4, .int a4), (5, .int a5)]) hx hb dX11_clash_43 hl (by decide) rfl (fun ls hl => hp_n (n := 45) rfl ?_)
          refine lv_iload hx hb dX11_clash_45 (lv_at hl 0 rfl) (hp_n (n := 47) rfl ?_)
          have J55 : ∀ (Hh_14 : Heap) (Lh_14 : List Loc) (Bh_14 : hp_B Γ (cwr ra rb w_X11_clash) s α α Hh_14 Lh_14) (ls : Array Slot) (hl : lv_has ls 13 [(0, .ref a0), (7, .int rh_13)]), W p l e (hp_rm 4 0 0) s m ([.ref a0, .int a1, .int a2, .int a3, .int a4, .int a5] : List Value).toArray below meth c Hh_14 Lh_14 0 0 (MQ below (hp_Qi Γ (fun r β => cwr ra rb w_X11_clash α β)) ([.ref a0, .int a1, .int a2, .int a3, .int a4, .int a5] : List Value).toArray s 0 0 (hp_A Γ)) (F0 m 55 ls []) := by
            intro Hh_14 Lh_14 Bh_14 ls hl
            refine lv_aload_n hx hb dX11_clash_55 rfl (lv_at hl 0 rfl) (hp_n (n := 56) rfl ?_)
            refine lv_iload hx hb dX11_clash_56 (lv_at hl 1 rfl) (hp_n (n := 58) rfl ?_)
            refine q_ci (pc' := 61) Bh_14 (hp_runV (As := [.int rh_13]) (rest := []) C Bh_14 (t_X11_refuse Γ l α Bh_14.2.2.1.1 a0 (cw_k Bh_14.2.2.1 k0) rh_13) lb_X11_refuse lv_X11_refuse lk_X11_98 (cw_k Bh_14.2.2.1 k0) rfl (by decide) rfl hl.1 rfl (Nat.le_of_ble_eq_true rfl) dX11_clash_58 ⟨Nat.le_refl _, Nat.le_refl _⟩) (fun _ _ h => ⟨cw_tr Bh_14.2.2.1 h (by decide), rofw_tr Bh_14.2.2.2 (rofw_cw h (by decide))⟩) rfl (fun rh_15 αh_15 Hh_15 Lh_15 ph_15 Bh_15 => ?_)
            exact q_iret C Bh_15 hr hlk Bh_15.2.2 dX11_clash_61
          refine lv_if_ne (tgt := 55) hx hb dX11_clash_47 (by decide) (fun c_16 => ?_) (fun c_16 => hp_n (n := 50) rfl ?_)
          ·
            have jc_16 := il_ne c_16
            exact J55 Hh_13 Lh_13 Bh_13 ls (lv_sub hl [2, 0] rfl)
          ·
            have jc_16 := il_eq c_16
            refine lv_aload hx hb dX11_clash_50 (lv_at hl 1 rfl) (hp_n (n := 52) rfl ?_)
            refine lv_ifnonnull (tgt := 62) hx hb dX11_clash_52 (by decide) ?_
            refine lv_aload_n hx hb dX11_clash_62 rfl (lv_at hl 2 rfl) (hp_n (n := 63) rfl ?_)
            refine q_getr (κ := 12) (k := 12) (φ := 612) (pc' := 66) C Bh_13 (cw_k Bh_13.2.2.1 k0) fl_X11_62 rfl rfl rfl (cw_r Bh_13.2.2.1 k0 rfl rfl (by decide) (by decide)) dX11_clash_63 rfl (fun b_17 eb_17 kb_17 => ?_)
            refine lv_iload_n hx hb dX11_clash_66 rfl (lv_at hl 4 rfl) (hp_n (n := 67) rfl ?_)
            refine lv_iload_n hx hb dX11_clash_67 rfl (lv_at hl 5 rfl) (hp_n (n := 68) rfl ?_)
            refine q_cv (pc' := 71) Bh_13 (hp_runV (As := [.int a2, .int a3]) (rest := []) C Bh_13 (t_X8_toThing Γ l α Bh_13.2.2.1.1 b_17 (cw_k Bh_13.2.2.1 kb_17) a2 a3) lb_X8_toThing lv_X8_toThing lk_X11_267 (cw_k Bh_13.2.2.1 kb_17) rfl (by decide) rfl hl.1 rfl (Nat.le_of_ble_eq_true rfl) dX11_clash_68 ⟨Nat.le_refl _, Nat.le_refl _⟩) (fun _ h => ⟨cw_tr Bh_13.2.2.1 h (by decide), rofw_tr Bh_13.2.2.2 (rofw_cw h (by decide))⟩) rfl (fun αh_18 Hh_18 Lh_18 ph_18 Bh_18 => ?_)
            refine lv_aload_n hx hb dX11_clash_71 rfl (lv_at hl 2 rfl) (hp_n (n := 72) rfl ?_)
            have t_19 : b_17 = hp_R αh_18 612 a0 := by rw [cw_R ph_18 a0 (by decide)]; exact eb_17
            refine q_gets (κ := 12) (k := 12) (φ := 612) (pc' := 75) C Bh_18 (cw_k Bh_18.2.2.1 k0) fl_X11_62 rfl rfl rfl t_19 dX11_clash_72 rfl ?_
            refine lv_aload_n hx hb dX11_clash_75 rfl (lv_at hl 2 rfl) (hp_n (n := 76) rfl ?_)
            have t_20 : b_7 = hp_R αh_18 601 a0 := by rw [cw_R ph_18 a0 (by decide)]; exact eb_7
            refine q_gets (κ := 12) (k := 1) (φ := 601) (pc' := 79) C Bh_18 (cw_k Bh_18.2.2.1 k0) fl_X11_16 rfl rfl rfl t_20 dX11_clash_76 rfl ?_
            refine q_geti (κ := 11) (k := 0) (φ := 550) (pc' := 82) C Bh_18 (cw_k Bh_18.2.2.1 kb_7) fl_X11_122 rfl rfl rfl dX11_clash_79 rfl (fun x_21 ex_21 => ?_)
            refine lv_aload_n hx hb dX11_clash_82 rfl (lv_at hl 2 rfl) (hp_n (n := 83) rfl ?_)
            refine q_getr (κ := 12) (k := 3) (φ := 603) (pc' := 86) C Bh_18 (cw_k Bh_18.2.2.1 k0) fl_X11_26 rfl rfl rfl (cw_r Bh_18.2.2.1 k0 rfl rfl (by decide) (by decide)) dX11_clash_83 rfl (fun b_22 eb_22 kb_22 => ?_)
            refine lv_iload hx hb dX11_clash_86 (lv_at hl 6 rfl) (hp_n (n := 88) rfl ?_)
            refine lv_aload_n hx hb dX11_clash_88 rfl (lv_at hl 2 rfl) (hp_n (n := 89) rfl ?_)
            refine q_gets (κ := 12) (k := 1) (φ := 601) (pc' := 92) C Bh_18 (cw_k Bh_18.2.2.1 k0) fl_X11_16 rfl rfl rfl t_20 dX11_clash_89 rfl ?_
            refine lv_aload hx hb dX11_clash_92 (lv_at hl 1 rfl) (hp_n (n := 94) rfl ?_)
            refine lv_iload_n hx hb dX11_clash_94 rfl (lv_at hl 5 rfl) (hp_n (n := 95) rfl ?_)
            refine q_ci (pc' := 98) Bh_18 (hp_runV (As := [va_rf (some bh_8), .int a3]) (rest := [.int a4, .ref b_22, .int x_21, .ref b_17]) C Bh_18 (t_X10_headOf Γ l αh_18 Bh_18.2.2.1.1 b_7 (cw_k Bh_18.2.2.1 kb_7) (some bh_8) (fun b h => by cases h; exact (cw_k Bh_18.2.2.1 kbh_8)) a3) lb_X10_headOf lv_X10_headOf lk_X11_184 (cw_k Bh_18.2.2.1 kb_7) rfl (by decide) rfl hl.1 rfl (Nat.le_of_ble_eq_true rfl) dX11_clash_95 ⟨Nat.le_refl _, Nat.le_refl _⟩) (fun _ _ h => ⟨cw_tr Bh_18.2.2.1 h (by decide), rofw_tr Bh_18.2.2.2 (rofw_cw h (by decide))⟩) rfl (fun rh_23 αh_23 Hh_23 Lh_23 ph_23 Bh_23 => ?_)
            refine q_ci (pc' := 101) Bh_23 (hp_runV (As := [.int x_21, .ref b_22, .int a4, .int rh_23]) (rest := []) C Bh_23 (t_X8_whyInclusion Γ l αh_23 Bh_23.2.2.1.1 b_17 (cw_k Bh_23.2.2.1 kb_17) x_21 b_22 (cw_k Bh_23.2.2.1 kb_22) a4 rh_23) lb_X8_whyInclusion lv_X8_whyInclusion lk_X11_304 (cw_k Bh_23.2.2.1 kb_17) rfl (by decide) rfl hl.1 rfl (Nat.le_of_ble_eq_true rfl) dX11_clash_98 ⟨Nat.le_refl _, Nat.le_refl _⟩) (fun _ _ h => by rw [h]; exact Bh_23.2.2) rfl (fun rh_24 αh_24 Hh_24 Lh_24 ph_24 Bh_24 => ?_)
            rw [ph_24] at Bh_24
            refine lv_if_eq (tgt := 110) hx hb dX11_clash_101 (by decide) (fun c_25 => ?_) (fun c_25 => hp_n (n := 104) rfl ?_)
            ·
              have jc_25 := il_eq c_25
              refine lv_aload_n hx hb dX11_clash_110 rfl (lv_at hl 2 rfl) (hp_n (n := 111) rfl ?_)
              have t_26 : b_7 = hp_R αh_23 601 a0 := by rw [cw_R ph_23 a0 (by decide)]; exact t_20
              refine q_gets (κ := 12) (k := 1) (φ := 601) (pc' := 114) C Bh_24 (cw_k Bh_24.2.2.1 k0) fl_X11_16 rfl rfl rfl t_26 dX11_clash_111 rfl ?_
              refine lv_aload_n hx hb dX11_clash_114 rfl (lv_at hl 2 rfl) (hp_n (n := 115) rfl ?_)
              have t_27 : b_17 = hp_R αh_23 612 a0 := by rw [cw_R ph_23 a0 (by decide)]; exact t_19
              refine q_gets (κ := 12) (k := 12) (φ := 612) (pc' := 118) C Bh_24 (cw_k Bh_24.2.2.1 k0) fl_X11_62 rfl rfl rfl t_27 dX11_clash_115 rfl ?_
              refine lv_aload hx hb dX11_clash_118 (lv_at hl 1 rfl) (hp_n (n := 120) rfl ?_)
              refine lv_aload_n hx hb dX11_clash_120 rfl (lv_at hl 2 rfl) (hp_n (n := 121) rfl ?_)
              refine q_getr (κ := 12) (k := 14) (φ := 614) (pc' := 124) C Bh_24 (cw_k Bh_24.2.2.1 k0) fl_X11_69 rfl rfl rfl (cw_r Bh_24.2.2.1 k0 rfl rfl (by decide) (by decide)) dX11_clash_121 rfl (fun b_28 eb_28 kb_28 => ?_)
              refine q_cv (pc' := 127) Bh_24 (hp_runV (As := [.ref b_17, va_rf (some bh_8), .ref b_28]) (rest := []) C Bh_24 (t_X10_marksAlong_R (ra := ra) (rb := rb) Γ l αh_23 Bh_24.2.2.1.1 b_7 (cw_k Bh_24.2.2.1 kb_7) b_17 (cw_k Bh_24.2.2.1 kb_17) (some bh_8) (fun b h => by cases h; exact (cw_k Bh_24.2.2.1 kbh_8)) b_28 (cw_k Bh_24.2.2.1 kb_28) (by rw [eb_28, cw_R Bh_24.2.2.1 a0 (by decide)]; exact oA) (by rw [cw_R Bh_24.2.2.1 _ (by decide), eb_28, cw_R Bh_24.2.2.1 a0 (by decide)]; exact oB)) lb_X10_marksAlong lv_X10_marksAlong lk_X11_270 (cw_k Bh_24.2.2.1 kb_7) rfl (by decide) rfl hl.1 rfl (Nat.le_of_ble_eq_true rfl) dX11_clash_124 ⟨Nat.le_refl _, Nat.le_refl _⟩) (fun _ h => ⟨cw_tr Bh_24.2.2.1 h.1 (by decide), rofw_tr Bh_24.2.2.2 h.2⟩) rfl (fun αh_29 Hh_29 Lh_29 ph_29 Bh_29 => ?_)
              refine lv_aload_n hx hb dX11_clash_127 rfl (lv_at hl 2 rfl) (hp_n (n := 128) rfl ?_)
              refine lv_aload hx hb dX11_clash_128 (lv_at hl 1 rfl) (hp_n (n := 130) rfl ?_)
              refine lv_iload_n hx hb dX11_clash_130 rfl (lv_at hl 4 rfl) (hp_n (n := 131) rfl ?_)
              refine q_ci (pc' := 134) Bh_29 (hp_runV (As := [.int a2]) (rest := [.ref a0]) C Bh_29 (t_X2_markAt Γ l αh_29 Bh_29.2.2.1.1 bh_8 (cw_k Bh_29.2.2.1 kbh_8) a2) lb_X2_markAt lv_X2_markAt lk_X11_174 (cw_k Bh_29.2.2.1 kbh_8) rfl (by decide) rfl hl.1 rfl (Nat.le_of_ble_eq_true rfl) dX11_clash_131 ⟨Nat.le_refl _, Nat.le_refl _⟩) (fun _ _ h => by rw [h]; exact Bh_29.2.2) rfl (fun rh_30 αh_30 Hh_30 Lh_30 ph_30 Bh_30 => ?_)
              rw [ph_30] at Bh_30
              refine lv_iload hx hb dX11_clash_134 (lv_at hl 6 rfl) (hp_n (n := 136) rfl ?_)
              refine q_ci (pc' := 139) Bh_30 (hp_runV (As := [.int rh_30, .int a4]) (rest := []) C Bh_30 (t_X11_clashingStep Γ l αh_29 Bh_30.2.2.1.1 a0 (cw_k Bh_30.2.2.1 k0) rh_30 a4) lb_X11_clashingStep lv_X11_clashingStep lk_X11_379 (cw_k Bh_30.2.2.1 k0) rfl (by decide) rfl hl.1 rfl (Nat.le_of_ble_eq_true rfl) dX11_clash_136 ⟨Nat.le_refl _, Nat.le_refl _⟩) (fun _ _ h => by rw [h]; exact Bh_30.2.2) rfl (fun rh_31 αh_31 Hh_31 Lh_31 ph_31 Bh_31 => ?_)
              rw [ph_31] at Bh_31
              refine lv_istore (lv' := [(8, .int rh_31), (7, .int rh_13), (6, .ref bh_8), (0, .ref a0), (1, .int a1), (2, .int a2), (3, .int a3), (4, .int a4), (5, .int a5)]) hx hb dX11_clash_139 hl (by decide) rfl (fun ls hl => hp_n (n := 141) rfl ?_)
              refine lv_iload hx hb dX11_clash_141 (lv_at hl 0 rfl) (hp_n (n := 143) rfl ?_)
              refine lv_if_ge (tgt := 152) hx hb dX11_clash_143 (by decide) (fun c_32 => ?_) (fun c_32 => hp_n (n := 146) rfl ?_)
              ·
                have jc_32 := il_le c_32
                refine lv_iload hx hb dX11_clash_152 (lv_at hl 8 rfl) (hp_n (n := 154) rfl ?_)
                refine lv_if_ne (tgt := 164) hx hb dX11_clash_154 (by decide) (fun c_33 => ?_) (fun c_33 => hp_n (n := 157) rfl ?_)
                ·
                  have jc_33 := il_ne c_33
                  refine lv_iload hx hb dX11_clash_164 (lv_at hl 8 rfl) (hp_n (n := 166) rfl ?_)
                  refine lv_iconst (v := 2) hx hb dX11_clash_166 (by decide) (hp_n (n := 167) rfl ?_)
                  refine lv_icmp_gt (tgt := 174) hx hb dX11_clash_167 (by decide) (fun c_34 => ?_) (fun c_34 => hp_n (n := 170) rfl ?_)
                  ·
                    have jc_34 := il_lt c_34
                    refine lv_iconst (v := 0) hx hb dX11_clash_174 (by decide) (hp_n (n := 175) rfl ?_)
                    refine lv_istore (lv' := [(9, .int 0), (8, .int rh_31), (7, .int rh_13), (6, .ref bh_8), (0, .ref a0), (1, .int a1), (2, .int a2), (3, .int a3), (4, .int a4), (5, .int a5)]) hx hb dX11_clash_175 hl (by decide) rfl (fun ls hl => hp_n (n := 177) rfl ?_)
                    refine lv_iload hx hb dX11_clash_177 (lv_at hl 0 rfl) (hp_n (n := 179) rfl ?_)
                    refine lv_if_eq (tgt := 189) hx hb dX11_clash_179 (by decide) (fun c_35 => ?_) (fun c_35 => hp_n (n := 182) rfl ?_)
                    rotate_left
                    · exact absurd c_35 (by decide)
                    refine lv_aload_n hx hb dX11_clash_189 rfl (lv_at hl 4 rfl) (hp_n (n := 190) rfl ?_)
                    have t_36 : b_22 = hp_R αh_23 603 a0 := by rw [cw_R ph_23 a0 (by decide)]; exact eb_22
                    have t_37 : b_22 = hp_R αh_29 603 a0 := by rw [cw_R ph_29.1 a0 (by decide)]; exact t_36
                    refine q_gets (κ := 12) (k := 3) (φ := 603) (pc' := 193) C Bh_31 (cw_k Bh_31.2.2.1 k0) fl_X11_26 rfl rfl rfl t_37 dX11_clash_190 rfl ?_
                    refine lv_astore (lv' := [(10, .ref b_22), (9, .int 0), (8, .int rh_31), (7, .int rh_13), (6, .ref bh_8), (0, .ref a0), (1, .int a1), (2, .int a2), (3, .int a3), (4, .int a4), (5, .int a5)]) hx hb dX11_clash_193 hl (by decide) rfl (fun ls hl => hp_n (n := 195) rfl ?_)
                    refine lv_aload_n hx hb dX11_clash_195 rfl (lv_at hl 5 rfl) (hp_n (n := 196) rfl ?_)
                    have t_38 : b_17 = hp_R αh_29 612 a0 := by rw [cw_R ph_29.1 a0 (by decide)]; exact t_27
                    refine q_gets (κ := 12) (k := 12) (φ := 612) (pc' := 199) C Bh_31 (cw_k Bh_31.2.2.1 k0) fl_X11_62 rfl rfl rfl t_38 dX11_clash_196 rfl ?_
                    refine lv_aload_n hx hb dX11_clash_199 rfl (lv_at hl 5 rfl) (hp_n (n := 200) rfl ?_)
                    have t_39 : b_7 = hp_R αh_29 601 a0 := by rw [cw_R ph_29.1 a0 (by decide)]; exact t_26
                    refine q_gets (κ := 12) (k := 1) (φ := 601) (pc' := 203) C Bh_31 (cw_k Bh_31.2.2.1 k0) fl_X11_16 rfl rfl rfl t_39 dX11_clash_200 rfl ?_
                    have t_40 : x_21 = hp_I αh_23 550 b_7 := by rw [cw_I ph_23 b_7 (by decide)]; exact ex_21
                    have t_41 : x_21 = hp_I αh_29 550 b_7 := by rw [cw_I ph_29.1 b_7 (by decide)]; exact t_40
                    refine q_getj (κ := 11) (k := 0) (φ := 550) (pc' := 206) C Bh_31 (cw_k Bh_31.2.2.1 kb_7) fl_X11_122 rfl rfl rfl t_41 dX11_clash_203 rfl ?_
                    refine lv_aload hx hb dX11_clash_206 (lv_at hl 0 rfl) (hp_n (n := 208) rfl ?_)
                    refine lv_iload hx hb dX11_clash_208 (lv_at hl 1 rfl) (hp_n (n := 210) rfl ?_)
                    refine lv_if_eq (tgt := 222) hx hb dX11_clash_210 (by decide) (fun c_42 => ?_) (fun c_42 => hp_n (n := 213) rfl ?_)
                    rotate_left
                    · exact absurd c_42 (by decide)
                    refine lv_iload hx hb dX11_clash_222 (lv_at hl 9 rfl) (hp_n (n := 224) rfl ?_)
                    refine lv_iload hx hb dX11_clash_224 (lv_at hl 2 rfl) (hp_n (n := 226) rfl ?_)
                    refine q_ci (pc' := 229) Bh_31 (hp_runV (As := [.int x_21, .ref b_22, .int a4, .int rh_31]) (rest := []) C Bh_31 (t_X8_folded Γ l αh_29 Bh_31.2.2.1.1 b_17 (cw_k Bh_31.2.2.1 kb_17) x_21 b_22 (cw_k Bh_31.2.2.1 kb_22) a4 rh_31) lb_X8_folded lv_X8_folded lk_X11_382 (cw_k Bh_31.2.2.1 kb_17) rfl (by decide) rfl hl.1 rfl (Nat.le_of_ble_eq_true rfl) dX11_clash_226 ⟨Nat.le_refl _, Nat.le_refl _⟩) (fun _ _ h => by rw [h]; exact Bh_31.2.2) rfl (fun rh_43 αh_43 Hh_43 Lh_43 ph_43 Bh_43 => ?_)
                    rw [ph_43] at Bh_43
                    refine lv_istore (lv' := [(11, .int rh_43), (10, .ref b_22), (9, .int 0), (8, .int rh_31), (7, .int rh_13), (6, .ref bh_8), (0, .ref a0), (1, .int a1), (2, .int a2), (3, .int a3), (4, .int a4), (5, .int a5)]) hx hb dX11_clash_229 hl (by decide) rfl (fun ls hl => hp_n (n := 231) rfl ?_)
                    refine lv_iload hx hb dX11_clash_231 (lv_at hl 11 rfl) (hp_n (n := 233) rfl ?_)
                    refine lv_iconst (v := 1) hx hb dX11_clash_233 (by decide) (hp_n (n := 234) rfl ?_)
                    have J243 : ∀ (Hh_44 : Heap) (Lh_44 : List Loc) (Bh_44 : hp_B Γ (cwr ra rb w_X11_clash) s α αh_29 Hh_44 Lh_44) (ls : Array Slot) (hl : lv_has ls 13 [(0, .ref a0), (8, .int rh_31), (10, .ref b_22), (11, .int rh_43)]), W p l e (hp_rm 4 0 0) s m ([.ref a0, .int a1, .int a2, .int a3, .int a4, .int a5] : List Value).toArray below meth c Hh_44 Lh_44 0 0 (MQ below (hp_Qi Γ (fun r β => cwr ra rb w_X11_clash α β)) ([.ref a0, .int a1, .int a2, .int a3, .int a4, .int a5] : List Value).toArray s 0 0 (hp_A Γ)) (F0 m 243 ls []) := by
                      intro Hh_44 Lh_44 Bh_44 ls hl
                      refine lv_iconst (v := 1) hx hb dX11_clash_243 (by decide) (hp_n (n := 244) rfl ?_)
                      refine lv_goto (tgt := 248) hx hb dX11_clash_244 (by decide) ?_
                      refine lv_istore (lv' := [(12, .int 1), (0, .ref a0), (8, .int rh_31), (10, .ref b_22), (11, .int rh_43)]) hx hb dX11_clash_248 hl (by decide) rfl (fun ls hl => hp_n (n := 250) rfl ?_)
                      refine lv_aload_n hx hb dX11_clash_250 rfl (lv_at hl 1 rfl) (hp_n (n := 251) rfl ?_)
                      refine lv_iload hx hb dX11_clash_251 (lv_at hl 0 rfl) (hp_n (n := 253) rfl ?_)
                      refine lv_aload_n hx hb dX11_clash_253 rfl (lv_at hl 1 rfl) (hp_n (n := 254) rfl ?_)
                      refine q_gets (κ := 12) (k := 12) (φ := 612) (pc' := 257) C Bh_44 (cw_k Bh_44.2.2.1 k0) fl_X11_62 rfl rfl rfl t_38 dX11_clash_254 rfl ?_
                      refine lv_iload hx hb dX11_clash_257 (lv_at hl 2 rfl) (hp_n (n := 259) rfl ?_)
                      refine q_ci (pc' := 262) Bh_44 (hp_runV (As := [.int rh_31]) (rest := [.int 1, .ref a0]) C Bh_44 (t_X8_isAhead Γ l αh_29 Bh_44.2.2.1.1 b_17 (cw_k Bh_44.2.2.1 kb_17) rh_31) lb_X8_isAhead lv_X8_isAhead lk_X11_385 (cw_k Bh_44.2.2.1 kb_17) rfl (by decide) rfl hl.1 rfl (Nat.le_of_ble_eq_true rfl) dX11_clash_259 ⟨Nat.le_refl _, Nat.le_refl _⟩) (fun _ _ h => by rw [h.1]; exact Bh_44.2.2) rfl (fun rh_45 αh_45 Hh_45 Lh_45 ph_45 Bh_45 => ?_)
                      rw [ph_45.1] at Bh_45
                      have zh_45 := ph_45.2
                      refine lv_icmp_ne (tgt := 275) hx hb dX11_clash_262 (by decide) (fun c_46 => ?_) (fun c_46 => hp_n (n := 265) rfl ?_)
                      ·
                        have jc_46 := il_ne c_46
                        refine lv_iload hx hb dX11_clash_275 (lv_at hl 4 rfl) (hp_n (n := 277) rfl ?_)
                        refine q_ci (pc' := 280) Bh_45 (hp_runV (As := [.int rh_43]) (rest := []) C Bh_45 (t_X11_answer Γ l αh_29 Bh_45.2.2.1.1 a0 (cw_k Bh_45.2.2.1 k0) rh_43) lb_X11_answer lv_X11_answer lk_X11_115 (cw_k Bh_45.2.2.1 k0) rfl (by decide) rfl hl.1 rfl (Nat.le_of_ble_eq_true rfl) dX11_clash_277 ⟨Nat.le_refl _, Nat.le_refl _⟩) (fun _ _ h => ⟨cw_tr Bh_45.2.2.1 h (by decide), rofw_tr Bh_45.2.2.2 (rofw_cw h (by decide))⟩) rfl (fun rh_47 αh_47 Hh_47 Lh_47 ph_47 Bh_47 => ?_)
                        exact q_iret C Bh_47 hr hlk Bh_47.2.2 dX11_clash_280
                      ·
                        have jc_46 := il_eq c_46
                        refine lv_aload hx hb dX11_clash_265 (lv_at hl 3 rfl) (hp_n (n := 267) rfl ?_)
                        refine lv_iload hx hb dX11_clash_267 (lv_at hl 2 rfl) (hp_n (n := 269) rfl ?_)
                        refine q_ci (pc' := 272) Bh_45 (hp_runV (As := [.int rh_31]) (rest := [.ref a0]) C Bh_45 (t_X5_at Γ l αh_29 Bh_45.2.2.1.1 b_22 (cw_k Bh_45.2.2.1 kb_22) rh_31) lb_X5_at lv_X5_at lk_X11_135 (cw_k Bh_45.2.2.1 kb_22) rfl (by decide) rfl hl.1 rfl (Nat.le_of_ble_eq_true rfl) dX11_clash_269 ⟨Nat.le_refl _, Nat.le_refl _⟩) (fun _ _ h => by rw [h]; exact Bh_45.2.2) rfl (fun rh_48 αh_48 Hh_48 Lh_48 ph_48 Bh_48 => ?_)
                        rw [ph_48] at Bh_48
                        refine lv_goto (tgt := 277) hx hb dX11_clash_272 (by decide) ?_
                        refine q_ci (pc' := 280) Bh_48 (hp_runV (As := [.int rh_48]) (rest := []) C Bh_48 (t_X11_answer Γ l αh_29 Bh_48.2.2.1.1 a0 (cw_k Bh_48.2.2.1 k0) rh_48) lb_X11_answer lv_X11_answer lk_X11_115 (cw_k Bh_48.2.2.1 k0) rfl (by decide) rfl hl.1 rfl (Nat.le_of_ble_eq_true rfl) dX11_clash_277 ⟨Nat.le_refl _, Nat.le_refl _⟩) (fun _ _ h => ⟨cw_tr Bh_48.2.2.1 h (by decide), rofw_tr Bh_48.2.2.2 (rofw_cw h (by decide))⟩) rfl (fun rh_49 αh_49 Hh_49 Lh_49 ph_49 Bh_49 => ?_)
                        exact q_iret C Bh_49 hr hlk Bh_49.2.2 dX11_clash_280
                    refine lv_icmp_eq (tgt := 243) hx hb dX11_clash_234 (by decide) (fun c_50 => ?_) (fun c_50 => hp_n (n := 237) rfl ?_)
                    ·
                      have jc_50 := il_eq c_50
                      exact J243 Hh_43 Lh_43 Bh_43 ls (lv_sub hl [6, 3, 1, 0] rfl)
                    ·
                      have jc_50 := il_ne c_50
                      refine lv_iload hx hb dX11_clash_237 (lv_at hl 11 rfl) (hp_n (n := 239) rfl ?_)
                      refine lv_iconst (v := 3) hx hb dX11_clash_239 (by decide) (hp_n (n := 240) rfl ?_)
                      refine lv_icmp_ne (tgt := 247) hx hb dX11_clash_240 (by decide) (fun c_51 => ?_) (fun c_51 => hp_n (n := 243) rfl ?_)
                      ·
                        have jc_51 := il_ne c_51
                        refine lv_iconst (v := 0) hx hb dX11_clash_247 (by decide) (hp_n (n := 248) rfl ?_)
                        refine lv_istore (lv' := [(12, .int 0), (11, .int rh_43), (10, .ref b_22), (9, .int 0), (8, .int rh_31), (7, .int rh_13), (6, .ref bh_8), (0, .ref a0), (1, .int a1), (2, .int a2), (3, .int a3), (4, .int a4), (5, .int a5)]) hx hb dX11_clash_248 hl (by decide) rfl (fun ls hl => hp_n (n := 250) rfl ?_)
                        refine lv_aload_n hx hb dX11_clash_250 rfl (lv_at hl 7 rfl) (hp_n (n := 251) rfl ?_)
                        refine lv_iload hx hb dX11_clash_251 (lv_at hl 0 rfl) (hp_n (n := 253) rfl ?_)
                        refine lv_aload_n hx hb dX11_clash_253 rfl (lv_at hl 7 rfl) (hp_n (n := 254) rfl ?_)
                        refine q_gets (κ := 12) (k := 12) (φ := 612) (pc' := 257) C Bh_43 (cw_k Bh_43.2.2.1 k0) fl_X11_62 rfl rfl rfl t_38 dX11_clash_254 rfl ?_
                        refine lv_iload hx hb dX11_clash_257 (lv_at hl 4 rfl) (hp_n (n := 259) rfl ?_)
                        refine q_ci (pc' := 262) Bh_43 (hp_runV (As := [.int rh_31]) (rest := [.int 0, .ref a0]) C Bh_43 (t_X8_isAhead Γ l αh_29 Bh_43.2.2.1.1 b_17 (cw_k Bh_43.2.2.1 kb_17) rh_31) lb_X8_isAhead lv_X8_isAhead lk_X11_385 (cw_k Bh_43.2.2.1 kb_17) rfl (by decide) rfl hl.1 rfl (Nat.le_of_ble_eq_true rfl) dX11_clash_259 ⟨Nat.le_refl _, Nat.le_refl _⟩) (fun _ _ h => by rw [h.1]; exact Bh_43.2.2) rfl (fun rh_52 αh_52 Hh_52 Lh_52 ph_52 Bh_52 => ?_)
                        rw [ph_52.1] at Bh_52
                        have zh_52 := ph_52.2
                        refine lv_icmp_ne (tgt := 275) hx hb dX11_clash_262 (by decide) (fun c_53 => ?_) (fun c_53 => hp_n (n := 265) rfl ?_)
                        ·
                          have jc_53 := il_ne c_53
                          refine lv_iload hx hb dX11_clash_275 (lv_at hl 1 rfl) (hp_n (n := 277) rfl ?_)
                          refine q_ci (pc' := 280) Bh_52 (hp_runV (As := [.int rh_43]) (rest := []) C Bh_52 (t_X11_answer Γ l αh_29 Bh_52.2.2.1.1 a0 (cw_k Bh_52.2.2.1 k0) rh_43) lb_X11_answer lv_X11_answer lk_X11_115 (cw_k Bh_52.2.2.1 k0) rfl (by decide) rfl hl.1 rfl (Nat.le_of_ble_eq_true rfl) dX11_clash_277 ⟨Nat.le_refl _, Nat.le_refl _⟩) (fun _ _ h => ⟨cw_tr Bh_52.2.2.1 h (by decide), rofw_tr Bh_52.2.2.2 (rofw_cw h (by decide))⟩) rfl (fun rh_54 αh_54 Hh_54 Lh_54 ph_54 Bh_54 => ?_)
                          exact q_iret C Bh_54 hr hlk Bh_54.2.2 dX11_clash_280
                        ·
                          have jc_53 := il_eq c_53
                          refine lv_aload hx hb dX11_clash_265 (lv_at hl 2 rfl) (hp_n (n := 267) rfl ?_)
                          refine lv_iload hx hb dX11_clash_267 (lv_at hl 4 rfl) (hp_n (n := 269) rfl ?_)
                          refine q_ci (pc' := 272) Bh_52 (hp_runV (As := [.int rh_31]) (rest := [.ref a0]) C Bh_52 (t_X5_at Γ l αh_29 Bh_52.2.2.1.1 b_22 (cw_k Bh_52.2.2.1 kb_22) rh_31) lb_X5_at lv_X5_at lk_X11_135 (cw_k Bh_52.2.2.1 kb_22) rfl (by decide) rfl hl.1 rfl (Nat.le_of_ble_eq_true rfl) dX11_clash_269 ⟨Nat.le_refl _, Nat.le_refl _⟩) (fun _ _ h => by rw [h]; exact Bh_52.2.2) rfl (fun rh_55 αh_55 Hh_55 Lh_55 ph_55 Bh_55 => ?_)
                          rw [ph_55] at Bh_55
                          refine lv_goto (tgt := 277) hx hb dX11_clash_272 (by decide) ?_
                          refine q_ci (pc' := 280) Bh_55 (hp_runV (As := [.int rh_55]) (rest := []) C Bh_55 (t_X11_answer Γ l αh_29 Bh_55.2.2.1.1 a0 (cw_k Bh_55.2.2.1 k0) rh_55) lb_X11_answer lv_X11_answer lk_X11_115 (cw_k Bh_55.2.2.1 k0) rfl (by decide) rfl hl.1 rfl (Nat.le_of_ble_eq_true rfl) dX11_clash_277 ⟨Nat.le_refl _, Nat.le_refl _⟩) (fun _ _ h => ⟨cw_tr Bh_55.2.2.1 h (by decide), rofw_tr Bh_55.2.2.2 (rofw_cw h (by decide))⟩) rfl (fun rh_56 αh_56 Hh_56 Lh_56 ph_56 Bh_56 => ?_)
                          exact q_iret C Bh_56 hr hlk Bh_56.2.2 dX11_clash_280
                      ·
                        have jc_51 := il_eq c_51
                        exact J243 Hh_43 Lh_43 Bh_43 ls (lv_sub hl [6, 3, 1, 0] rfl)
                  ·
                    have jc_34 := il_nlt c_34
                    refine lv_iconst (v := 1) hx hb dX11_clash_170 (by decide) (hp_n (n := 171) rfl ?_)
                    refine lv_goto (tgt := 175) hx hb dX11_clash_171 (by decide) ?_
                    refine lv_istore (lv' := [(9, .int 1), (8, .int rh_31), (7, .int rh_13), (6, .ref bh_8), (0, .ref a0), (1, .int a1), (2, .int a2), (3, .int a3), (4, .int a4), (5, .int a5)]) hx hb dX11_clash_175 hl (by decide) rfl (fun ls hl => hp_n (n := 177) rfl ?_)
                    refine lv_iload hx hb dX11_clash_177 (lv_at hl 0 rfl) (hp_n (n := 179) rfl ?_)
                    refine lv_if_eq (tgt := 189) hx hb dX11_clash_179 (by decide) (fun c_57 => ?_) (fun c_57 => hp_n (n := 182) rfl ?_)
                    · exact absurd c_57 (by decide)
                    refine lv_aload_n hx hb dX11_clash_182 rfl (lv_at hl 4 rfl) (hp_n (n := 183) rfl ?_)
                    have t_58 : b_28 = hp_R αh_29 614 a0 := by rw [cw_R ph_29.1 a0 (by decide)]; exact eb_28
                    refine q_gets (κ := 12) (k := 14) (φ := 614) (pc' := 186) C Bh_31 (cw_k Bh_31.2.2.1 k0) fl_X11_69 rfl rfl rfl t_58 dX11_clash_183 rfl ?_
                    refine lv_goto (tgt := 193) hx hb dX11_clash_186 (by decide) ?_
                    refine lv_astore (lv' := [(10, .ref b_28), (9, .int 1), (8, .int rh_31), (7, .int rh_13), (6, .ref bh_8), (0, .ref a0), (1, .int a1), (2, .int a2), (3, .int a3), (4, .int a4), (5, .int a5)]) hx hb dX11_clash_193 hl (by decide) rfl (fun ls hl => hp_n (n := 195) rfl ?_)
                    refine lv_aload_n hx hb dX11_clash_195 rfl (lv_at hl 5 rfl) (hp_n (n := 196) rfl ?_)
                    have t_59 : b_17 = hp_R αh_29 612 a0 := by rw [cw_R ph_29.1 a0 (by decide)]; exact t_27
                    refine q_gets (κ := 12) (k := 12) (φ := 612) (pc' := 199) C Bh_31 (cw_k Bh_31.2.2.1 k0) fl_X11_62 rfl rfl rfl t_59 dX11_clash_196 rfl ?_
                    refine lv_aload_n hx hb dX11_clash_199 rfl (lv_at hl 5 rfl) (hp_n (n := 200) rfl ?_)
                    have t_60 : b_7 = hp_R αh_29 601 a0 := by rw [cw_R ph_29.1 a0 (by decide)]; exact t_26
                    refine q_gets (κ := 12) (k := 1) (φ := 601) (pc' := 203) C Bh_31 (cw_k Bh_31.2.2.1 k0) fl_X11_16 rfl rfl rfl t_60 dX11_clash_200 rfl ?_
                    have t_61 : x_21 = hp_I αh_23 550 b_7 := by rw [cw_I ph_23 b_7 (by decide)]; exact ex_21
                    have t_62 : x_21 = hp_I αh_29 550 b_7 := by rw [cw_I ph_29.1 b_7 (by decide)]; exact t_61
                    refine q_getj (κ := 11) (k := 0) (φ := 550) (pc' := 206) C Bh_31 (cw_k Bh_31.2.2.1 kb_7) fl_X11_122 rfl rfl rfl t_62 dX11_clash_203 rfl ?_
                    refine lv_aload hx hb dX11_clash_206 (lv_at hl 0 rfl) (hp_n (n := 208) rfl ?_)
                    refine lv_iload hx hb dX11_clash_208 (lv_at hl 1 rfl) (hp_n (n := 210) rfl ?_)
                    refine lv_if_eq (tgt := 222) hx hb dX11_clash_210 (by decide) (fun c_63 => ?_) (fun c_63 => hp_n (n := 213) rfl ?_)
                    · exact absurd c_63 (by decide)
                    refine lv_aload hx hb dX11_clash_213 (lv_at hl 4 rfl) (hp_n (n := 215) rfl ?_)
                    refine lv_iload_n hx hb dX11_clash_215 rfl (lv_at hl 7 rfl) (hp_n (n := 216) rfl ?_)
                    refine q_ci (pc' := 219) Bh_31 (hp_runV (As := [.int a2]) (rest := [.ref b_28, .int x_21, .ref b_17]) C Bh_31 (t_X2_markAt Γ l αh_29 Bh_31.2.2.1.1 bh_8 (cw_k Bh_31.2.2.1 kbh_8) a2) lb_X2_markAt lv_X2_markAt lk_X11_174 (cw_k Bh_31.2.2.1 kbh_8) rfl (by decide) rfl hl.1 rfl (Nat.le_of_ble_eq_true rfl) dX11_clash_216 ⟨Nat.le_refl _, Nat.le_refl _⟩) (fun _ _ h => by rw [h]; exact Bh_31.2.2) rfl (fun rh_64 αh_64 Hh_64 Lh_64 ph_64 Bh_64 => ?_)
                    rw [ph_64] at Bh_64
                    refine lv_goto (tgt := 224) hx hb dX11_clash_219 (by decide) ?_
                    refine lv_iload hx hb dX11_clash_224 (lv_at hl 2 rfl) (hp_n (n := 226) rfl ?_)
                    refine q_ci (pc' := 229) Bh_64 (hp_runV (As := [.int x_21, .ref b_28, .int rh_64, .int rh_31]) (rest := []) C Bh_64 (t_X8_folded Γ l αh_29 Bh_64.2.2.1.1 b_17 (cw_k Bh_64.2.2.1 kb_17) x_21 b_28 (cw_k Bh_64.2.2.1 kb_28) rh_64 rh_31) lb_X8_folded lv_X8_folded lk_X11_382 (cw_k Bh_64.2.2.1 kb_17) rfl (by decide) rfl hl.1 rfl (Nat.le_of_ble_eq_true rfl) dX11_clash_226 ⟨Nat.le_refl _, Nat.le_refl _⟩) (fun _ _ h => by rw [h]; exact Bh_64.2.2) rfl (fun rh_65 αh_65 Hh_65 Lh_65 ph_65 Bh_65 => ?_)
                    rw [ph_65] at Bh_65
                    refine lv_istore (lv' := [(11, .int rh_65), (10, .ref b_28), (9, .int 1), (8, .int rh_31), (7, .int rh_13), (6, .ref bh_8), (0, .ref a0), (1, .int a1), (2, .int a2), (3, .int a3), (4, .int a4), (5, .int a5)]) hx hb dX11_clash_229 hl (by decide) rfl (fun ls hl => hp_n (n := 231) rfl ?_)
                    refine lv_iload hx hb dX11_clash_231 (lv_at hl 11 rfl) (hp_n (n := 233) rfl ?_)
                    refine lv_iconst (v := 1) hx hb dX11_clash_233 (by decide) (hp_n (n := 234) rfl ?_)
                    have J243 : ∀ (Hh_66 : Heap) (Lh_66 : List Loc) (Bh_66 : hp_B Γ (cwr ra rb w_X11_clash) s α αh_29 Hh_66 Lh_66) (ls : Array Slot) (hl : lv_has ls 13 [(0, .ref a0), (8, .int rh_31), (10, .ref b_28), (11, .int rh_65)]), W p l e (hp_rm 4 0 0) s m ([.ref a0, .int a1, .int a2, .int a3, .int a4, .int a5] : List Value).toArray below meth c Hh_66 Lh_66 0 0 (MQ below (hp_Qi Γ (fun r β => cwr ra rb w_X11_clash α β)) ([.ref a0, .int a1, .int a2, .int a3, .int a4, .int a5] : List Value).toArray s 0 0 (hp_A Γ)) (F0 m 243 ls []) := by
                      intro Hh_66 Lh_66 Bh_66 ls hl
                      refine lv_iconst (v := 1) hx hb dX11_clash_243 (by decide) (hp_n (n := 244) rfl ?_)
                      refine lv_goto (tgt := 248) hx hb dX11_clash_244 (by decide) ?_
                      refine lv_istore (lv' := [(12, .int 1), (0, .ref a0), (8, .int rh_31), (10, .ref b_28), (11, .int rh_65)]) hx hb dX11_clash_248 hl (by decide) rfl (fun ls hl => hp_n (n := 250) rfl ?_)
                      refine lv_aload_n hx hb dX11_clash_250 rfl (lv_at hl 1 rfl) (hp_n (n := 251) rfl ?_)
                      refine lv_iload hx hb dX11_clash_251 (lv_at hl 0 rfl) (hp_n (n := 253) rfl ?_)
                      refine lv_aload_n hx hb dX11_clash_253 rfl (lv_at hl 1 rfl) (hp_n (n := 254) rfl ?_)
                      refine q_gets (κ := 12) (k := 12) (φ := 612) (pc' := 257) C Bh_66 (cw_k Bh_66.2.2.1 k0) fl_X11_62 rfl rfl rfl t_59 dX11_clash_254 rfl ?_
                      refine lv_iload hx hb dX11_clash_257 (lv_at hl 2 rfl) (hp_n (n := 259) rfl ?_)
                      refine q_ci (pc' := 262) Bh_66 (hp_runV (As := [.int rh_31]) (rest := [.int 1, .ref a0]) C Bh_66 (t_X8_isAhead Γ l αh_29 Bh_66.2.2.1.1 b_17 (cw_k Bh_66.2.2.1 kb_17) rh_31) lb_X8_isAhead lv_X8_isAhead lk_X11_385 (cw_k Bh_66.2.2.1 kb_17) rfl (by decide) rfl hl.1 rfl (Nat.le_of_ble_eq_true rfl) dX11_clash_259 ⟨Nat.le_refl _, Nat.le_refl _⟩) (fun _ _ h => by rw [h.1]; exact Bh_66.2.2) rfl (fun rh_67 αh_67 Hh_67 Lh_67 ph_67 Bh_67 => ?_)
                      rw [ph_67.1] at Bh_67
                      have zh_67 := ph_67.2
                      refine lv_icmp_ne (tgt := 275) hx hb dX11_clash_262 (by decide) (fun c_68 => ?_) (fun c_68 => hp_n (n := 265) rfl ?_)
                      ·
                        have jc_68 := il_ne c_68
                        refine lv_iload hx hb dX11_clash_275 (lv_at hl 4 rfl) (hp_n (n := 277) rfl ?_)
                        refine q_ci (pc' := 280) Bh_67 (hp_runV (As := [.int rh_65]) (rest := []) C Bh_67 (t_X11_answer Γ l αh_29 Bh_67.2.2.1.1 a0 (cw_k Bh_67.2.2.1 k0) rh_65) lb_X11_answer lv_X11_answer lk_X11_115 (cw_k Bh_67.2.2.1 k0) rfl (by decide) rfl hl.1 rfl (Nat.le_of_ble_eq_true rfl) dX11_clash_277 ⟨Nat.le_refl _, Nat.le_refl _⟩) (fun _ _ h => ⟨cw_tr Bh_67.2.2.1 h (by decide), rofw_tr Bh_67.2.2.2 (rofw_cw h (by decide))⟩) rfl (fun rh_69 αh_69 Hh_69 Lh_69 ph_69 Bh_69 => ?_)
                        exact q_iret C Bh_69 hr hlk Bh_69.2.2 dX11_clash_280
                      ·
                        have jc_68 := il_eq c_68
                        refine lv_aload hx hb dX11_clash_265 (lv_at hl 3 rfl) (hp_n (n := 267) rfl ?_)
                        refine lv_iload hx hb dX11_clash_267 (lv_at hl 2 rfl) (hp_n (n := 269) rfl ?_)
                        refine q_ci (pc' := 272) Bh_67 (hp_runV (As := [.int rh_31]) (rest := [.ref a0]) C Bh_67 (t_X5_at Γ l αh_29 Bh_67.2.2.1.1 b_28 (cw_k Bh_67.2.2.1 kb_28) rh_31) lb_X5_at lv_X5_at lk_X11_135 (cw_k Bh_67.2.2.1 kb_28) rfl (by decide) rfl hl.1 rfl (Nat.le_of_ble_eq_true rfl) dX11_clash_269 ⟨Nat.le_refl _, Nat.le_refl _⟩) (fun _ _ h => by rw [h]; exact Bh_67.2.2) rfl (fun rh_70 αh_70 Hh_70 Lh_70 ph_70 Bh_70 => ?_)
                        rw [ph_70] at Bh_70
                        refine lv_goto (tgt := 277) hx hb dX11_clash_272 (by decide) ?_
                        refine q_ci (pc' := 280) Bh_70 (hp_runV (As := [.int rh_70]) (rest := []) C Bh_70 (t_X11_answer Γ l αh_29 Bh_70.2.2.1.1 a0 (cw_k Bh_70.2.2.1 k0) rh_70) lb_X11_answer lv_X11_answer lk_X11_115 (cw_k Bh_70.2.2.1 k0) rfl (by decide) rfl hl.1 rfl (Nat.le_of_ble_eq_true rfl) dX11_clash_277 ⟨Nat.le_refl _, Nat.le_refl _⟩) (fun _ _ h => ⟨cw_tr Bh_70.2.2.1 h (by decide), rofw_tr Bh_70.2.2.2 (rofw_cw h (by decide))⟩) rfl (fun rh_71 αh_71 Hh_71 Lh_71 ph_71 Bh_71 => ?_)
                        exact q_iret C Bh_71 hr hlk Bh_71.2.2 dX11_clash_280
                    refine lv_icmp_eq (tgt := 243) hx hb dX11_clash_234 (by decide) (fun c_72 => ?_) (fun c_72 => hp_n (n := 237) rfl ?_)
                    ·
                      have jc_72 := il_eq c_72
                      exact J243 Hh_65 Lh_65 Bh_65 ls (lv_sub hl [6, 3, 1, 0] rfl)
                    ·
                      have jc_72 := il_ne c_72
                      refine lv_iload hx hb dX11_clash_237 (lv_at hl 11 rfl) (hp_n (n := 239) rfl ?_)
                      refine lv_iconst (v := 3) hx hb dX11_clash_239 (by decide) (hp_n (n := 240) rfl ?_)
                      refine lv_icmp_ne (tgt := 247) hx hb dX11_clash_240 (by decide) (fun c_73 => ?_) (fun c_73 => hp_n (n := 243) rfl ?_)
                      ·
                        have jc_73 := il_ne c_73
                        refine lv_iconst (v := 0) hx hb dX11_clash_247 (by decide) (hp_n (n := 248) rfl ?_)
                        refine lv_istore (lv' := [(12, .int 0), (11, .int rh_65), (10, .ref b_28), (9, .int 1), (8, .int rh_31), (7, .int rh_13), (6, .ref bh_8), (0, .ref a0), (1, .int a1), (2, .int a2), (3, .int a3), (4, .int a4), (5, .int a5)]) hx hb dX11_clash_248 hl (by decide) rfl (fun ls hl => hp_n (n := 250) rfl ?_)
                        refine lv_aload_n hx hb dX11_clash_250 rfl (lv_at hl 7 rfl) (hp_n (n := 251) rfl ?_)
                        refine lv_iload hx hb dX11_clash_251 (lv_at hl 0 rfl) (hp_n (n := 253) rfl ?_)
                        refine lv_aload_n hx hb dX11_clash_253 rfl (lv_at hl 7 rfl) (hp_n (n := 254) rfl ?_)
                        refine q_gets (κ := 12) (k := 12) (φ := 612) (pc' := 257) C Bh_65 (cw_k Bh_65.2.2.1 k0) fl_X11_62 rfl rfl rfl t_59 dX11_clash_254 rfl ?_
                        refine lv_iload hx hb dX11_clash_257 (lv_at hl 4 rfl) (hp_n (n := 259) rfl ?_)
                        refine q_ci (pc' := 262) Bh_65 (hp_runV (As := [.int rh_31]) (rest := [.int 0, .ref a0]) C Bh_65 (t_X8_isAhead Γ l αh_29 Bh_65.2.2.1.1 b_17 (cw_k Bh_65.2.2.1 kb_17) rh_31) lb_X8_isAhead lv_X8_isAhead lk_X11_385 (cw_k Bh_65.2.2.1 kb_17) rfl (by decide) rfl hl.1 rfl (Nat.le_of_ble_eq_true rfl) dX11_clash_259 ⟨Nat.le_refl _, Nat.le_refl _⟩) (fun _ _ h => by rw [h.1]; exact Bh_65.2.2) rfl (fun rh_74 αh_74 Hh_74 Lh_74 ph_74 Bh_74 => ?_)
                        rw [ph_74.1] at Bh_74
                        have zh_74 := ph_74.2
                        refine lv_icmp_ne (tgt := 275) hx hb dX11_clash_262 (by decide) (fun c_75 => ?_) (fun c_75 => hp_n (n := 265) rfl ?_)
                        ·
                          have jc_75 := il_ne c_75
                          refine lv_iload hx hb dX11_clash_275 (lv_at hl 1 rfl) (hp_n (n := 277) rfl ?_)
                          refine q_ci (pc' := 280) Bh_74 (hp_runV (As := [.int rh_65]) (rest := []) C Bh_74 (t_X11_answer Γ l αh_29 Bh_74.2.2.1.1 a0 (cw_k Bh_74.2.2.1 k0) rh_65) lb_X11_answer lv_X11_answer lk_X11_115 (cw_k Bh_74.2.2.1 k0) rfl (by decide) rfl hl.1 rfl (Nat.le_of_ble_eq_true rfl) dX11_clash_277 ⟨Nat.le_refl _, Nat.le_refl _⟩) (fun _ _ h => ⟨cw_tr Bh_74.2.2.1 h (by decide), rofw_tr Bh_74.2.2.2 (rofw_cw h (by decide))⟩) rfl (fun rh_76 αh_76 Hh_76 Lh_76 ph_76 Bh_76 => ?_)
                          exact q_iret C Bh_76 hr hlk Bh_76.2.2 dX11_clash_280
                        ·
                          have jc_75 := il_eq c_75
                          refine lv_aload hx hb dX11_clash_265 (lv_at hl 2 rfl) (hp_n (n := 267) rfl ?_)
                          refine lv_iload hx hb dX11_clash_267 (lv_at hl 4 rfl) (hp_n (n := 269) rfl ?_)
                          refine q_ci (pc' := 272) Bh_74 (hp_runV (As := [.int rh_31]) (rest := [.ref a0]) C Bh_74 (t_X5_at Γ l αh_29 Bh_74.2.2.1.1 b_28 (cw_k Bh_74.2.2.1 kb_28) rh_31) lb_X5_at lv_X5_at lk_X11_135 (cw_k Bh_74.2.2.1 kb_28) rfl (by decide) rfl hl.1 rfl (Nat.le_of_ble_eq_true rfl) dX11_clash_269 ⟨Nat.le_refl _, Nat.le_refl _⟩) (fun _ _ h => by rw [h]; exact Bh_74.2.2) rfl (fun rh_77 αh_77 Hh_77 Lh_77 ph_77 Bh_77 => ?_)
                          rw [ph_77] at Bh_77
                          refine lv_goto (tgt := 277) hx hb dX11_clash_272 (by decide) ?_
                          refine q_ci (pc' := 280) Bh_77 (hp_runV (As := [.int rh_77]) (rest := []) C Bh_77 (t_X11_answer Γ l αh_29 Bh_77.2.2.1.1 a0 (cw_k Bh_77.2.2.1 k0) rh_77) lb_X11_answer lv_X11_answer lk_X11_115 (cw_k Bh_77.2.2.1 k0) rfl (by decide) rfl hl.1 rfl (Nat.le_of_ble_eq_true rfl) dX11_clash_277 ⟨Nat.le_refl _, Nat.le_refl _⟩) (fun _ _ h => ⟨cw_tr Bh_77.2.2.1 h (by decide), rofw_tr Bh_77.2.2.2 (rofw_cw h (by decide))⟩) rfl (fun rh_78 αh_78 Hh_78 Lh_78 ph_78 Bh_78 => ?_)
                          exact q_iret C Bh_78 hr hlk Bh_78.2.2 dX11_clash_280
                      ·
                        have jc_73 := il_eq c_73
                        exact J243 Hh_65 Lh_65 Bh_65 ls (lv_sub hl [6, 3, 1, 0] rfl)
                ·
                  have jc_33 := il_eq c_33
                  refine lv_aload_n hx hb dX11_clash_157 rfl (lv_at hl 3 rfl) (hp_n (n := 158) rfl ?_)
                  refine lv_iload hx hb dX11_clash_158 (lv_at hl 0 rfl) (hp_n (n := 160) rfl ?_)
                  refine q_ci (pc' := 163) Bh_31 (hp_runV (As := [.int rh_31]) (rest := []) C Bh_31 (t_X11_answer Γ l αh_29 Bh_31.2.2.1.1 a0 (cw_k Bh_31.2.2.1 k0) rh_31) lb_X11_answer lv_X11_answer lk_X11_115 (cw_k Bh_31.2.2.1 k0) rfl (by decide) rfl hl.1 rfl (Nat.le_of_ble_eq_true rfl) dX11_clash_160 ⟨Nat.le_refl _, Nat.le_refl _⟩) (fun _ _ h => ⟨cw_tr Bh_31.2.2.1 h (by decide), rofw_tr Bh_31.2.2.2 (rofw_cw h (by decide))⟩) rfl (fun rh_79 αh_79 Hh_79 Lh_79 ph_79 Bh_79 => ?_)
                  exact q_iret C Bh_79 hr hlk Bh_79.2.2 dX11_clash_163
              ·
                have jc_32 := il_nle c_32
                refine lv_aload_n hx hb dX11_clash_146 rfl (lv_at hl 3 rfl) (hp_n (n := 147) rfl ?_)
                refine lv_iconst (v := 5) hx hb dX11_clash_147 (by decide) (hp_n (n := 148) rfl ?_)
                refine q_ci (pc' := 151) Bh_31 (hp_runV (As := [.int 5]) (rest := []) C Bh_31 (t_X11_refuse Γ l αh_29 Bh_31.2.2.1.1 a0 (cw_k Bh_31.2.2.1 k0) 5) lb_X11_refuse lv_X11_refuse lk_X11_98 (cw_k Bh_31.2.2.1 k0) rfl (by decide) rfl hl.1 rfl (Nat.le_of_ble_eq_true rfl) dX11_clash_148 ⟨Nat.le_refl _, Nat.le_refl _⟩) (fun _ _ h => ⟨cw_tr Bh_31.2.2.1 h (by decide), rofw_tr Bh_31.2.2.2 (rofw_cw h (by decide))⟩) rfl (fun rh_80 αh_80 Hh_80 Lh_80 ph_80 Bh_80 => ?_)
                exact q_iret C Bh_80 hr hlk Bh_80.2.2 dX11_clash_151
            ·
              have jc_25 := il_ne c_25
              refine lv_aload_n hx hb dX11_clash_104 rfl (lv_at hl 2 rfl) (hp_n (n := 105) rfl ?_)
              refine lv_iconst (v := 5) hx hb dX11_clash_105 (by decide) (hp_n (n := 106) rfl ?_)
              refine q_ci (pc' := 109) Bh_24 (hp_runV (As := [.int 5]) (rest := []) C Bh_24 (t_X11_refuse Γ l αh_23 Bh_24.2.2.1.1 a0 (cw_k Bh_24.2.2.1 k0) 5) lb_X11_refuse lv_X11_refuse lk_X11_98 (cw_k Bh_24.2.2.1 k0) rfl (by decide) rfl hl.1 rfl (Nat.le_of_ble_eq_true rfl) dX11_clash_106 ⟨Nat.le_refl _, Nat.le_refl _⟩) (fun _ _ h => ⟨cw_tr Bh_24.2.2.1 h (by decide), rofw_tr Bh_24.2.2.2 (rofw_cw h (by decide))⟩) rfl (fun rh_81 αh_81 Hh_81 Lh_81 ph_81 Bh_81 => ?_)
              exact q_iret C Bh_81 hr hlk Bh_81.2.2 dX11_clash_109
      ·
        have jc_6 := il_eq c_6
        exact J20 Hh_5 Lh_5 Bh_5 ls (lv_sub hl [0] rfl)
set_option maxRecDepth 100000 in
set_option maxHeartbeats 4000000 in
theorem t_X11_tell_R {ra rb : List Nat} (Γ : hp_G) (l : Launch) (α : hp_T) (g : GC α) (a0 : Nat) (k0 : hp_K α a0 = 12) (a1 : Int32) (a2 : Int32) (a3 : Int32) (oA : (hp_R α 614 a0) ∈ ra) (oB : hp_R α 300 (hp_R α 614 a0) ∈ rb) : Met l yX11_tell (hp_ws yX11_tell cX11_tell 6 (some .int)) (hp_rm 6 0 0) (hp_Pc Γ α [.ref a0, .int a1, .int a2, .int a3]) (hp_Qi Γ (fun r β => cwr ra rb w_X11_tell α β)) 0 0 (hp_A Γ) := by
  refine hp_start (by decide) ?_
  intro p e s m below meth c C hr hlk B0 hnm
  have C : hp_C Γ p m c cX11_tell 6 s ([.ref a0, .int a1, .int a2, .int a3] : List Value).toArray RX11 := C
  have hx := C.1.1
  have hb := C.1.2.1
  have hown := C.1.2.2.2.1
  have hts := C.1.2.2.2.2
  have B : hp_B Γ (cwr ra rb w_X11_tell) s α α s.heap [] := ⟨B0.1, B0.2.1, cw_rf g, rofw_rf⟩
  have lit0 : (0 : Int32).toInt = 0 := by decide
  have hl := lv_entry ([.ref a0, .int a1, .int a2, .int a3]) (n := 6) (Nat.le_of_ble_eq_true rfl)
  show W p l e (hp_rm 6 0 0) s m ([.ref a0, .int a1, .int a2, .int a3] : List Value).toArray below meth c s.heap [] 0 0 (MQ below (hp_Qi Γ (fun r β => cwr ra rb w_X11_tell α β)) ([.ref a0, .int a1, .int a2, .int a3] : List Value).toArray s 0 0 (hp_A Γ)) (entryFrame m ([.ref a0, .int a1, .int a2, .int a3] : List Value).toArray 6)
  rw [lg_entry_eq]
  generalize (lg_sl ([.ref a0, .int a1, .int a2, .int a3]) ++ List.replicate (6 - (lg_sl ([.ref a0, .int a1, .int a2, .int a3])).length) Slot.unset).toArray = ls at hl ⊢
  have hl : lv_has ls 6 [(0, .ref a0), (1, .int a1), (2, .int a2), (3, .int a3)] := hl
  refine lv_aload_n hx hb dX11_tell_0 rfl (lv_at hl 0 rfl) (hp_n (n := 1) rfl ?_)
  refine q_getr (κ := 12) (k := 1) (φ := 601) (pc' := 4) C B (cw_k B.2.2.1 k0) fl_X11_16 rfl rfl rfl (cw_r B.2.2.1 k0 rfl rfl (by decide) (by decide)) dX11_tell_1 rfl (fun b_1 eb_1 kb_1 => ?_)
  refine lv_iload_n hx hb dX11_tell_4 rfl (lv_at hl 1 rfl) (hp_n (n := 5) rfl ?_)
  refine q_cq (pc' := 8) B (hp_runV (As := [.int a1]) (rest := []) C B (t_X10_logAt Γ l α B.2.2.1.1 b_1 (cw_k B.2.2.1 kb_1) a1) lb_X10_logAt lv_X10_logAt lk_X11_163 (cw_k B.2.2.1 kb_1) rfl (by decide) rfl hl.1 rfl (Nat.le_of_ble_eq_true rfl) dX11_tell_5 ⟨Nat.le_refl _, Nat.le_refl _⟩) (fun _ _ h => by rw [h.1]; exact B.2.2) rfl (fun rh_2 αh_2 Hh_2 Lh_2 ph_2 Bh_2 => ?_)
  rw [ph_2.1] at Bh_2
  rcases rh_2 with _ | bh_2
  ·
    refine lv_astoreN (lv' := [(4, .null), (0, .ref a0), (1, .int a1), (2, .int a2), (3, .int a3)]) hx hb dX11_tell_8 hl (by decide) rfl (fun ls hl => hp_n (n := 10) rfl ?_)
    refine lv_aloadN hx hb dX11_tell_10 (lv_at hl 0 rfl) (hp_n (n := 12) rfl ?_)
    refine lv_iload_n hx hb dX11_tell_12 rfl (lv_at hl 3 rfl) (hp_n (n := 13) rfl ?_)
    refine lv_iload_n hx hb dX11_tell_13 rfl (lv_at hl 4 rfl) (hp_n (n := 14) rfl ?_)
    refine q_ci (pc' := 17) Bh_2 (hp_runS (As := [va_rf none, .int a2, .int a3]) (rest := []) C Bh_2 (t_X11_wrongInclusion Γ l α Bh_2.2.2.1.1 none (fun b h => by cases h) a2 a3) lb_X11_wrongInclusion ls_X11_wrongInclusion lk_X11_264 rfl (by decide) rfl hl.1 rfl (Nat.le_of_ble_eq_true rfl) dX11_tell_14 ⟨Nat.le_refl _, Nat.le_refl _⟩) (fun _ _ h => by rw [h]; exact Bh_2.2.2) rfl (fun rh_3 αh_3 Hh_3 Lh_3 ph_3 Bh_3 => ?_)
    rw [ph_3] at Bh_3
    refine lv_istore (lv' := [(5, .int rh_3), (4, .null), (0, .ref a0), (1, .int a1), (2, .int a2), (3, .int a3)]) hx hb dX11_tell_17 hl (by decide) rfl (fun ls hl => hp_n (n := 19) rfl ?_)
    refine lv_iload hx hb dX11_tell_19 (lv_at hl 0 rfl) (hp_n (n := 21) rfl ?_)
    have J29 : ∀ (Hh_4 : Heap) (Lh_4 : List Loc) (Bh_4 : hp_B Γ (cwr ra rb w_X11_tell) s α α Hh_4 Lh_4) (ls : Array Slot) (hl : lv_has ls 6 [(0, .ref a0), (5, .int rh_3)]), W p l e (hp_rm 6 0 0) s m ([.ref a0, .int a1, .int a2, .int a3] : List Value).toArray below meth c Hh_4 Lh_4 0 0 (MQ below (hp_Qi Γ (fun r β => cwr ra rb w_X11_tell α β)) ([.ref a0, .int a1, .int a2, .int a3] : List Value).toArray s 0 0 (hp_A Γ)) (F0 m 29 ls []) := by
      intro Hh_4 Lh_4 Bh_4 ls hl
      refine lv_aload_n hx hb dX11_tell_29 rfl (lv_at hl 0 rfl) (hp_n (n := 30) rfl ?_)
      refine lv_iload hx hb dX11_tell_30 (lv_at hl 1 rfl) (hp_n (n := 32) rfl ?_)
      refine q_ci (pc' := 35) Bh_4 (hp_runV (As := [.int rh_3]) (rest := []) C Bh_4 (t_X11_refuse Γ l α Bh_4.2.2.1.1 a0 (cw_k Bh_4.2.2.1 k0) rh_3) lb_X11_refuse lv_X11_refuse lk_X11_98 (cw_k Bh_4.2.2.1 k0) rfl (by decide) rfl hl.1 rfl (Nat.le_of_ble_eq_true rfl) dX11_tell_32 ⟨Nat.le_refl _, Nat.le_refl _⟩) (fun _ _ h => ⟨cw_tr Bh_4.2.2.1 h (by decide), rofw_tr Bh_4.2.2.2 (rofw_cw h (by decide))⟩) rfl (fun rh_5 αh_5 Hh_5 Lh_5 ph_5 Bh_5 => ?_)
      exact q_iret C Bh_5 hr hlk Bh_5.2.2 dX11_tell_35
    refine lv_if_ne (tgt := 29) hx hb dX11_tell_21 (by decide) (fun c_6 => ?_) (fun c_6 => hp_n (n := 24) rfl ?_)
    ·
      have jc_6 := il_ne c_6
      exact J29 Hh_3 Lh_3 Bh_3 ls (lv_sub hl [2, 0] rfl)
    ·
      have jc_6 := il_eq c_6
      refine lv_aloadN hx hb dX11_tell_24 (lv_at hl 1 rfl) (hp_n (n := 26) rfl ?_)
      refine lv_ifnonnullN hx hb dX11_tell_26 (hp_n (n := 29) rfl ?_)
      exact J29 Hh_3 Lh_3 Bh_3 ls (lv_sub hl [2, 0] rfl)
  ·
    have kbh_2 : hp_K α bh_2 = 3 := cw_k' Bh_2.2.2.1 (ph_2.2 bh_2 rfl)
    refine lv_astore (lv' := [(4, .ref bh_2), (0, .ref a0), (1, .int a1), (2, .int a2), (3, .int a3)]) hx hb dX11_tell_8 hl (by decide) rfl (fun ls hl => hp_n (n := 10) rfl ?_)
    refine lv_aload hx hb dX11_tell_10 (lv_at hl 0 rfl) (hp_n (n := 12) rfl ?_)
    refine lv_iload_n hx hb dX11_tell_12 rfl (lv_at hl 3 rfl) (hp_n (n := 13) rfl ?_)
    refine lv_iload_n hx hb dX11_tell_13 rfl (lv_at hl 4 rfl) (hp_n (n := 14) rfl ?_)
    refine q_ci (pc' := 17) Bh_2 (hp_runS (As := [va_rf (some bh_2), .int a2, .int a3]) (rest := []) C Bh_2 (t_X11_wrongInclusion Γ l α Bh_2.2.2.1.1 (some bh_2) (fun b h => by cases h; exact (cw_k Bh_2.2.2.1 kbh_2)) a2 a3) lb_X11_wrongInclusion ls_X11_wrongInclusion lk_X11_264 rfl (by decide) rfl hl.1 rfl (Nat.le_of_ble_eq_true rfl) dX11_tell_14 ⟨Nat.le_refl _, Nat.le_refl _⟩) (fun _ _ h => by rw [h]; exact Bh_2.2.2) rfl (fun rh_7 αh_7 Hh_7 Lh_7 ph_7 Bh_7 => ?_)
    rw [ph_7] at Bh_7
    refine lv_istore (lv' := [(5, .int rh_7), (4, .ref bh_2), (0, .ref a0), (1, .int a1), (2, .int a2), (3, .int a3)]) hx hb dX11_tell_17 hl (by decide) rfl (fun ls hl => hp_n (n := 19) rfl ?_)
    refine lv_iload hx hb dX11_tell_19 (lv_at hl 0 rfl) (hp_n (n := 21) rfl ?_)
    have J29 : ∀ (Hh_8 : Heap) (Lh_8 : List Loc) (Bh_8 : hp_B Γ (cwr ra rb w_X11_tell) s α α Hh_8 Lh_8) (ls : Array Slot) (hl : lv_has ls 6 [(0, .ref a0), (5, .int rh_7)]), W p l e (hp_rm 6 0 0) s m ([.ref a0, .int a1, .int a2, .int a3] : List Value).toArray below meth c Hh_8 Lh_8 0 0 (MQ below (hp_Qi Γ (fun r β => cwr ra rb w_X11_tell α β)) ([.ref a0, .int a1, .int a2, .int a3] : List Value).toArray s 0 0 (hp_A Γ)) (F0 m 29 ls []) := by
      intro Hh_8 Lh_8 Bh_8 ls hl
      refine lv_aload_n hx hb dX11_tell_29 rfl (lv_at hl 0 rfl) (hp_n (n := 30) rfl ?_)
      refine lv_iload hx hb dX11_tell_30 (lv_at hl 1 rfl) (hp_n (n := 32) rfl ?_)
      refine q_ci (pc' := 35) Bh_8 (hp_runV (As := [.int rh_7]) (rest := []) C Bh_8 (t_X11_refuse Γ l α Bh_8.2.2.1.1 a0 (cw_k Bh_8.2.2.1 k0) rh_7) lb_X11_refuse lv_X11_refuse lk_X11_98 (cw_k Bh_8.2.2.1 k0) rfl (by decide) rfl hl.1 rfl (Nat.le_of_ble_eq_true rfl) dX11_tell_32 ⟨Nat.le_refl _, Nat.le_refl _⟩) (fun _ _ h => ⟨cw_tr Bh_8.2.2.1 h (by decide), rofw_tr Bh_8.2.2.2 (rofw_cw h (by decide))⟩) rfl (fun rh_9 αh_9 Hh_9 Lh_9 ph_9 Bh_9 => ?_)
      exact q_iret C Bh_9 hr hlk Bh_9.2.2 dX11_tell_35
    refine lv_if_ne (tgt := 29) hx hb dX11_tell_21 (by decide) (fun c_10 => ?_) (fun c_10 => hp_n (n := 24) rfl ?_)
    ·
      have jc_10 := il_ne c_10
      exact J29 Hh_7 Lh_7 Bh_7 ls (lv_sub hl [2, 0] rfl)
    ·
      have jc_10 := il_eq c_10
      refine lv_aload hx hb dX11_tell_24 (lv_at hl 1 rfl) (hp_n (n := 26) rfl ?_)
      refine lv_ifnonnull (tgt := 36) hx hb dX11_tell_26 (by decide) ?_
      refine lv_aload_n hx hb dX11_tell_36 rfl (lv_at hl 2 rfl) (hp_n (n := 37) rfl ?_)
      refine q_getr (κ := 12) (k := 12) (φ := 612) (pc' := 40) C Bh_7 (cw_k Bh_7.2.2.1 k0) fl_X11_62 rfl rfl rfl (cw_r Bh_7.2.2.1 k0 rfl rfl (by decide) (by decide)) dX11_tell_37 rfl (fun b_11 eb_11 kb_11 => ?_)
      refine lv_iload_n hx hb dX11_tell_40 rfl (lv_at hl 4 rfl) (hp_n (n := 41) rfl ?_)
      refine lv_iload_n hx hb dX11_tell_41 rfl (lv_at hl 5 rfl) (hp_n (n := 42) rfl ?_)
      refine q_cv (pc' := 45) Bh_7 (hp_runV (As := [.int a2, .int a3]) (rest := []) C Bh_7 (t_X8_toThing Γ l α Bh_7.2.2.1.1 b_11 (cw_k Bh_7.2.2.1 kb_11) a2 a3) lb_X8_toThing lv_X8_toThing lk_X11_267 (cw_k Bh_7.2.2.1 kb_11) rfl (by decide) rfl hl.1 rfl (Nat.le_of_ble_eq_true rfl) dX11_tell_42 ⟨Nat.le_refl _, Nat.le_refl _⟩) (fun _ h => ⟨cw_tr Bh_7.2.2.1 h (by decide), rofw_tr Bh_7.2.2.2 (rofw_cw h (by decide))⟩) rfl (fun αh_12 Hh_12 Lh_12 ph_12 Bh_12 => ?_)
      refine lv_aload_n hx hb dX11_tell_45 rfl (lv_at hl 2 rfl) (hp_n (n := 46) rfl ?_)
      have t_13 : b_1 = hp_R αh_12 601 a0 := by rw [cw_R ph_12 a0 (by decide)]; exact eb_1
      refine q_gets (κ := 12) (k := 1) (φ := 601) (pc' := 49) C Bh_12 (cw_k Bh_12.2.2.1 k0) fl_X11_16 rfl rfl rfl t_13 dX11_tell_46 rfl ?_
      refine lv_aload_n hx hb dX11_tell_49 rfl (lv_at hl 2 rfl) (hp_n (n := 50) rfl ?_)
      have t_14 : b_11 = hp_R αh_12 612 a0 := by rw [cw_R ph_12 a0 (by decide)]; exact eb_11
      refine q_gets (κ := 12) (k := 12) (φ := 612) (pc' := 53) C Bh_12 (cw_k Bh_12.2.2.1 k0) fl_X11_62 rfl rfl rfl t_14 dX11_tell_50 rfl ?_
      refine lv_aload hx hb dX11_tell_53 (lv_at hl 1 rfl) (hp_n (n := 55) rfl ?_)
      refine lv_aload_n hx hb dX11_tell_55 rfl (lv_at hl 2 rfl) (hp_n (n := 56) rfl ?_)
      refine q_getr (κ := 12) (k := 14) (φ := 614) (pc' := 59) C Bh_12 (cw_k Bh_12.2.2.1 k0) fl_X11_69 rfl rfl rfl (cw_r Bh_12.2.2.1 k0 rfl rfl (by decide) (by decide)) dX11_tell_56 rfl (fun b_15 eb_15 kb_15 => ?_)
      refine q_cv (pc' := 62) Bh_12 (hp_runV (As := [.ref b_11, va_rf (some bh_2), .ref b_15]) (rest := []) C Bh_12 (t_X10_marksAlong_R (ra := ra) (rb := rb) Γ l αh_12 Bh_12.2.2.1.1 b_1 (cw_k Bh_12.2.2.1 kb_1) b_11 (cw_k Bh_12.2.2.1 kb_11) (some bh_2) (fun b h => by cases h; exact (cw_k Bh_12.2.2.1 kbh_2)) b_15 (cw_k Bh_12.2.2.1 kb_15) (by rw [eb_15, cw_R Bh_12.2.2.1 a0 (by decide)]; exact oA) (by rw [cw_R Bh_12.2.2.1 _ (by decide), eb_15, cw_R Bh_12.2.2.1 a0 (by decide)]; exact oB)) lb_X10_marksAlong lv_X10_marksAlong lk_X11_270 (cw_k Bh_12.2.2.1 kb_1) rfl (by decide) rfl hl.1 rfl (Nat.le_of_ble_eq_true rfl) dX11_tell_59 ⟨Nat.le_refl _, Nat.le_refl _⟩) (fun _ h => ⟨cw_tr Bh_12.2.2.1 h.1 (by decide), rofw_tr Bh_12.2.2.2 h.2⟩) rfl (fun αh_16 Hh_16 Lh_16 ph_16 Bh_16 => ?_)
      refine lv_aload_n hx hb dX11_tell_62 rfl (lv_at hl 2 rfl) (hp_n (n := 63) rfl ?_)
      refine lv_iconst (v := 0) hx hb dX11_tell_63 (by decide) (hp_n (n := 64) rfl ?_)
      refine q_puti (κ := 12) (k := 11) (φ := 611) (pc' := 67) C Bh_16 (cw_k Bh_16.2.2.1 k0) fl_X11_56 rfl rfl rfl rfl rfl rfl ⟨cw_sI Bh_16.2.2.1 (by decide) (fun h => absurd h (by decide)), rofw_sI Bh_16.2.2.2 (by decide)⟩ dX11_tell_64 rfl (fun αh_17 Hh_17 Lh_17 eh_17 Bh_17 => ?_)
      refine lv_aload_n hx hb dX11_tell_67 rfl (lv_at hl 2 rfl) (hp_n (n := 68) rfl ?_)
      refine st_ldcw hx hb hown (sr_X11_409 C.2) dX11_tell_68 (hp_n (n := 71) rfl ?_)
      refine q_cv (pc' := 74) Bh_17 (hp_runV (As := [.ref (Γ.2.2.2.2.1 15)]) (rest := []) C Bh_17 (t_X11_tellText Γ l αh_17 Bh_17.2.2.1.1 a0 (cw_k Bh_17.2.2.1 k0) 15 (by decide)) lb_X11_tellText lv_X11_tellText lk_X11_411 (cw_k Bh_17.2.2.1 k0) rfl (by decide) rfl hl.1 rfl (Nat.le_of_ble_eq_true rfl) dX11_tell_71 ⟨Nat.le_refl _, Nat.le_refl _⟩) (fun _ h => ⟨cw_tr Bh_17.2.2.1 h (by decide), rofw_tr Bh_17.2.2.2 (rofw_cw h (by decide))⟩) rfl (fun αh_18 Hh_18 Lh_18 ph_18 Bh_18 => ?_)
      refine lv_aload_n hx hb dX11_tell_74 rfl (lv_at hl 2 rfl) (hp_n (n := 75) rfl ?_)
      refine lv_iload_n hx hb dX11_tell_75 rfl (lv_at hl 4 rfl) (hp_n (n := 76) rfl ?_)
      refine q_cv (pc' := 79) Bh_18 (hp_runV (As := [.int a2]) (rest := []) C Bh_18 (t_X11_tellNumber Γ l αh_18 Bh_18.2.2.1.1 a0 (cw_k Bh_18.2.2.1 k0) a2) lb_X11_tellNumber lv_X11_tellNumber lk_X11_415 (cw_k Bh_18.2.2.1 k0) rfl (by decide) rfl hl.1 rfl (Nat.le_of_ble_eq_true rfl) dX11_tell_76 ⟨Nat.le_refl _, Nat.le_refl _⟩) (fun _ h => ⟨cw_tr Bh_18.2.2.1 h (by decide), rofw_tr Bh_18.2.2.2 (rofw_cw h (by decide))⟩) rfl (fun αh_19 Hh_19 Lh_19 ph_19 Bh_19 => ?_)
      refine lv_aload_n hx hb dX11_tell_79 rfl (lv_at hl 2 rfl) (hp_n (n := 80) rfl ?_)
      refine st_ldcw hx hb hown (sr_X11_418 C.2) dX11_tell_80 (hp_n (n := 83) rfl ?_)
      refine q_cv (pc' := 86) Bh_19 (hp_runV (As := [.ref (Γ.2.2.2.2.1 4)]) (rest := []) C Bh_19 (t_X11_tellText Γ l αh_19 Bh_19.2.2.1.1 a0 (cw_k Bh_19.2.2.1 k0) 4 (by decide)) lb_X11_tellText lv_X11_tellText lk_X11_411 (cw_k Bh_19.2.2.1 k0) rfl (by decide) rfl hl.1 rfl (Nat.le_of_ble_eq_true rfl) dX11_tell_83 ⟨Nat.le_refl _, Nat.le_refl _⟩) (fun _ h => ⟨cw_tr Bh_19.2.2.1 h (by decide), rofw_tr Bh_19.2.2.2 (rofw_cw h (by decide))⟩) rfl (fun αh_20 Hh_20 Lh_20 ph_20 Bh_20 => ?_)
      refine lv_aload_n hx hb dX11_tell_86 rfl (lv_at hl 2 rfl) (hp_n (n := 87) rfl ?_)
      refine lv_iload_n hx hb dX11_tell_87 rfl (lv_at hl 5 rfl) (hp_n (n := 88) rfl ?_)
      refine q_cv (pc' := 91) Bh_20 (hp_runV (As := [.int a3]) (rest := []) C Bh_20 (t_X11_tellNumber Γ l αh_20 Bh_20.2.2.1.1 a0 (cw_k Bh_20.2.2.1 k0) a3) lb_X11_tellNumber lv_X11_tellNumber lk_X11_415 (cw_k Bh_20.2.2.1 k0) rfl (by decide) rfl hl.1 rfl (Nat.le_of_ble_eq_true rfl) dX11_tell_88 ⟨Nat.le_refl _, Nat.le_refl _⟩) (fun _ h => ⟨cw_tr Bh_20.2.2.1 h (by decide), rofw_tr Bh_20.2.2.2 (rofw_cw h (by decide))⟩) rfl (fun αh_21 Hh_21 Lh_21 ph_21 Bh_21 => ?_)
      refine lv_aload_n hx hb dX11_tell_91 rfl (lv_at hl 2 rfl) (hp_n (n := 92) rfl ?_)
      refine st_ldcw hx hb hown (sr_X11_420 C.2) dX11_tell_92 (hp_n (n := 95) rfl ?_)
      refine q_cv (pc' := 98) Bh_21 (hp_runV (As := [.ref (Γ.2.2.2.2.1 3)]) (rest := []) C Bh_21 (t_X11_tellText Γ l αh_21 Bh_21.2.2.1.1 a0 (cw_k Bh_21.2.2.1 k0) 3 (by decide)) lb_X11_tellText lv_X11_tellText lk_X11_411 (cw_k Bh_21.2.2.1 k0) rfl (by decide) rfl hl.1 rfl (Nat.le_of_ble_eq_true rfl) dX11_tell_95 ⟨Nat.le_refl _, Nat.le_refl _⟩) (fun _ h => ⟨cw_tr Bh_21.2.2.1 h (by decide), rofw_tr Bh_21.2.2.2 (rofw_cw h (by decide))⟩) rfl (fun αh_22 Hh_22 Lh_22 ph_22 Bh_22 => ?_)
      refine lv_aload_n hx hb dX11_tell_98 rfl (lv_at hl 2 rfl) (hp_n (n := 99) rfl ?_)
      refine lv_aload hx hb dX11_tell_99 (lv_at hl 1 rfl) (hp_n (n := 101) rfl ?_)
      refine lv_iload_n hx hb dX11_tell_101 rfl (lv_at hl 4 rfl) (hp_n (n := 102) rfl ?_)
      refine q_ci (pc' := 105) Bh_22 (hp_runV (As := [.int a2]) (rest := [.ref a0]) C Bh_22 (t_X2_markAt Γ l αh_22 Bh_22.2.2.1.1 bh_2 (cw_k Bh_22.2.2.1 kbh_2) a2) lb_X2_markAt lv_X2_markAt lk_X11_174 (cw_k Bh_22.2.2.1 kbh_2) rfl (by decide) rfl hl.1 rfl (Nat.le_of_ble_eq_true rfl) dX11_tell_102 ⟨Nat.le_refl _, Nat.le_refl _⟩) (fun _ _ h => by rw [h]; exact Bh_22.2.2) rfl (fun rh_23 αh_23 Hh_23 Lh_23 ph_23 Bh_23 => ?_)
      rw [ph_23] at Bh_23
      refine q_cv (pc' := 108) Bh_23 (hp_runV (As := [.int rh_23]) (rest := []) C Bh_23 (t_X11_tellNumber Γ l αh_22 Bh_23.2.2.1.1 a0 (cw_k Bh_23.2.2.1 k0) rh_23) lb_X11_tellNumber lv_X11_tellNumber lk_X11_415 (cw_k Bh_23.2.2.1 k0) rfl (by decide) rfl hl.1 rfl (Nat.le_of_ble_eq_true rfl) dX11_tell_105 ⟨Nat.le_refl _, Nat.le_refl _⟩) (fun _ h => ⟨cw_tr Bh_23.2.2.1 h (by decide), rofw_tr Bh_23.2.2.2 (rofw_cw h (by decide))⟩) rfl (fun αh_24 Hh_24 Lh_24 ph_24 Bh_24 => ?_)
      refine lv_aload_n hx hb dX11_tell_108 rfl (lv_at hl 2 rfl) (hp_n (n := 109) rfl ?_)
      refine st_ldcw hx hb hown (sr_X11_422 C.2) dX11_tell_109 (hp_n (n := 112) rfl ?_)
      refine q_cv (pc' := 115) Bh_24 (hp_runV (As := [.ref (Γ.2.2.2.2.1 2)]) (rest := []) C Bh_24 (t_X11_tellText Γ l αh_24 Bh_24.2.2.1.1 a0 (cw_k Bh_24.2.2.1 k0) 2 (by decide)) lb_X11_tellText lv_X11_tellText lk_X11_411 (cw_k Bh_24.2.2.1 k0) rfl (by decide) rfl hl.1 rfl (Nat.le_of_ble_eq_true rfl) dX11_tell_112 ⟨Nat.le_refl _, Nat.le_refl _⟩) (fun _ h => ⟨cw_tr Bh_24.2.2.1 h (by decide), rofw_tr Bh_24.2.2.2 (rofw_cw h (by decide))⟩) rfl (fun αh_25 Hh_25 Lh_25 ph_25 Bh_25 => ?_)
      refine lv_aload_n hx hb dX11_tell_115 rfl (lv_at hl 2 rfl) (hp_n (n := 116) rfl ?_)
      refine lv_aload_n hx hb dX11_tell_116 rfl (lv_at hl 2 rfl) (hp_n (n := 117) rfl ?_)
      have t_26 : b_1 = hp_R αh_16 601 a0 := by rw [cw_R ph_16.1 a0 (by decide)]; exact t_13
      have t_27 : b_1 = hp_R αh_17 601 a0 := by rw [eh_17]; exact t_26
      have t_28 : b_1 = hp_R αh_18 601 a0 := by rw [cw_R ph_18 a0 (by decide)]; exact t_27
      have t_29 : b_1 = hp_R αh_19 601 a0 := by rw [cw_R ph_19 a0 (by decide)]; exact t_28
      have t_30 : b_1 = hp_R αh_20 601 a0 := by rw [cw_R ph_20 a0 (by decide)]; exact t_29
      have t_31 : b_1 = hp_R αh_21 601 a0 := by rw [cw_R ph_21 a0 (by decide)]; exact t_30
      have t_32 : b_1 = hp_R αh_22 601 a0 := by rw [cw_R ph_22 a0 (by decide)]; exact t_31
      have t_33 : b_1 = hp_R αh_24 601 a0 := by rw [cw_R ph_24 a0 (by decide)]; exact t_32
      have t_34 : b_1 = hp_R αh_25 601 a0 := by rw [cw_R ph_25 a0 (by decide)]; exact t_33
      refine q_gets (κ := 12) (k := 1) (φ := 601) (pc' := 120) C Bh_25 (cw_k Bh_25.2.2.1 k0) fl_X11_16 rfl rfl rfl t_34 dX11_tell_117 rfl ?_
      refine lv_aload hx hb dX11_tell_120 (lv_at hl 1 rfl) (hp_n (n := 122) rfl ?_)
      refine lv_iload_n hx hb dX11_tell_122 rfl (lv_at hl 5 rfl) (hp_n (n := 123) rfl ?_)
      refine q_ci (pc' := 126) Bh_25 (hp_runV (As := [va_rf (some bh_2), .int a3]) (rest := [.ref a0]) C Bh_25 (t_X10_headOf Γ l αh_25 Bh_25.2.2.1.1 b_1 (cw_k Bh_25.2.2.1 kb_1) (some bh_2) (fun b h => by cases h; exact (cw_k Bh_25.2.2.1 kbh_2)) a3) lb_X10_headOf lv_X10_headOf lk_X11_184 (cw_k Bh_25.2.2.1 kb_1) rfl (by decide) rfl hl.1 rfl (Nat.le_of_ble_eq_true rfl) dX11_tell_123 ⟨Nat.le_refl _, Nat.le_refl _⟩) (fun _ _ h => ⟨cw_tr Bh_25.2.2.1 h (by decide), rofw_tr Bh_25.2.2.2 (rofw_cw h (by decide))⟩) rfl (fun rh_35 αh_35 Hh_35 Lh_35 ph_35 Bh_35 => ?_)
      refine q_cv (pc' := 129) Bh_35 (hp_runV (As := [.int rh_35]) (rest := []) C Bh_35 (t_X11_tellNumber Γ l αh_35 Bh_35.2.2.1.1 a0 (cw_k Bh_35.2.2.1 k0) rh_35) lb_X11_tellNumber lv_X11_tellNumber lk_X11_415 (cw_k Bh_35.2.2.1 k0) rfl (by decide) rfl hl.1 rfl (Nat.le_of_ble_eq_true rfl) dX11_tell_126 ⟨Nat.le_refl _, Nat.le_refl _⟩) (fun _ h => ⟨cw_tr Bh_35.2.2.1 h (by decide), rofw_tr Bh_35.2.2.2 (rofw_cw h (by decide))⟩) rfl (fun αh_36 Hh_36 Lh_36 ph_36 Bh_36 => ?_)
      refine lv_aload_n hx hb dX11_tell_129 rfl (lv_at hl 2 rfl) (hp_n (n := 130) rfl ?_)
      refine q_cv (pc' := 133) Bh_36 (hp_runV (As := []) (rest := []) C Bh_36 (t_X11_tellProof Γ l αh_36 Bh_36.2.2.1.1 a0 (cw_k Bh_36.2.2.1 k0)) lb_X11_tellProof lv_X11_tellProof lk_X11_424 (cw_k Bh_36.2.2.1 k0) rfl (by decide) rfl hl.1 rfl (Nat.le_of_ble_eq_true rfl) dX11_tell_130 ⟨Nat.le_refl _, Nat.le_refl _⟩) (fun _ h => ⟨cw_tr Bh_36.2.2.1 h (by decide), rofw_tr Bh_36.2.2.2 (rofw_cw h (by decide))⟩) rfl (fun αh_37 Hh_37 Lh_37 ph_37 Bh_37 => ?_)
      refine lv_aload_n hx hb dX11_tell_133 rfl (lv_at hl 2 rfl) (hp_n (n := 134) rfl ?_)
      refine lv_aload_n hx hb dX11_tell_134 rfl (lv_at hl 2 rfl) (hp_n (n := 135) rfl ?_)
      have t_38 : 0 = hp_I αh_17 611 a0 := by rw [eh_17]; exact hp_I_at.symm
      refine q_geti (κ := 12) (k := 11) (φ := 611) (pc' := 138) C Bh_37 (cw_k Bh_37.2.2.1 k0) fl_X11_56 rfl rfl rfl dX11_tell_135 rfl (fun x_39 ex_39 => ?_)
      refine q_ci (pc' := 141) Bh_37 (hp_runV (As := [.int x_39]) (rest := []) C Bh_37 (t_X11_answer Γ l αh_37 Bh_37.2.2.1.1 a0 (cw_k Bh_37.2.2.1 k0) x_39) lb_X11_answer lv_X11_answer lk_X11_115 (cw_k Bh_37.2.2.1 k0) rfl (by decide) rfl hl.1 rfl (Nat.le_of_ble_eq_true rfl) dX11_tell_138 ⟨Nat.le_refl _, Nat.le_refl _⟩) (fun _ _ h => ⟨cw_tr Bh_37.2.2.1 h (by decide), rofw_tr Bh_37.2.2.2 (rofw_cw h (by decide))⟩) rfl (fun rh_40 αh_40 Hh_40 Lh_40 ph_40 Bh_40 => ?_)
      exact q_iret C Bh_40 hr hlk Bh_40.2.2 dX11_tell_141
set_option maxRecDepth 100000 in
set_option maxHeartbeats 4000000 in
theorem t_X11_tellGrowth_R {ra rb : List Nat} (Γ : hp_G) (l : Launch) (α : hp_T) (g : GC α) (a0 : Nat) (k0 : hp_K α a0 = 12) (a1 : Int32) (a2 : Int32) (a3 : Int32) (oA : (hp_R α 614 a0) ∈ ra) (oB : hp_R α 300 (hp_R α 614 a0) ∈ rb) : Met l yX11_tellGrowth (hp_ws yX11_tellGrowth cX11_tellGrowth 6 (some .int)) (hp_rm 6 0 0) (hp_Pc Γ α [.ref a0, .int a1, .int a2, .int a3]) (hp_Qi Γ (fun r β => cwr ra rb w_X11_tellGrowth α β)) 0 0 (hp_A Γ) := by
  refine hp_start (by decide) ?_
  intro p e s m below meth c C hr hlk B0 hnm
  have C : hp_C Γ p m c cX11_tellGrowth 6 s ([.ref a0, .int a1, .int a2, .int a3] : List Value).toArray RX11 := C
  have hx := C.1.1
  have hb := C.1.2.1
  have hown := C.1.2.2.2.1
  have hts := C.1.2.2.2.2
  have B : hp_B Γ (cwr ra rb w_X11_tellGrowth) s α α s.heap [] := ⟨B0.1, B0.2.1, cw_rf g, rofw_rf⟩
  have lit0 : (0 : Int32).toInt = 0 := by decide
  have hl := lv_entry ([.ref a0, .int a1, .int a2, .int a3]) (n := 6) (Nat.le_of_ble_eq_true rfl)
  show W p l e (hp_rm 6 0 0) s m ([.ref a0, .int a1, .int a2, .int a3] : List Value).toArray below meth c s.heap [] 0 0 (MQ below (hp_Qi Γ (fun r β => cwr ra rb w_X11_tellGrowth α β)) ([.ref a0, .int a1, .int a2, .int a3] : List Value).toArray s 0 0 (hp_A Γ)) (entryFrame m ([.ref a0, .int a1, .int a2, .int a3] : List Value).toArray 6)
  rw [lg_entry_eq]
  generalize (lg_sl ([.ref a0, .int a1, .int a2, .int a3]) ++ List.replicate (6 - (lg_sl ([.ref a0, .int a1, .int a2, .int a3])).length) Slot.unset).toArray = ls at hl ⊢
  have hl : lv_has ls 6 [(0, .ref a0), (1, .int a1), (2, .int a2), (3, .int a3)] := hl
  refine lv_aload_n hx hb dX11_tellGrowth_0 rfl (lv_at hl 0 rfl) (hp_n (n := 1) rfl ?_)
  refine q_getr (κ := 12) (k := 1) (φ := 601) (pc' := 4) C B (cw_k B.2.2.1 k0) fl_X11_16 rfl rfl rfl (cw_r B.2.2.1 k0 rfl rfl (by decide) (by decide)) dX11_tellGrowth_1 rfl (fun b_1 eb_1 kb_1 => ?_)
  refine lv_iload_n hx hb dX11_tellGrowth_4 rfl (lv_at hl 1 rfl) (hp_n (n := 5) rfl ?_)
  refine q_cq (pc' := 8) B (hp_runV (As := [.int a1]) (rest := []) C B (t_X10_logAt Γ l α B.2.2.1.1 b_1 (cw_k B.2.2.1 kb_1) a1) lb_X10_logAt lv_X10_logAt lk_X11_163 (cw_k B.2.2.1 kb_1) rfl (by decide) rfl hl.1 rfl (Nat.le_of_ble_eq_true rfl) dX11_tellGrowth_5 ⟨Nat.le_refl _, Nat.le_refl _⟩) (fun _ _ h => by rw [h.1]; exact B.2.2) rfl (fun rh_2 αh_2 Hh_2 Lh_2 ph_2 Bh_2 => ?_)
  rw [ph_2.1] at Bh_2
  rcases rh_2 with _ | bh_2
  ·
    refine lv_astoreN (lv' := [(4, .null), (0, .ref a0), (1, .int a1), (2, .int a2), (3, .int a3)]) hx hb dX11_tellGrowth_8 hl (by decide) rfl (fun ls hl => hp_n (n := 10) rfl ?_)
    refine lv_aloadN hx hb dX11_tellGrowth_10 (lv_at hl 0 rfl) (hp_n (n := 12) rfl ?_)
    refine lv_iload_n hx hb dX11_tellGrowth_12 rfl (lv_at hl 3 rfl) (hp_n (n := 13) rfl ?_)
    refine lv_iload_n hx hb dX11_tellGrowth_13 rfl (lv_at hl 4 rfl) (hp_n (n := 14) rfl ?_)
    refine q_ci (pc' := 17) Bh_2 (hp_runS (As := [va_rf none, .int a2, .int a3]) (rest := []) C Bh_2 (t_X11_wrongGrowth Γ l α Bh_2.2.2.1.1 none (fun b h => by cases h) a2 a3) lb_X11_wrongGrowth ls_X11_wrongGrowth lk_X11_180 rfl (by decide) rfl hl.1 rfl (Nat.le_of_ble_eq_true rfl) dX11_tellGrowth_14 ⟨Nat.le_refl _, Nat.le_refl _⟩) (fun _ _ h => by rw [h]; exact Bh_2.2.2) rfl (fun rh_3 αh_3 Hh_3 Lh_3 ph_3 Bh_3 => ?_)
    rw [ph_3] at Bh_3
    refine lv_istore (lv' := [(5, .int rh_3), (4, .null), (0, .ref a0), (1, .int a1), (2, .int a2), (3, .int a3)]) hx hb dX11_tellGrowth_17 hl (by decide) rfl (fun ls hl => hp_n (n := 19) rfl ?_)
    refine lv_iload hx hb dX11_tellGrowth_19 (lv_at hl 0 rfl) (hp_n (n := 21) rfl ?_)
    refine lv_if_eq (tgt := 31) hx hb dX11_tellGrowth_21 (by decide) (fun c_4 => ?_) (fun c_4 => hp_n (n := 24) rfl ?_)
    ·
      have jc_4 := il_eq c_4
      refine lv_aload_n hx hb dX11_tellGrowth_31 rfl (lv_at hl 2 rfl) (hp_n (n := 32) rfl ?_)
      refine q_getr (κ := 12) (k := 12) (φ := 612) (pc' := 35) C Bh_3 (cw_k Bh_3.2.2.1 k0) fl_X11_62 rfl rfl rfl (cw_r Bh_3.2.2.1 k0 rfl rfl (by decide) (by decide)) dX11_tellGrowth_32 rfl (fun b_5 eb_5 kb_5 => ?_)
      refine lv_iload_n hx hb dX11_tellGrowth_35 rfl (lv_at hl 4 rfl) (hp_n (n := 36) rfl ?_)
      refine lv_iload_n hx hb dX11_tellGrowth_36 rfl (lv_at hl 5 rfl) (hp_n (n := 37) rfl ?_)
      refine q_cv (pc' := 40) Bh_3 (hp_runV (As := [.int a2, .int a3]) (rest := []) C Bh_3 (t_X8_toGrowth Γ l α Bh_3.2.2.1.1 b_5 (cw_k Bh_3.2.2.1 kb_5) a2 a3) lb_X8_toGrowth lv_X8_toGrowth lk_X11_274 (cw_k Bh_3.2.2.1 kb_5) rfl (by decide) rfl hl.1 rfl (Nat.le_of_ble_eq_true rfl) dX11_tellGrowth_37 ⟨Nat.le_refl _, Nat.le_refl _⟩) (fun _ h => ⟨cw_tr Bh_3.2.2.1 h (by decide), rofw_tr Bh_3.2.2.2 (rofw_cw h (by decide))⟩) rfl (fun αh_6 Hh_6 Lh_6 ph_6 Bh_6 => ?_)
      refine lv_aload_n hx hb dX11_tellGrowth_40 rfl (lv_at hl 2 rfl) (hp_n (n := 41) rfl ?_)
      have t_7 : b_1 = hp_R αh_6 601 a0 := by rw [cw_R ph_6 a0 (by decide)]; exact eb_1
      refine q_gets (κ := 12) (k := 1) (φ := 601) (pc' := 44) C Bh_6 (cw_k Bh_6.2.2.1 k0) fl_X11_16 rfl rfl rfl t_7 dX11_tellGrowth_41 rfl ?_
      refine lv_aload_n hx hb dX11_tellGrowth_44 rfl (lv_at hl 2 rfl) (hp_n (n := 45) rfl ?_)
      have t_8 : b_5 = hp_R αh_6 612 a0 := by rw [cw_R ph_6 a0 (by decide)]; exact eb_5
      refine q_gets (κ := 12) (k := 12) (φ := 612) (pc' := 48) C Bh_6 (cw_k Bh_6.2.2.1 k0) fl_X11_62 rfl rfl rfl t_8 dX11_tellGrowth_45 rfl ?_
      refine lv_aloadN hx hb dX11_tellGrowth_48 (lv_at hl 1 rfl) (hp_n (n := 50) rfl ?_)
      refine lv_aload_n hx hb dX11_tellGrowth_50 rfl (lv_at hl 2 rfl) (hp_n (n := 51) rfl ?_)
      refine q_getr (κ := 12) (k := 14) (φ := 614) (pc' := 54) C Bh_6 (cw_k Bh_6.2.2.1 k0) fl_X11_69 rfl rfl rfl (cw_r Bh_6.2.2.1 k0 rfl rfl (by decide) (by decide)) dX11_tellGrowth_51 rfl (fun b_9 eb_9 kb_9 => ?_)
      refine q_cv (pc' := 57) Bh_6 (hp_runV (As := [.ref b_5, va_rf none, .ref b_9]) (rest := []) C Bh_6 (t_X10_marksAlong_R (ra := ra) (rb := rb) Γ l αh_6 Bh_6.2.2.1.1 b_1 (cw_k Bh_6.2.2.1 kb_1) b_5 (cw_k Bh_6.2.2.1 kb_5) none (fun b h => by cases h) b_9 (cw_k Bh_6.2.2.1 kb_9) (by rw [eb_9, cw_R Bh_6.2.2.1 a0 (by decide)]; exact oA) (by rw [cw_R Bh_6.2.2.1 _ (by decide), eb_9, cw_R Bh_6.2.2.1 a0 (by decide)]; exact oB)) lb_X10_marksAlong lv_X10_marksAlong lk_X11_270 (cw_k Bh_6.2.2.1 kb_1) rfl (by decide) rfl hl.1 rfl (Nat.le_of_ble_eq_true rfl) dX11_tellGrowth_54 ⟨Nat.le_refl _, Nat.le_refl _⟩) (fun _ h => ⟨cw_tr Bh_6.2.2.1 h.1 (by decide), rofw_tr Bh_6.2.2.2 h.2⟩) rfl (fun αh_10 Hh_10 Lh_10 ph_10 Bh_10 => ?_)
      refine lv_aload_n hx hb dX11_tellGrowth_57 rfl (lv_at hl 2 rfl) (hp_n (n := 58) rfl ?_)
      refine lv_iconst (v := 0) hx hb dX11_tellGrowth_58 (by decide) (hp_n (n := 59) rfl ?_)
      refine q_puti (κ := 12) (k := 11) (φ := 611) (pc' := 62) C Bh_10 (cw_k Bh_10.2.2.1 k0) fl_X11_56 rfl rfl rfl rfl rfl rfl ⟨cw_sI Bh_10.2.2.1 (by decide) (fun h => absurd h (by decide)), rofw_sI Bh_10.2.2.2 (by decide)⟩ dX11_tellGrowth_59 rfl (fun αh_11 Hh_11 Lh_11 eh_11 Bh_11 => ?_)
      refine lv_aload_n hx hb dX11_tellGrowth_62 rfl (lv_at hl 2 rfl) (hp_n (n := 63) rfl ?_)
      refine st_ldcw hx hb hown (sr_X11_427 C.2) dX11_tellGrowth_63 (hp_n (n := 66) rfl ?_)
      refine q_cv (pc' := 69) Bh_11 (hp_runV (As := [.ref (Γ.2.2.2.2.1 12)]) (rest := []) C Bh_11 (t_X11_tellText Γ l αh_11 Bh_11.2.2.1.1 a0 (cw_k Bh_11.2.2.1 k0) 12 (by decide)) lb_X11_tellText lv_X11_tellText lk_X11_411 (cw_k Bh_11.2.2.1 k0) rfl (by decide) rfl hl.1 rfl (Nat.le_of_ble_eq_true rfl) dX11_tellGrowth_66 ⟨Nat.le_refl _, Nat.le_refl _⟩) (fun _ h => ⟨cw_tr Bh_11.2.2.1 h (by decide), rofw_tr Bh_11.2.2.2 (rofw_cw h (by decide))⟩) rfl (fun αh_12 Hh_12 Lh_12 ph_12 Bh_12 => ?_)
      refine lv_aload_n hx hb dX11_tellGrowth_69 rfl (lv_at hl 2 rfl) (hp_n (n := 70) rfl ?_)
      refine lv_iload_n hx hb dX11_tellGrowth_70 rfl (lv_at hl 4 rfl) (hp_n (n := 71) rfl ?_)
      refine q_cv (pc' := 74) Bh_12 (hp_runV (As := [.int a2]) (rest := []) C Bh_12 (t_X11_tellNumber Γ l αh_12 Bh_12.2.2.1.1 a0 (cw_k Bh_12.2.2.1 k0) a2) lb_X11_tellNumber lv_X11_tellNumber lk_X11_415 (cw_k Bh_12.2.2.1 k0) rfl (by decide) rfl hl.1 rfl (Nat.le_of_ble_eq_true rfl) dX11_tellGrowth_71 ⟨Nat.le_refl _, Nat.le_refl _⟩) (fun _ h => ⟨cw_tr Bh_12.2.2.1 h (by decide), rofw_tr Bh_12.2.2.2 (rofw_cw h (by decide))⟩) rfl (fun αh_13 Hh_13 Lh_13 ph_13 Bh_13 => ?_)
      refine lv_aload_n hx hb dX11_tellGrowth_74 rfl (lv_at hl 2 rfl) (hp_n (n := 75) rfl ?_)
      refine st_ldcw hx hb hown (sr_X11_420 C.2) dX11_tellGrowth_75 (hp_n (n := 78) rfl ?_)
      refine q_cv (pc' := 81) Bh_13 (hp_runV (As := [.ref (Γ.2.2.2.2.1 3)]) (rest := []) C Bh_13 (t_X11_tellText Γ l αh_13 Bh_13.2.2.1.1 a0 (cw_k Bh_13.2.2.1 k0) 3 (by decide)) lb_X11_tellText lv_X11_tellText lk_X11_411 (cw_k Bh_13.2.2.1 k0) rfl (by decide) rfl hl.1 rfl (Nat.le_of_ble_eq_true rfl) dX11_tellGrowth_78 ⟨Nat.le_refl _, Nat.le_refl _⟩) (fun _ h => ⟨cw_tr Bh_13.2.2.1 h (by decide), rofw_tr Bh_13.2.2.2 (rofw_cw h (by decide))⟩) rfl (fun αh_14 Hh_14 Lh_14 ph_14 Bh_14 => ?_)
      refine lv_aload_n hx hb dX11_tellGrowth_81 rfl (lv_at hl 2 rfl) (hp_n (n := 82) rfl ?_)
      refine lv_aload_n hx hb dX11_tellGrowth_82 rfl (lv_at hl 2 rfl) (hp_n (n := 83) rfl ?_)
      have t_15 : b_1 = hp_R αh_10 601 a0 := by rw [cw_R ph_10.1 a0 (by decide)]; exact t_7
      have t_16 : b_1 = hp_R αh_11 601 a0 := by rw [eh_11]; exact t_15
      have t_17 : b_1 = hp_R αh_12 601 a0 := by rw [cw_R ph_12 a0 (by decide)]; exact t_16
      have t_18 : b_1 = hp_R αh_13 601 a0 := by rw [cw_R ph_13 a0 (by decide)]; exact t_17
      have t_19 : b_1 = hp_R αh_14 601 a0 := by rw [cw_R ph_14 a0 (by decide)]; exact t_18
      refine q_gets (κ := 12) (k := 1) (φ := 601) (pc' := 86) C Bh_14 (cw_k Bh_14.2.2.1 k0) fl_X11_16 rfl rfl rfl t_19 dX11_tellGrowth_83 rfl ?_
      refine lv_aloadN hx hb dX11_tellGrowth_86 (lv_at hl 1 rfl) (hp_n (n := 88) rfl ?_)
      refine lv_iload_n hx hb dX11_tellGrowth_88 rfl (lv_at hl 4 rfl) (hp_n (n := 89) rfl ?_)
      refine q_ci (pc' := 92) Bh_14 (hp_runV (As := [va_rf none, .int a2]) (rest := [.ref a0]) C Bh_14 (t_X10_headOf Γ l αh_14 Bh_14.2.2.1.1 b_1 (cw_k Bh_14.2.2.1 kb_1) none (fun b h => by cases h) a2) lb_X10_headOf lv_X10_headOf lk_X11_184 (cw_k Bh_14.2.2.1 kb_1) rfl (by decide) rfl hl.1 rfl (Nat.le_of_ble_eq_true rfl) dX11_tellGrowth_89 ⟨Nat.le_refl _, Nat.le_refl _⟩) (fun _ _ h => ⟨cw_tr Bh_14.2.2.1 h (by decide), rofw_tr Bh_14.2.2.2 (rofw_cw h (by decide))⟩) rfl (fun rh_20 αh_20 Hh_20 Lh_20 ph_20 Bh_20 => ?_)
      refine q_cv (pc' := 95) Bh_20 (hp_runV (As := [.int rh_20]) (rest := []) C Bh_20 (t_X11_tellNumber Γ l αh_20 Bh_20.2.2.1.1 a0 (cw_k Bh_20.2.2.1 k0) rh_20) lb_X11_tellNumber lv_X11_tellNumber lk_X11_415 (cw_k Bh_20.2.2.1 k0) rfl (by decide) rfl hl.1 rfl (Nat.le_of_ble_eq_true rfl) dX11_tellGrowth_92 ⟨Nat.le_refl _, Nat.le_refl _⟩) (fun _ h => ⟨cw_tr Bh_20.2.2.1 h (by decide), rofw_tr Bh_20.2.2.2 (rofw_cw h (by decide))⟩) rfl (fun αh_21 Hh_21 Lh_21 ph_21 Bh_21 => ?_)
      refine lv_aload_n hx hb dX11_tellGrowth_95 rfl (lv_at hl 2 rfl) (hp_n (n := 96) rfl ?_)
      refine st_ldcw hx hb hown (sr_X11_429 C.2) dX11_tellGrowth_96 (hp_n (n := 99) rfl ?_)
      refine q_cv (pc' := 102) Bh_21 (hp_runV (As := [.ref (Γ.2.2.2.2.1 5)]) (rest := []) C Bh_21 (t_X11_tellText Γ l αh_21 Bh_21.2.2.1.1 a0 (cw_k Bh_21.2.2.1 k0) 5 (by decide)) lb_X11_tellText lv_X11_tellText lk_X11_411 (cw_k Bh_21.2.2.1 k0) rfl (by decide) rfl hl.1 rfl (Nat.le_of_ble_eq_true rfl) dX11_tellGrowth_99 ⟨Nat.le_refl _, Nat.le_refl _⟩) (fun _ h => ⟨cw_tr Bh_21.2.2.1 h (by decide), rofw_tr Bh_21.2.2.2 (rofw_cw h (by decide))⟩) rfl (fun αh_22 Hh_22 Lh_22 ph_22 Bh_22 => ?_)
      refine lv_aload_n hx hb dX11_tellGrowth_102 rfl (lv_at hl 2 rfl) (hp_n (n := 103) rfl ?_)
      refine lv_iload_n hx hb dX11_tellGrowth_103 rfl (lv_at hl 5 rfl) (hp_n (n := 104) rfl ?_)
      refine q_cv (pc' := 107) Bh_22 (hp_runV (As := [.int a3]) (rest := []) C Bh_22 (t_X11_tellNumber Γ l αh_22 Bh_22.2.2.1.1 a0 (cw_k Bh_22.2.2.1 k0) a3) lb_X11_tellNumber lv_X11_tellNumber lk_X11_415 (cw_k Bh_22.2.2.1 k0) rfl (by decide) rfl hl.1 rfl (Nat.le_of_ble_eq_true rfl) dX11_tellGrowth_104 ⟨Nat.le_refl _, Nat.le_refl _⟩) (fun _ h => ⟨cw_tr Bh_22.2.2.1 h (by decide), rofw_tr Bh_22.2.2.2 (rofw_cw h (by decide))⟩) rfl (fun αh_23 Hh_23 Lh_23 ph_23 Bh_23 => ?_)
      refine lv_aload_n hx hb dX11_tellGrowth_107 rfl (lv_at hl 2 rfl) (hp_n (n := 108) rfl ?_)
      refine st_ldcw hx hb hown (sr_X11_422 C.2) dX11_tellGrowth_108 (hp_n (n := 111) rfl ?_)
      refine q_cv (pc' := 114) Bh_23 (hp_runV (As := [.ref (Γ.2.2.2.2.1 2)]) (rest := []) C Bh_23 (t_X11_tellText Γ l αh_23 Bh_23.2.2.1.1 a0 (cw_k Bh_23.2.2.1 k0) 2 (by decide)) lb_X11_tellText lv_X11_tellText lk_X11_411 (cw_k Bh_23.2.2.1 k0) rfl (by decide) rfl hl.1 rfl (Nat.le_of_ble_eq_true rfl) dX11_tellGrowth_111 ⟨Nat.le_refl _, Nat.le_refl _⟩) (fun _ h => ⟨cw_tr Bh_23.2.2.1 h (by decide), rofw_tr Bh_23.2.2.2 (rofw_cw h (by decide))⟩) rfl (fun αh_24 Hh_24 Lh_24 ph_24 Bh_24 => ?_)
      refine lv_aload_n hx hb dX11_tellGrowth_114 rfl (lv_at hl 2 rfl) (hp_n (n := 115) rfl ?_)
      refine lv_aload_n hx hb dX11_tellGrowth_115 rfl (lv_at hl 2 rfl) (hp_n (n := 116) rfl ?_)
      have t_25 : b_1 = hp_R αh_20 601 a0 := by rw [cw_R ph_20 a0 (by decide)]; exact t_19
      have t_26 : b_1 = hp_R αh_21 601 a0 := by rw [cw_R ph_21 a0 (by decide)]; exact t_25
      have t_27 : b_1 = hp_R αh_22 601 a0 := by rw [cw_R ph_22 a0 (by decide)]; exact t_26
      have t_28 : b_1 = hp_R αh_23 601 a0 := by rw [cw_R ph_23 a0 (by decide)]; exact t_27
      have t_29 : b_1 = hp_R αh_24 601 a0 := by rw [cw_R ph_24 a0 (by decide)]; exact t_28
      refine q_gets (κ := 12) (k := 1) (φ := 601) (pc' := 119) C Bh_24 (cw_k Bh_24.2.2.1 k0) fl_X11_16 rfl rfl rfl t_29 dX11_tellGrowth_116 rfl ?_
      refine lv_aloadN hx hb dX11_tellGrowth_119 (lv_at hl 1 rfl) (hp_n (n := 121) rfl ?_)
      refine lv_iload_n hx hb dX11_tellGrowth_121 rfl (lv_at hl 5 rfl) (hp_n (n := 122) rfl ?_)
      refine q_ci (pc' := 125) Bh_24 (hp_runV (As := [va_rf none, .int a3]) (rest := [.ref a0]) C Bh_24 (t_X10_headOf Γ l αh_24 Bh_24.2.2.1.1 b_1 (cw_k Bh_24.2.2.1 kb_1) none (fun b h => by cases h) a3) lb_X10_headOf lv_X10_headOf lk_X11_184 (cw_k Bh_24.2.2.1 kb_1) rfl (by decide) rfl hl.1 rfl (Nat.le_of_ble_eq_true rfl) dX11_tellGrowth_122 ⟨Nat.le_refl _, Nat.le_refl _⟩) (fun _ _ h => ⟨cw_tr Bh_24.2.2.1 h (by decide), rofw_tr Bh_24.2.2.2 (rofw_cw h (by decide))⟩) rfl (fun rh_30 αh_30 Hh_30 Lh_30 ph_30 Bh_30 => ?_)
      refine q_cv (pc' := 128) Bh_30 (hp_runV (As := [.int rh_30]) (rest := []) C Bh_30 (t_X11_tellNumber Γ l αh_30 Bh_30.2.2.1.1 a0 (cw_k Bh_30.2.2.1 k0) rh_30) lb_X11_tellNumber lv_X11_tellNumber lk_X11_415 (cw_k Bh_30.2.2.1 k0) rfl (by decide) rfl hl.1 rfl (Nat.le_of_ble_eq_true rfl) dX11_tellGrowth_125 ⟨Nat.le_refl _, Nat.le_refl _⟩) (fun _ h => ⟨cw_tr Bh_30.2.2.1 h (by decide), rofw_tr Bh_30.2.2.2 (rofw_cw h (by decide))⟩) rfl (fun αh_31 Hh_31 Lh_31 ph_31 Bh_31 => ?_)
      refine lv_aload_n hx hb dX11_tellGrowth_128 rfl (lv_at hl 2 rfl) (hp_n (n := 129) rfl ?_)
      refine q_cv (pc' := 132) Bh_31 (hp_runV (As := []) (rest := []) C Bh_31 (t_X11_tellProof Γ l αh_31 Bh_31.2.2.1.1 a0 (cw_k Bh_31.2.2.1 k0)) lb_X11_tellProof lv_X11_tellProof lk_X11_424 (cw_k Bh_31.2.2.1 k0) rfl (by decide) rfl hl.1 rfl (Nat.le_of_ble_eq_true rfl) dX11_tellGrowth_129 ⟨Nat.le_refl _, Nat.le_refl _⟩) (fun _ h => ⟨cw_tr Bh_31.2.2.1 h (by decide), rofw_tr Bh_31.2.2.2 (rofw_cw h (by decide))⟩) rfl (fun αh_32 Hh_32 Lh_32 ph_32 Bh_32 => ?_)
      refine lv_aload_n hx hb dX11_tellGrowth_132 rfl (lv_at hl 2 rfl) (hp_n (n := 133) rfl ?_)
      refine lv_aload_n hx hb dX11_tellGrowth_133 rfl (lv_at hl 2 rfl) (hp_n (n := 134) rfl ?_)
      have t_33 : 0 = hp_I αh_11 611 a0 := by rw [eh_11]; exact hp_I_at.symm
      refine q_geti (κ := 12) (k := 11) (φ := 611) (pc' := 137) C Bh_32 (cw_k Bh_32.2.2.1 k0) fl_X11_56 rfl rfl rfl dX11_tellGrowth_134 rfl (fun x_34 ex_34 => ?_)
      refine q_ci (pc' := 140) Bh_32 (hp_runV (As := [.int x_34]) (rest := []) C Bh_32 (t_X11_answer Γ l αh_32 Bh_32.2.2.1.1 a0 (cw_k Bh_32.2.2.1 k0) x_34) lb_X11_answer lv_X11_answer lk_X11_115 (cw_k Bh_32.2.2.1 k0) rfl (by decide) rfl hl.1 rfl (Nat.le_of_ble_eq_true rfl) dX11_tellGrowth_137 ⟨Nat.le_refl _, Nat.le_refl _⟩) (fun _ _ h => ⟨cw_tr Bh_32.2.2.1 h (by decide), rofw_tr Bh_32.2.2.2 (rofw_cw h (by decide))⟩) rfl (fun rh_35 αh_35 Hh_35 Lh_35 ph_35 Bh_35 => ?_)
      exact q_iret C Bh_35 hr hlk Bh_35.2.2 dX11_tellGrowth_140
    ·
      have jc_4 := il_ne c_4
      refine lv_aload_n hx hb dX11_tellGrowth_24 rfl (lv_at hl 2 rfl) (hp_n (n := 25) rfl ?_)
      refine lv_iload hx hb dX11_tellGrowth_25 (lv_at hl 0 rfl) (hp_n (n := 27) rfl ?_)
      refine q_ci (pc' := 30) Bh_3 (hp_runV (As := [.int rh_3]) (rest := []) C Bh_3 (t_X11_refuse Γ l α Bh_3.2.2.1.1 a0 (cw_k Bh_3.2.2.1 k0) rh_3) lb_X11_refuse lv_X11_refuse lk_X11_98 (cw_k Bh_3.2.2.1 k0) rfl (by decide) rfl hl.1 rfl (Nat.le_of_ble_eq_true rfl) dX11_tellGrowth_27 ⟨Nat.le_refl _, Nat.le_refl _⟩) (fun _ _ h => ⟨cw_tr Bh_3.2.2.1 h (by decide), rofw_tr Bh_3.2.2.2 (rofw_cw h (by decide))⟩) rfl (fun rh_36 αh_36 Hh_36 Lh_36 ph_36 Bh_36 => ?_)
      exact q_iret C Bh_36 hr hlk Bh_36.2.2 dX11_tellGrowth_30
  ·
    have kbh_2 : hp_K α bh_2 = 3 := cw_k' Bh_2.2.2.1 (ph_2.2 bh_2 rfl)
    refine lv_astore (lv' := [(4, .ref bh_2), (0, .ref a0), (1, .int a1), (2, .int a2), (3, .int a3)]) hx hb dX11_tellGrowth_8 hl (by decide) rfl (fun ls hl => hp_n (n := 10) rfl ?_)
    refine lv_aload hx hb dX11_tellGrowth_10 (lv_at hl 0 rfl) (hp_n (n := 12) rfl ?_)
    refine lv_iload_n hx hb dX11_tellGrowth_12 rfl (lv_at hl 3 rfl) (hp_n (n := 13) rfl ?_)
    refine lv_iload_n hx hb dX11_tellGrowth_13 rfl (lv_at hl 4 rfl) (hp_n (n := 14) rfl ?_)
    refine q_ci (pc' := 17) Bh_2 (hp_runS (As := [va_rf (some bh_2), .int a2, .int a3]) (rest := []) C Bh_2 (t_X11_wrongGrowth Γ l α Bh_2.2.2.1.1 (some bh_2) (fun b h => by cases h; exact (cw_k Bh_2.2.2.1 kbh_2)) a2 a3) lb_X11_wrongGrowth ls_X11_wrongGrowth lk_X11_180 rfl (by decide) rfl hl.1 rfl (Nat.le_of_ble_eq_true rfl) dX11_tellGrowth_14 ⟨Nat.le_refl _, Nat.le_refl _⟩) (fun _ _ h => by rw [h]; exact Bh_2.2.2) rfl (fun rh_37 αh_37 Hh_37 Lh_37 ph_37 Bh_37 => ?_)
    rw [ph_37] at Bh_37
    refine lv_istore (lv' := [(5, .int rh_37), (4, .ref bh_2), (0, .ref a0), (1, .int a1), (2, .int a2), (3, .int a3)]) hx hb dX11_tellGrowth_17 hl (by decide) rfl (fun ls hl => hp_n (n := 19) rfl ?_)
    refine lv_iload hx hb dX11_tellGrowth_19 (lv_at hl 0 rfl) (hp_n (n := 21) rfl ?_)
    refine lv_if_eq (tgt := 31) hx hb dX11_tellGrowth_21 (by decide) (fun c_38 => ?_) (fun c_38 => hp_n (n := 24) rfl ?_)
    ·
      have jc_38 := il_eq c_38
      refine lv_aload_n hx hb dX11_tellGrowth_31 rfl (lv_at hl 2 rfl) (hp_n (n := 32) rfl ?_)
      refine q_getr (κ := 12) (k := 12) (φ := 612) (pc' := 35) C Bh_37 (cw_k Bh_37.2.2.1 k0) fl_X11_62 rfl rfl rfl (cw_r Bh_37.2.2.1 k0 rfl rfl (by decide) (by decide)) dX11_tellGrowth_32 rfl (fun b_39 eb_39 kb_39 => ?_)
      refine lv_iload_n hx hb dX11_tellGrowth_35 rfl (lv_at hl 4 rfl) (hp_n (n := 36) rfl ?_)
      refine lv_iload_n hx hb dX11_tellGrowth_36 rfl (lv_at hl 5 rfl) (hp_n (n := 37) rfl ?_)
      refine q_cv (pc' := 40) Bh_37 (hp_runV (As := [.int a2, .int a3]) (rest := []) C Bh_37 (t_X8_toGrowth Γ l α Bh_37.2.2.1.1 b_39 (cw_k Bh_37.2.2.1 kb_39) a2 a3) lb_X8_toGrowth lv_X8_toGrowth lk_X11_274 (cw_k Bh_37.2.2.1 kb_39) rfl (by decide) rfl hl.1 rfl (Nat.le_of_ble_eq_true rfl) dX11_tellGrowth_37 ⟨Nat.le_refl _, Nat.le_refl _⟩) (fun _ h => ⟨cw_tr Bh_37.2.2.1 h (by decide), rofw_tr Bh_37.2.2.2 (rofw_cw h (by decide))⟩) rfl (fun αh_40 Hh_40 Lh_40 ph_40 Bh_40 => ?_)
      refine lv_aload_n hx hb dX11_tellGrowth_40 rfl (lv_at hl 2 rfl) (hp_n (n := 41) rfl ?_)
      have t_41 : b_1 = hp_R αh_40 601 a0 := by rw [cw_R ph_40 a0 (by decide)]; exact eb_1
      refine q_gets (κ := 12) (k := 1) (φ := 601) (pc' := 44) C Bh_40 (cw_k Bh_40.2.2.1 k0) fl_X11_16 rfl rfl rfl t_41 dX11_tellGrowth_41 rfl ?_
      refine lv_aload_n hx hb dX11_tellGrowth_44 rfl (lv_at hl 2 rfl) (hp_n (n := 45) rfl ?_)
      have t_42 : b_39 = hp_R αh_40 612 a0 := by rw [cw_R ph_40 a0 (by decide)]; exact eb_39
      refine q_gets (κ := 12) (k := 12) (φ := 612) (pc' := 48) C Bh_40 (cw_k Bh_40.2.2.1 k0) fl_X11_62 rfl rfl rfl t_42 dX11_tellGrowth_45 rfl ?_
      refine lv_aload hx hb dX11_tellGrowth_48 (lv_at hl 1 rfl) (hp_n (n := 50) rfl ?_)
      refine lv_aload_n hx hb dX11_tellGrowth_50 rfl (lv_at hl 2 rfl) (hp_n (n := 51) rfl ?_)
      refine q_getr (κ := 12) (k := 14) (φ := 614) (pc' := 54) C Bh_40 (cw_k Bh_40.2.2.1 k0) fl_X11_69 rfl rfl rfl (cw_r Bh_40.2.2.1 k0 rfl rfl (by decide) (by decide)) dX11_tellGrowth_51 rfl (fun b_43 eb_43 kb_43 => ?_)
      refine q_cv (pc' := 57) Bh_40 (hp_runV (As := [.ref b_39, va_rf (some bh_2), .ref b_43]) (rest := []) C Bh_40 (t_X10_marksAlong_R (ra := ra) (rb := rb) Γ l αh_40 Bh_40.2.2.1.1 b_1 (cw_k Bh_40.2.2.1 kb_1) b_39 (cw_k Bh_40.2.2.1 kb_39) (some bh_2) (fun b h => by cases h; exact (cw_k Bh_40.2.2.1 kbh_2)) b_43 (cw_k Bh_40.2.2.1 kb_43) (by rw [eb_43, cw_R Bh_40.2.2.1 a0 (by decide)]; exact oA) (by rw [cw_R Bh_40.2.2.1 _ (by decide), eb_43, cw_R Bh_40.2.2.1 a0 (by decide)]; exact oB)) lb_X10_marksAlong lv_X10_marksAlong lk_X11_270 (cw_k Bh_40.2.2.1 kb_1) rfl (by decide) rfl hl.1 rfl (Nat.le_of_ble_eq_true rfl) dX11_tellGrowth_54 ⟨Nat.le_refl _, Nat.le_refl _⟩) (fun _ h => ⟨cw_tr Bh_40.2.2.1 h.1 (by decide), rofw_tr Bh_40.2.2.2 h.2⟩) rfl (fun αh_44 Hh_44 Lh_44 ph_44 Bh_44 => ?_)
      refine lv_aload_n hx hb dX11_tellGrowth_57 rfl (lv_at hl 2 rfl) (hp_n (n := 58) rfl ?_)
      refine lv_iconst (v := 0) hx hb dX11_tellGrowth_58 (by decide) (hp_n (n := 59) rfl ?_)
      refine q_puti (κ := 12) (k := 11) (φ := 611) (pc' := 62) C Bh_44 (cw_k Bh_44.2.2.1 k0) fl_X11_56 rfl rfl rfl rfl rfl rfl ⟨cw_sI Bh_44.2.2.1 (by decide) (fun h => absurd h (by decide)), rofw_sI Bh_44.2.2.2 (by decide)⟩ dX11_tellGrowth_59 rfl (fun αh_45 Hh_45 Lh_45 eh_45 Bh_45 => ?_)
      refine lv_aload_n hx hb dX11_tellGrowth_62 rfl (lv_at hl 2 rfl) (hp_n (n := 63) rfl ?_)
      refine st_ldcw hx hb hown (sr_X11_427 C.2) dX11_tellGrowth_63 (hp_n (n := 66) rfl ?_)
      refine q_cv (pc' := 69) Bh_45 (hp_runV (As := [.ref (Γ.2.2.2.2.1 12)]) (rest := []) C Bh_45 (t_X11_tellText Γ l αh_45 Bh_45.2.2.1.1 a0 (cw_k Bh_45.2.2.1 k0) 12 (by decide)) lb_X11_tellText lv_X11_tellText lk_X11_411 (cw_k Bh_45.2.2.1 k0) rfl (by decide) rfl hl.1 rfl (Nat.le_of_ble_eq_true rfl) dX11_tellGrowth_66 ⟨Nat.le_refl _, Nat.le_refl _⟩) (fun _ h => ⟨cw_tr Bh_45.2.2.1 h (by decide), rofw_tr Bh_45.2.2.2 (rofw_cw h (by decide))⟩) rfl (fun αh_46 Hh_46 Lh_46 ph_46 Bh_46 => ?_)
      refine lv_aload_n hx hb dX11_tellGrowth_69 rfl (lv_at hl 2 rfl) (hp_n (n := 70) rfl ?_)
      refine lv_iload_n hx hb dX11_tellGrowth_70 rfl (lv_at hl 4 rfl) (hp_n (n := 71) rfl ?_)
      refine q_cv (pc' := 74) Bh_46 (hp_runV (As := [.int a2]) (rest := []) C Bh_46 (t_X11_tellNumber Γ l αh_46 Bh_46.2.2.1.1 a0 (cw_k Bh_46.2.2.1 k0) a2) lb_X11_tellNumber lv_X11_tellNumber lk_X11_415 (cw_k Bh_46.2.2.1 k0) rfl (by decide) rfl hl.1 rfl (Nat.le_of_ble_eq_true rfl) dX11_tellGrowth_71 ⟨Nat.le_refl _, Nat.le_refl _⟩) (fun _ h => ⟨cw_tr Bh_46.2.2.1 h (by decide), rofw_tr Bh_46.2.2.2 (rofw_cw h (by decide))⟩) rfl (fun αh_47 Hh_47 Lh_47 ph_47 Bh_47 => ?_)
      refine lv_aload_n hx hb dX11_tellGrowth_74 rfl (lv_at hl 2 rfl) (hp_n (n := 75) rfl ?_)
      refine st_ldcw hx hb hown (sr_X11_420 C.2) dX11_tellGrowth_75 (hp_n (n := 78) rfl ?_)
      refine q_cv (pc' := 81) Bh_47 (hp_runV (As := [.ref (Γ.2.2.2.2.1 3)]) (rest := []) C Bh_47 (t_X11_tellText Γ l αh_47 Bh_47.2.2.1.1 a0 (cw_k Bh_47.2.2.1 k0) 3 (by decide)) lb_X11_tellText lv_X11_tellText lk_X11_411 (cw_k Bh_47.2.2.1 k0) rfl (by decide) rfl hl.1 rfl (Nat.le_of_ble_eq_true rfl) dX11_tellGrowth_78 ⟨Nat.le_refl _, Nat.le_refl _⟩) (fun _ h => ⟨cw_tr Bh_47.2.2.1 h (by decide), rofw_tr Bh_47.2.2.2 (rofw_cw h (by decide))⟩) rfl (fun αh_48 Hh_48 Lh_48 ph_48 Bh_48 => ?_)
      refine lv_aload_n hx hb dX11_tellGrowth_81 rfl (lv_at hl 2 rfl) (hp_n (n := 82) rfl ?_)
      refine lv_aload_n hx hb dX11_tellGrowth_82 rfl (lv_at hl 2 rfl) (hp_n (n := 83) rfl ?_)
      have t_49 : b_1 = hp_R αh_44 601 a0 := by rw [cw_R ph_44.1 a0 (by decide)]; exact t_41
      have t_50 : b_1 = hp_R αh_45 601 a0 := by rw [eh_45]; exact t_49
      have t_51 : b_1 = hp_R αh_46 601 a0 := by rw [cw_R ph_46 a0 (by decide)]; exact t_50
      have t_52 : b_1 = hp_R αh_47 601 a0 := by rw [cw_R ph_47 a0 (by decide)]; exact t_51
      have t_53 : b_1 = hp_R αh_48 601 a0 := by rw [cw_R ph_48 a0 (by decide)]; exact t_52
      refine q_gets (κ := 12) (k := 1) (φ := 601) (pc' := 86) C Bh_48 (cw_k Bh_48.2.2.1 k0) fl_X11_16 rfl rfl rfl t_53 dX11_tellGrowth_83 rfl ?_
      refine lv_aload hx hb dX11_tellGrowth_86 (lv_at hl 1 rfl) (hp_n (n := 88) rfl ?_)
      refine lv_iload_n hx hb dX11_tellGrowth_88 rfl (lv_at hl 4 rfl) (hp_n (n := 89) rfl ?_)
      refine q_ci (pc' := 92) Bh_48 (hp_runV (As := [va_rf (some bh_2), .int a2]) (rest := [.ref a0]) C Bh_48 (t_X10_headOf Γ l αh_48 Bh_48.2.2.1.1 b_1 (cw_k Bh_48.2.2.1 kb_1) (some bh_2) (fun b h => by cases h; exact (cw_k Bh_48.2.2.1 kbh_2)) a2) lb_X10_headOf lv_X10_headOf lk_X11_184 (cw_k Bh_48.2.2.1 kb_1) rfl (by decide) rfl hl.1 rfl (Nat.le_of_ble_eq_true rfl) dX11_tellGrowth_89 ⟨Nat.le_refl _, Nat.le_refl _⟩) (fun _ _ h => ⟨cw_tr Bh_48.2.2.1 h (by decide), rofw_tr Bh_48.2.2.2 (rofw_cw h (by decide))⟩) rfl (fun rh_54 αh_54 Hh_54 Lh_54 ph_54 Bh_54 => ?_)
      refine q_cv (pc' := 95) Bh_54 (hp_runV (As := [.int rh_54]) (rest := []) C Bh_54 (t_X11_tellNumber Γ l αh_54 Bh_54.2.2.1.1 a0 (cw_k Bh_54.2.2.1 k0) rh_54) lb_X11_tellNumber lv_X11_tellNumber lk_X11_415 (cw_k Bh_54.2.2.1 k0) rfl (by decide) rfl hl.1 rfl (Nat.le_of_ble_eq_true rfl) dX11_tellGrowth_92 ⟨Nat.le_refl _, Nat.le_refl _⟩) (fun _ h => ⟨cw_tr Bh_54.2.2.1 h (by decide), rofw_tr Bh_54.2.2.2 (rofw_cw h (by decide))⟩) rfl (fun αh_55 Hh_55 Lh_55 ph_55 Bh_55 => ?_)
      refine lv_aload_n hx hb dX11_tellGrowth_95 rfl (lv_at hl 2 rfl) (hp_n (n := 96) rfl ?_)
      refine st_ldcw hx hb hown (sr_X11_429 C.2) dX11_tellGrowth_96 (hp_n (n := 99) rfl ?_)
      refine q_cv (pc' := 102) Bh_55 (hp_runV (As := [.ref (Γ.2.2.2.2.1 5)]) (rest := []) C Bh_55 (t_X11_tellText Γ l αh_55 Bh_55.2.2.1.1 a0 (cw_k Bh_55.2.2.1 k0) 5 (by decide)) lb_X11_tellText lv_X11_tellText lk_X11_411 (cw_k Bh_55.2.2.1 k0) rfl (by decide) rfl hl.1 rfl (Nat.le_of_ble_eq_true rfl) dX11_tellGrowth_99 ⟨Nat.le_refl _, Nat.le_refl _⟩) (fun _ h => ⟨cw_tr Bh_55.2.2.1 h (by decide), rofw_tr Bh_55.2.2.2 (rofw_cw h (by decide))⟩) rfl (fun αh_56 Hh_56 Lh_56 ph_56 Bh_56 => ?_)
      refine lv_aload_n hx hb dX11_tellGrowth_102 rfl (lv_at hl 2 rfl) (hp_n (n := 103) rfl ?_)
      refine lv_iload_n hx hb dX11_tellGrowth_103 rfl (lv_at hl 5 rfl) (hp_n (n := 104) rfl ?_)
      refine q_cv (pc' := 107) Bh_56 (hp_runV (As := [.int a3]) (rest := []) C Bh_56 (t_X11_tellNumber Γ l αh_56 Bh_56.2.2.1.1 a0 (cw_k Bh_56.2.2.1 k0) a3) lb_X11_tellNumber lv_X11_tellNumber lk_X11_415 (cw_k Bh_56.2.2.1 k0) rfl (by decide) rfl hl.1 rfl (Nat.le_of_ble_eq_true rfl) dX11_tellGrowth_104 ⟨Nat.le_refl _, Nat.le_refl _⟩) (fun _ h => ⟨cw_tr Bh_56.2.2.1 h (by decide), rofw_tr Bh_56.2.2.2 (rofw_cw h (by decide))⟩) rfl (fun αh_57 Hh_57 Lh_57 ph_57 Bh_57 => ?_)
      refine lv_aload_n hx hb dX11_tellGrowth_107 rfl (lv_at hl 2 rfl) (hp_n (n := 108) rfl ?_)
      refine st_ldcw hx hb hown (sr_X11_422 C.2) dX11_tellGrowth_108 (hp_n (n := 111) rfl ?_)
      refine q_cv (pc' := 114) Bh_57 (hp_runV (As := [.ref (Γ.2.2.2.2.1 2)]) (rest := []) C Bh_57 (t_X11_tellText Γ l αh_57 Bh_57.2.2.1.1 a0 (cw_k Bh_57.2.2.1 k0) 2 (by decide)) lb_X11_tellText lv_X11_tellText lk_X11_411 (cw_k Bh_57.2.2.1 k0) rfl (by decide) rfl hl.1 rfl (Nat.le_of_ble_eq_true rfl) dX11_tellGrowth_111 ⟨Nat.le_refl _, Nat.le_refl _⟩) (fun _ h => ⟨cw_tr Bh_57.2.2.1 h (by decide), rofw_tr Bh_57.2.2.2 (rofw_cw h (by decide))⟩) rfl (fun αh_58 Hh_58 Lh_58 ph_58 Bh_58 => ?_)
      refine lv_aload_n hx hb dX11_tellGrowth_114 rfl (lv_at hl 2 rfl) (hp_n (n := 115) rfl ?_)
      refine lv_aload_n hx hb dX11_tellGrowth_115 rfl (lv_at hl 2 rfl) (hp_n (n := 116) rfl ?_)
      have t_59 : b_1 = hp_R αh_54 601 a0 := by rw [cw_R ph_54 a0 (by decide)]; exact t_53
      have t_60 : b_1 = hp_R αh_55 601 a0 := by rw [cw_R ph_55 a0 (by decide)]; exact t_59
      have t_61 : b_1 = hp_R αh_56 601 a0 := by rw [cw_R ph_56 a0 (by decide)]; exact t_60
      have t_62 : b_1 = hp_R αh_57 601 a0 := by rw [cw_R ph_57 a0 (by decide)]; exact t_61
      have t_63 : b_1 = hp_R αh_58 601 a0 := by rw [cw_R ph_58 a0 (by decide)]; exact t_62
      refine q_gets (κ := 12) (k := 1) (φ := 601) (pc' := 119) C Bh_58 (cw_k Bh_58.2.2.1 k0) fl_X11_16 rfl rfl rfl t_63 dX11_tellGrowth_116 rfl ?_
      refine lv_aload hx hb dX11_tellGrowth_119 (lv_at hl 1 rfl) (hp_n (n := 121) rfl ?_)
      refine lv_iload_n hx hb dX11_tellGrowth_121 rfl (lv_at hl 5 rfl) (hp_n (n := 122) rfl ?_)
      refine q_ci (pc' := 125) Bh_58 (hp_runV (As := [va_rf (some bh_2), .int a3]) (rest := [.ref a0]) C Bh_58 (t_X10_headOf Γ l αh_58 Bh_58.2.2.1.1 b_1 (cw_k Bh_58.2.2.1 kb_1) (some bh_2) (fun b h => by cases h; exact (cw_k Bh_58.2.2.1 kbh_2)) a3) lb_X10_headOf lv_X10_headOf lk_X11_184 (cw_k Bh_58.2.2.1 kb_1) rfl (by decide) rfl hl.1 rfl (Nat.le_of_ble_eq_true rfl) dX11_tellGrowth_122 ⟨Nat.le_refl _, Nat.le_refl _⟩) (fun _ _ h => ⟨cw_tr Bh_58.2.2.1 h (by decide), rofw_tr Bh_58.2.2.2 (rofw_cw h (by decide))⟩) rfl (fun rh_64 αh_64 Hh_64 Lh_64 ph_64 Bh_64 => ?_)
      refine q_cv (pc' := 128) Bh_64 (hp_runV (As := [.int rh_64]) (rest := []) C Bh_64 (t_X11_tellNumber Γ l αh_64 Bh_64.2.2.1.1 a0 (cw_k Bh_64.2.2.1 k0) rh_64) lb_X11_tellNumber lv_X11_tellNumber lk_X11_415 (cw_k Bh_64.2.2.1 k0) rfl (by decide) rfl hl.1 rfl (Nat.le_of_ble_eq_true rfl) dX11_tellGrowth_125 ⟨Nat.le_refl _, Nat.le_refl _⟩) (fun _ h => ⟨cw_tr Bh_64.2.2.1 h (by decide), rofw_tr Bh_64.2.2.2 (rofw_cw h (by decide))⟩) rfl (fun αh_65 Hh_65 Lh_65 ph_65 Bh_65 => ?_)
      refine lv_aload_n hx hb dX11_tellGrowth_128 rfl (lv_at hl 2 rfl) (hp_n (n := 129) rfl ?_)
      refine q_cv (pc' := 132) Bh_65 (hp_runV (As := []) (rest := []) C Bh_65 (t_X11_tellProof Γ l αh_65 Bh_65.2.2.1.1 a0 (cw_k Bh_65.2.2.1 k0)) lb_X11_tellProof lv_X11_tellProof lk_X11_424 (cw_k Bh_65.2.2.1 k0) rfl (by decide) rfl hl.1 rfl (Nat.le_of_ble_eq_true rfl) dX11_tellGrowth_129 ⟨Nat.le_refl _, Nat.le_refl _⟩) (fun _ h => ⟨cw_tr Bh_65.2.2.1 h (by decide), rofw_tr Bh_65.2.2.2 (rofw_cw h (by decide))⟩) rfl (fun αh_66 Hh_66 Lh_66 ph_66 Bh_66 => ?_)
      refine lv_aload_n hx hb dX11_tellGrowth_132 rfl (lv_at hl 2 rfl) (hp_n (n := 133) rfl ?_)
      refine lv_aload_n hx hb dX11_tellGrowth_133 rfl (lv_at hl 2 rfl) (hp_n (n := 134) rfl ?_)
      have t_67 : 0 = hp_I αh_45 611 a0 := by rw [eh_45]; exact hp_I_at.symm
      refine q_geti (κ := 12) (k := 11) (φ := 611) (pc' := 137) C Bh_66 (cw_k Bh_66.2.2.1 k0) fl_X11_56 rfl rfl rfl dX11_tellGrowth_134 rfl (fun x_68 ex_68 => ?_)
      refine q_ci (pc' := 140) Bh_66 (hp_runV (As := [.int x_68]) (rest := []) C Bh_66 (t_X11_answer Γ l αh_66 Bh_66.2.2.1.1 a0 (cw_k Bh_66.2.2.1 k0) x_68) lb_X11_answer lv_X11_answer lk_X11_115 (cw_k Bh_66.2.2.1 k0) rfl (by decide) rfl hl.1 rfl (Nat.le_of_ble_eq_true rfl) dX11_tellGrowth_137 ⟨Nat.le_refl _, Nat.le_refl _⟩) (fun _ _ h => ⟨cw_tr Bh_66.2.2.1 h (by decide), rofw_tr Bh_66.2.2.2 (rofw_cw h (by decide))⟩) rfl (fun rh_69 αh_69 Hh_69 Lh_69 ph_69 Bh_69 => ?_)
      exact q_iret C Bh_69 hr hlk Bh_69.2.2 dX11_tellGrowth_140
    ·
      have jc_38 := il_ne c_38
      refine lv_aload_n hx hb dX11_tellGrowth_24 rfl (lv_at hl 2 rfl) (hp_n (n := 25) rfl ?_)
      refine lv_iload hx hb dX11_tellGrowth_25 (lv_at hl 0 rfl) (hp_n (n := 27) rfl ?_)
      refine q_ci (pc' := 30) Bh_37 (hp_runV (As := [.int rh_37]) (rest := []) C Bh_37 (t_X11_refuse Γ l α Bh_37.2.2.1.1 a0 (cw_k Bh_37.2.2.1 k0) rh_37) lb_X11_refuse lv_X11_refuse lk_X11_98 (cw_k Bh_37.2.2.1 k0) rfl (by decide) rfl hl.1 rfl (Nat.le_of_ble_eq_true rfl) dX11_tellGrowth_27 ⟨Nat.le_refl _, Nat.le_refl _⟩) (fun _ _ h => ⟨cw_tr Bh_37.2.2.1 h (by decide), rofw_tr Bh_37.2.2.2 (rofw_cw h (by decide))⟩) rfl (fun rh_70 αh_70 Hh_70 Lh_70 ph_70 Bh_70 => ?_)
      exact q_iret C Bh_70 hr hlk Bh_70.2.2 dX11_tellGrowth_30
set_option maxRecDepth 100000 in
set_option maxHeartbeats 4000000 in
theorem t_X11_weak_S_R {ra rb : List Nat} (Γ : hp_G) (l : Launch) (α : hp_T) (g : GC α) (a0 : Nat) (k0 : hp_K α a0 = 12) (a1 : Int32) (a2 : Int32) (a3 : Int32) (a4 : Int32) (b0 : Nat) (hN : hp_N α 618 a0 = some b0) (oA : (hp_R α 614 a0) ∈ ra) (oB : hp_R α 300 (hp_R α 614 a0) ∈ rb) : Met l yX11_weak (hp_ws yX11_weak cX11_weak 8 (some .int)) (hp_rm 72 0 0) (hp_Pc Γ α [.ref a0, .int a1, .int a2, .int a3, .int a4]) (hp_Qi Γ (fun r β => cwr ra rb w_X11_weak_S α β)) 0 0 (hp_A Γ) := by
  refine hp_start (by decide) ?_
  intro p e s m below meth c C hr hlk B0 hnm
  have C : hp_C Γ p m c cX11_weak 8 s ([.ref a0, .int a1, .int a2, .int a3, .int a4] : List Value).toArray RX11 := C
  have hx := C.1.1
  have hb := C.1.2.1
  have hown := C.1.2.2.2.1
  have hts := C.1.2.2.2.2
  have B : hp_B Γ (cwr ra rb w_X11_weak_S) s α α s.heap [] := ⟨B0.1, B0.2.1, cw_rf g, rofw_rf⟩
  have kb0 : hp_K α b0 = 5 := g.2.2.1 a0 b0 k0 hN
  have lit0 : (0 : Int32).toInt = 0 := by decide
  have lit1 : (1 : Int32).toInt = 1 := by decide
  have lit5 : (5 : Int32).toInt = 5 := by decide
  have hl := lv_entry ([.ref a0, .int a1, .int a2, .int a3, .int a4]) (n := 8) (Nat.le_of_ble_eq_true rfl)
  show W p l e (hp_rm 72 0 0) s m ([.ref a0, .int a1, .int a2, .int a3, .int a4] : List Value).toArray below meth c s.heap [] 0 0 (MQ below (hp_Qi Γ (fun r β => cwr ra rb w_X11_weak_S α β)) ([.ref a0, .int a1, .int a2, .int a3, .int a4] : List Value).toArray s 0 0 (hp_A Γ)) (entryFrame m ([.ref a0, .int a1, .int a2, .int a3, .int a4] : List Value).toArray 8)
  rw [lg_entry_eq]
  generalize (lg_sl ([.ref a0, .int a1, .int a2, .int a3, .int a4]) ++ List.replicate (8 - (lg_sl ([.ref a0, .int a1, .int a2, .int a3, .int a4])).length) Slot.unset).toArray = ls at hl ⊢
  have hl : lv_has ls 8 [(0, .ref a0), (1, .int a1), (2, .int a2), (3, .int a3), (4, .int a4)] := hl
  refine lv_iload hx hb dX11_weak_0 (lv_at hl 4 rfl) (hp_n (n := 2) rfl ?_)
  have J11 : ∀ (Hh_1 : Heap) (Lh_1 : List Loc) (Bh_1 : hp_B Γ (cwr ra rb w_X11_weak_S) s α α Hh_1 Lh_1) (ls : Array Slot) (hl : lv_has ls 8 [(0, .ref a0)]), W p l e (hp_rm 72 0 0) s m ([.ref a0, .int a1, .int a2, .int a3, .int a4] : List Value).toArray below meth c Hh_1 Lh_1 0 0 (MQ below (hp_Qi Γ (fun r β => cwr ra rb w_X11_weak_S α β)) ([.ref a0, .int a1, .int a2, .int a3, .int a4] : List Value).toArray s 0 0 (hp_A Γ)) (F0 m 11 ls []) := by
    intro Hh_1 Lh_1 Bh_1 ls hl
    refine lv_aload_n hx hb dX11_weak_11 rfl (lv_at hl 0 rfl) (hp_n (n := 12) rfl ?_)
    refine lv_iconst (v := 1) hx hb dX11_weak_12 (by decide) (hp_n (n := 13) rfl ?_)
    refine q_ci (pc' := 16) Bh_1 (hp_runV (As := [.int 1]) (rest := []) C Bh_1 (t_X11_refuse Γ l α Bh_1.2.2.1.1 a0 (cw_k Bh_1.2.2.1 k0) 1) lb_X11_refuse lv_X11_refuse lk_X11_98 (cw_k Bh_1.2.2.1 k0) rfl (by decide) rfl hl.1 rfl (Nat.le_of_ble_eq_true rfl) dX11_weak_13 ⟨Nat.le_refl _, Nat.le_refl _⟩) (fun _ _ h => ⟨cw_tr Bh_1.2.2.1 h (by decide), rofw_tr Bh_1.2.2.2 (rofw_cw h (by decide))⟩) rfl (fun rh_2 αh_2 Hh_2 Lh_2 ph_2 Bh_2 => ?_)
    exact q_iret C Bh_2 hr hlk Bh_2.2.2 dX11_weak_16
  refine lv_if_lt (tgt := 11) hx hb dX11_weak_2 (by decide) (fun c_3 => ?_) (fun c_3 => hp_n (n := 5) rfl ?_)
  ·
    have jc_3 := il_lt c_3
    exact J11 s.heap [] B ls (lv_sub hl [0] rfl)
  ·
    have jc_3 := il_nlt c_3
    refine lv_iload hx hb dX11_weak_5 (lv_at hl 4 rfl) (hp_n (n := 7) rfl ?_)
    refine lv_iconst (v := 1) hx hb dX11_weak_7 (by decide) (hp_n (n := 8) rfl ?_)
    refine lv_icmp_le (tgt := 17) hx hb dX11_weak_8 (by decide) (fun c_4 => ?_) (fun c_4 => hp_n (n := 11) rfl ?_)
    ·
      have jc_4 := il_le c_4
      refine lv_aload_n hx hb dX11_weak_17 rfl (lv_at hl 0 rfl) (hp_n (n := 18) rfl ?_)
      refine q_getr (κ := 12) (k := 1) (φ := 601) (pc' := 21) C B (cw_k B.2.2.1 k0) fl_X11_16 rfl rfl rfl (cw_r B.2.2.1 k0 rfl rfl (by decide) (by decide)) dX11_weak_18 rfl (fun b_5 eb_5 kb_5 => ?_)
      refine lv_iload_n hx hb dX11_weak_21 rfl (lv_at hl 1 rfl) (hp_n (n := 22) rfl ?_)
      refine q_cq (pc' := 25) B (hp_runV (As := [.int a1]) (rest := []) C B (t_X10_logAt Γ l α B.2.2.1.1 b_5 (cw_k B.2.2.1 kb_5) a1) lb_X10_logAt lv_X10_logAt lk_X11_163 (cw_k B.2.2.1 kb_5) rfl (by decide) rfl hl.1 rfl (Nat.le_of_ble_eq_true rfl) dX11_weak_22 ⟨Nat.le_refl _, Nat.le_refl _⟩) (fun _ _ h => by rw [h.1]; exact B.2.2) rfl (fun rh_6 αh_6 Hh_6 Lh_6 ph_6 Bh_6 => ?_)
      rw [ph_6.1] at Bh_6
      rcases rh_6 with _ | bh_6
      ·
        refine lv_astoreN (lv' := [(5, .null), (0, .ref a0), (1, .int a1), (2, .int a2), (3, .int a3), (4, .int a4)]) hx hb dX11_weak_25 hl (by decide) rfl (fun ls hl => hp_n (n := 27) rfl ?_)
        refine lv_aloadN hx hb dX11_weak_27 (lv_at hl 0 rfl) (hp_n (n := 29) rfl ?_)
        refine lv_iload_n hx hb dX11_weak_29 rfl (lv_at hl 3 rfl) (hp_n (n := 30) rfl ?_)
        refine lv_iload_n hx hb dX11_weak_30 rfl (lv_at hl 4 rfl) (hp_n (n := 31) rfl ?_)
        refine q_ci (pc' := 34) Bh_6 (hp_runS (As := [va_rf none, .int a2, .int a3]) (rest := []) C Bh_6 (t_X11_wrongInclusion Γ l α Bh_6.2.2.1.1 none (fun b h => by cases h) a2 a3) lb_X11_wrongInclusion ls_X11_wrongInclusion lk_X11_264 rfl (by decide) rfl hl.1 rfl (Nat.le_of_ble_eq_true rfl) dX11_weak_31 ⟨Nat.le_refl _, Nat.le_refl _⟩) (fun _ _ h => by rw [h]; exact Bh_6.2.2) rfl (fun rh_7 αh_7 Hh_7 Lh_7 ph_7 Bh_7 => ?_)
        rw [ph_7] at Bh_7
        refine lv_istore (lv' := [(6, .int rh_7), (5, .null), (0, .ref a0), (1, .int a1), (2, .int a2), (3, .int a3), (4, .int a4)]) hx hb dX11_weak_34 hl (by decide) rfl (fun ls hl => hp_n (n := 36) rfl ?_)
        refine lv_iload hx hb dX11_weak_36 (lv_at hl 0 rfl) (hp_n (n := 38) rfl ?_)
        have J46 : ∀ (Hh_8 : Heap) (Lh_8 : List Loc) (Bh_8 : hp_B Γ (cwr ra rb w_X11_weak_S) s α α Hh_8 Lh_8) (ls : Array Slot) (hl : lv_has ls 8 [(0, .ref a0), (6, .int rh_7)]), W p l e (hp_rm 72 0 0) s m ([.ref a0, .int a1, .int a2, .int a3, .int a4] : List Value).toArray below meth c Hh_8 Lh_8 0 0 (MQ below (hp_Qi Γ (fun r β => cwr ra rb w_X11_weak_S α β)) ([.ref a0, .int a1, .int a2, .int a3, .int a4] : List Value).toArray s 0 0 (hp_A Γ)) (F0 m 46 ls []) := by
          intro Hh_8 Lh_8 Bh_8 ls hl
          refine lv_aload_n hx hb dX11_weak_46 rfl (lv_at hl 0 rfl) (hp_n (n := 47) rfl ?_)
          refine lv_iload hx hb dX11_weak_47 (lv_at hl 1 rfl) (hp_n (n := 49) rfl ?_)
          refine q_ci (pc' := 52) Bh_8 (hp_runV (As := [.int rh_7]) (rest := []) C Bh_8 (t_X11_refuse Γ l α Bh_8.2.2.1.1 a0 (cw_k Bh_8.2.2.1 k0) rh_7) lb_X11_refuse lv_X11_refuse lk_X11_98 (cw_k Bh_8.2.2.1 k0) rfl (by decide) rfl hl.1 rfl (Nat.le_of_ble_eq_true rfl) dX11_weak_49 ⟨Nat.le_refl _, Nat.le_refl _⟩) (fun _ _ h => ⟨cw_tr Bh_8.2.2.1 h (by decide), rofw_tr Bh_8.2.2.2 (rofw_cw h (by decide))⟩) rfl (fun rh_9 αh_9 Hh_9 Lh_9 ph_9 Bh_9 => ?_)
          exact q_iret C Bh_9 hr hlk Bh_9.2.2 dX11_weak_52
        refine lv_if_ne (tgt := 46) hx hb dX11_weak_38 (by decide) (fun c_10 => ?_) (fun c_10 => hp_n (n := 41) rfl ?_)
        ·
          have jc_10 := il_ne c_10
          exact J46 Hh_7 Lh_7 Bh_7 ls (lv_sub hl [2, 0] rfl)
        ·
          have jc_10 := il_eq c_10
          refine lv_aloadN hx hb dX11_weak_41 (lv_at hl 1 rfl) (hp_n (n := 43) rfl ?_)
          refine lv_ifnonnullN hx hb dX11_weak_43 (hp_n (n := 46) rfl ?_)
          exact J46 Hh_7 Lh_7 Bh_7 ls (lv_sub hl [2, 0] rfl)
      ·
        have kbh_6 : hp_K α bh_6 = 3 := cw_k' Bh_6.2.2.1 (ph_6.2 bh_6 rfl)
        refine lv_astore (lv' := [(5, .ref bh_6), (0, .ref a0), (1, .int a1), (2, .int a2), (3, .int a3), (4, .int a4)]) hx hb dX11_weak_25 hl (by decide) rfl (fun ls hl => hp_n (n := 27) rfl ?_)
        refine lv_aload hx hb dX11_weak_27 (lv_at hl 0 rfl) (hp_n (n := 29) rfl ?_)
        refine lv_iload_n hx hb dX11_weak_29 rfl (lv_at hl 3 rfl) (hp_n (n := 30) rfl ?_)
        refine lv_iload_n hx hb dX11_weak_30 rfl (lv_at hl 4 rfl) (hp_n (n := 31) rfl ?_)
        refine q_ci (pc' := 34) Bh_6 (hp_runS (As := [va_rf (some bh_6), .int a2, .int a3]) (rest := []) C Bh_6 (t_X11_wrongInclusion Γ l α Bh_6.2.2.1.1 (some bh_6) (fun b h => by cases h; exact (cw_k Bh_6.2.2.1 kbh_6)) a2 a3) lb_X11_wrongInclusion ls_X11_wrongInclusion lk_X11_264 rfl (by decide) rfl hl.1 rfl (Nat.le_of_ble_eq_true rfl) dX11_weak_31 ⟨Nat.le_refl _, Nat.le_refl _⟩) (fun _ _ h => by rw [h]; exact Bh_6.2.2) rfl (fun rh_11 αh_11 Hh_11 Lh_11 ph_11 Bh_11 => ?_)
        rw [ph_11] at Bh_11
        refine lv_istore (lv' := [(6, .int rh_11), (5, .ref bh_6), (0, .ref a0), (1, .int a1), (2, .int a2), (3, .int a3), (4, .int a4)]) hx hb dX11_weak_34 hl (by decide) rfl (fun ls hl => hp_n (n := 36) rfl ?_)
        refine lv_iload hx hb dX11_weak_36 (lv_at hl 0 rfl) (hp_n (n := 38) rfl ?_)
        have J46 : ∀ (Hh_12 : Heap) (Lh_12 : List Loc) (Bh_12 : hp_B Γ (cwr ra rb w_X11_weak_S) s α α Hh_12 Lh_12) (ls : Array Slot) (hl : lv_has ls 8 [(0, .ref a0), (6, .int rh_11)]), W p l e (hp_rm 72 0 0) s m ([.ref a0, .int a1, .int a2, .int a3, .int a4] : List Value).toArray below meth c Hh_12 Lh_12 0 0 (MQ below (hp_Qi Γ (fun r β => cwr ra rb w_X11_weak_S α β)) ([.ref a0, .int a1, .int a2, .int a3, .int a4] : List Value).toArray s 0 0 (hp_A Γ)) (F0 m 46 ls []) := by
          intro Hh_12 Lh_12 Bh_12 ls hl
          refine lv_aload_n hx hb dX11_weak_46 rfl (lv_at hl 0 rfl) (hp_n (n := 47) rfl ?_)
          refine lv_iload hx hb dX11_weak_47 (lv_at hl 1 rfl) (hp_n (n := 49) rfl ?_)
          refine q_ci (pc' := 52) Bh_12 (hp_runV (As := [.int rh_11]) (rest := []) C Bh_12 (t_X11_refuse Γ l α Bh_12.2.2.1.1 a0 (cw_k Bh_12.2.2.1 k0) rh_11) lb_X11_refuse lv_X11_refuse lk_X11_98 (cw_k Bh_12.2.2.1 k0) rfl (by decide) rfl hl.1 rfl (Nat.le_of_ble_eq_true rfl) dX11_weak_49 ⟨Nat.le_refl _, Nat.le_refl _⟩) (fun _ _ h => ⟨cw_tr Bh_12.2.2.1 h (by decide), rofw_tr Bh_12.2.2.2 (rofw_cw h (by decide))⟩) rfl (fun rh_13 αh_13 Hh_13 Lh_13 ph_13 Bh_13 => ?_)
          exact q_iret C Bh_13 hr hlk Bh_13.2.2 dX11_weak_52
        refine lv_if_ne (tgt := 46) hx hb dX11_weak_38 (by decide) (fun c_14 => ?_) (fun c_14 => hp_n (n := 41) rfl ?_)
        ·
          have jc_14 := il_ne c_14
          exact J46 Hh_11 Lh_11 Bh_11 ls (lv_sub hl [2, 0] rfl)
        ·
          have jc_14 := il_eq c_14
          refine lv_aload hx hb dX11_weak_41 (lv_at hl 1 rfl) (hp_n (n := 43) rfl ?_)
          refine lv_ifnonnull (tgt := 53) hx hb dX11_weak_43 (by decide) ?_
          refine lv_aload_n hx hb dX11_weak_53 rfl (lv_at hl 2 rfl) (hp_n (n := 54) rfl ?_)
          refine q_getr (κ := 12) (k := 12) (φ := 612) (pc' := 57) C Bh_11 (cw_k Bh_11.2.2.1 k0) fl_X11_62 rfl rfl rfl (cw_r Bh_11.2.2.1 k0 rfl rfl (by decide) (by decide)) dX11_weak_54 rfl (fun b_15 eb_15 kb_15 => ?_)
          refine lv_iload_n hx hb dX11_weak_57 rfl (lv_at hl 4 rfl) (hp_n (n := 58) rfl ?_)
          refine lv_iload_n hx hb dX11_weak_58 rfl (lv_at hl 5 rfl) (hp_n (n := 59) rfl ?_)
          refine q_cv (pc' := 62) Bh_11 (hp_runV (As := [.int a2, .int a3]) (rest := []) C Bh_11 (t_X8_toThing Γ l α Bh_11.2.2.1.1 b_15 (cw_k Bh_11.2.2.1 kb_15) a2 a3) lb_X8_toThing lv_X8_toThing lk_X11_267 (cw_k Bh_11.2.2.1 kb_15) rfl (by decide) rfl hl.1 rfl (Nat.le_of_ble_eq_true rfl) dX11_weak_59 ⟨Nat.le_refl _, Nat.le_refl _⟩) (fun _ h => ⟨cw_tr Bh_11.2.2.1 h (by decide), rofw_tr Bh_11.2.2.2 (rofw_cw h (by decide))⟩) rfl (fun αh_16 Hh_16 Lh_16 ph_16 Bh_16 => ?_)
          refine lv_aload_n hx hb dX11_weak_62 rfl (lv_at hl 2 rfl) (hp_n (n := 63) rfl ?_)
          have t_17 : b_5 = hp_R αh_16 601 a0 := by rw [cw_R ph_16 a0 (by decide)]; exact eb_5
          refine q_gets (κ := 12) (k := 1) (φ := 601) (pc' := 66) C Bh_16 (cw_k Bh_16.2.2.1 k0) fl_X11_16 rfl rfl rfl t_17 dX11_weak_63 rfl ?_
          refine lv_aload_n hx hb dX11_weak_66 rfl (lv_at hl 2 rfl) (hp_n (n := 67) rfl ?_)
          have t_18 : b_15 = hp_R αh_16 612 a0 := by rw [cw_R ph_16 a0 (by decide)]; exact eb_15
          refine q_gets (κ := 12) (k := 12) (φ := 612) (pc' := 70) C Bh_16 (cw_k Bh_16.2.2.1 k0) fl_X11_62 rfl rfl rfl t_18 dX11_weak_67 rfl ?_
          refine lv_aload hx hb dX11_weak_70 (lv_at hl 1 rfl) (hp_n (n := 72) rfl ?_)
          refine lv_aload_n hx hb dX11_weak_72 rfl (lv_at hl 2 rfl) (hp_n (n := 73) rfl ?_)
          refine q_getr (κ := 12) (k := 14) (φ := 614) (pc' := 76) C Bh_16 (cw_k Bh_16.2.2.1 k0) fl_X11_69 rfl rfl rfl (cw_r Bh_16.2.2.1 k0 rfl rfl (by decide) (by decide)) dX11_weak_73 rfl (fun b_19 eb_19 kb_19 => ?_)
          refine q_cv (pc' := 79) Bh_16 (hp_runV (As := [.ref b_15, va_rf (some bh_6), .ref b_19]) (rest := []) C Bh_16 (t_X10_marksAlong_R (ra := ra) (rb := rb) Γ l αh_16 Bh_16.2.2.1.1 b_5 (cw_k Bh_16.2.2.1 kb_5) b_15 (cw_k Bh_16.2.2.1 kb_15) (some bh_6) (fun b h => by cases h; exact (cw_k Bh_16.2.2.1 kbh_6)) b_19 (cw_k Bh_16.2.2.1 kb_19) (by rw [eb_19, cw_R Bh_16.2.2.1 a0 (by decide)]; exact oA) (by rw [cw_R Bh_16.2.2.1 _ (by decide), eb_19, cw_R Bh_16.2.2.1 a0 (by decide)]; exact oB)) lb_X10_marksAlong lv_X10_marksAlong lk_X11_270 (cw_k Bh_16.2.2.1 kb_5) rfl (by decide) rfl hl.1 rfl (Nat.le_of_ble_eq_true rfl) dX11_weak_76 ⟨Nat.le_refl _, Nat.le_refl _⟩) (fun _ h => ⟨cw_tr Bh_16.2.2.1 h.1 (by decide), rofw_tr Bh_16.2.2.2 h.2⟩) rfl (fun αh_20 Hh_20 Lh_20 ph_20 Bh_20 => ?_)
          refine lv_aload_n hx hb dX11_weak_79 rfl (lv_at hl 2 rfl) (hp_n (n := 80) rfl ?_)
          refine q_cq (pc' := 83) Bh_20 (hp_runV (As := []) (rest := []) C Bh_20 (t_X11_preparedRoots_S Γ l αh_20 Bh_20.2.2.1.1 a0 (cw_k Bh_20.2.2.1 k0) b0 (by rw [Bh_20.2.2.1.2.2.1, hN])) lb_X11_preparedRoots lv_X11_preparedRoots lk_X11_363 (cw_k Bh_20.2.2.1 k0) rfl (by decide) rfl hl.1 rfl (Nat.le_of_ble_eq_true rfl) dX11_weak_80 ⟨Nat.le_refl _, Nat.le_refl _⟩) (fun _ _ h => ⟨cw_tr Bh_20.2.2.1 h.1 (by decide), rofw_tr Bh_20.2.2.2 (rofw_cw h.1 (by decide))⟩) rfl (fun rh_21 αh_21 Hh_21 Lh_21 ph_21 Bh_21 => ?_)
          have prh_21 := ph_21.2
          subst prh_21
          refine lv_astore (lv' := [(7, .ref b0), (6, .int rh_11), (5, .ref bh_6), (0, .ref a0), (1, .int a1), (2, .int a2), (3, .int a3), (4, .int a4)]) hx hb dX11_weak_83 hl (by decide) rfl (fun ls hl => hp_n (n := 85) rfl ?_)
          refine lv_aload hx hb dX11_weak_85 (lv_at hl 0 rfl) (hp_n (n := 87) rfl ?_)
          refine lv_aload_n hx hb dX11_weak_87 rfl (lv_at hl 3 rfl) (hp_n (n := 88) rfl ?_)
          have t_22 : b_15 = hp_R αh_20 612 a0 := by rw [cw_R ph_20.1 a0 (by decide)]; exact t_18
          have t_23 : b_15 = hp_R αh_21 612 a0 := by rw [cw_R ph_21.1 a0 (by decide)]; exact t_22
          refine q_gets (κ := 12) (k := 12) (φ := 612) (pc' := 91) C Bh_21 (cw_k Bh_21.2.2.1 k0) fl_X11_62 rfl rfl rfl t_23 dX11_weak_88 rfl ?_
          refine lv_aload_n hx hb dX11_weak_91 rfl (lv_at hl 3 rfl) (hp_n (n := 92) rfl ?_)
          have t_24 : b_19 = hp_R αh_20 614 a0 := by rw [cw_R ph_20.1 a0 (by decide)]; exact eb_19
          have t_25 : b_19 = hp_R αh_21 614 a0 := by rw [cw_R ph_21.1 a0 (by decide)]; exact t_24
          refine q_gets (κ := 12) (k := 14) (φ := 614) (pc' := 95) C Bh_21 (cw_k Bh_21.2.2.1 k0) fl_X11_69 rfl rfl rfl t_25 dX11_weak_92 rfl ?_
          refine lv_aload hx hb dX11_weak_95 (lv_at hl 2 rfl) (hp_n (n := 97) rfl ?_)
          refine lv_iload_n hx hb dX11_weak_97 rfl (lv_at hl 5 rfl) (hp_n (n := 98) rfl ?_)
          refine q_ci (pc' := 101) Bh_21 (hp_runV (As := [.int a2]) (rest := [.ref b_19, .ref b_15, .ref b0]) C Bh_21 (t_X2_markAt Γ l αh_21 Bh_21.2.2.1.1 bh_6 (cw_k Bh_21.2.2.1 kbh_6) a2) lb_X2_markAt lv_X2_markAt lk_X11_174 (cw_k Bh_21.2.2.1 kbh_6) rfl (by decide) rfl hl.1 rfl (Nat.le_of_ble_eq_true rfl) dX11_weak_98 ⟨Nat.le_refl _, Nat.le_refl _⟩) (fun _ _ h => by rw [h]; exact Bh_21.2.2) rfl (fun rh_26 αh_26 Hh_26 Lh_26 ph_26 Bh_26 => ?_)
          rw [ph_26] at Bh_26
          refine lv_aload_n hx hb dX11_weak_101 rfl (lv_at hl 3 rfl) (hp_n (n := 102) rfl ?_)
          have t_27 : b_5 = hp_R αh_20 601 a0 := by rw [cw_R ph_20.1 a0 (by decide)]; exact t_17
          have t_28 : b_5 = hp_R αh_21 601 a0 := by rw [cw_R ph_21.1 a0 (by decide)]; exact t_27
          refine q_gets (κ := 12) (k := 1) (φ := 601) (pc' := 105) C Bh_26 (cw_k Bh_26.2.2.1 k0) fl_X11_16 rfl rfl rfl t_28 dX11_weak_102 rfl ?_
          refine lv_aload hx hb dX11_weak_105 (lv_at hl 2 rfl) (hp_n (n := 107) rfl ?_)
          refine lv_iload_n hx hb dX11_weak_107 rfl (lv_at hl 6 rfl) (hp_n (n := 108) rfl ?_)
          refine q_ci (pc' := 111) Bh_26 (hp_runV (As := [va_rf (some bh_6), .int a3]) (rest := [.int rh_26, .ref b_19, .ref b_15, .ref b0]) C Bh_26 (t_X10_headOf Γ l αh_21 Bh_26.2.2.1.1 b_5 (cw_k Bh_26.2.2.1 kb_5) (some bh_6) (fun b h => by cases h; exact (cw_k Bh_26.2.2.1 kbh_6)) a3) lb_X10_headOf lv_X10_headOf lk_X11_184 (cw_k Bh_26.2.2.1 kb_5) rfl (by decide) rfl hl.1 rfl (Nat.le_of_ble_eq_true rfl) dX11_weak_108 ⟨Nat.le_refl _, Nat.le_refl _⟩) (fun _ _ h => ⟨cw_tr Bh_26.2.2.1 h (by decide), rofw_tr Bh_26.2.2.2 (rofw_cw h (by decide))⟩) rfl (fun rh_29 αh_29 Hh_29 Lh_29 ph_29 Bh_29 => ?_)
          refine q_cv (pc' := 114) Bh_29 (hp_runV (As := [.ref b_15, .ref b_19, .int rh_26, .int rh_29]) (rest := []) C Bh_29 (t_X4_seekThing Γ l αh_29 Bh_29.2.2.1.1 b0 (cw_k Bh_29.2.2.1 kb0) b_15 (cw_k Bh_29.2.2.1 kb_15) b_19 (cw_k Bh_29.2.2.1 kb_19) rh_26 rh_29) lb_X4_seekThing lv_X4_seekThing lk_X11_367 (cw_k Bh_29.2.2.1 kb0) rfl (by decide) rfl hl.1 rfl (Nat.le_of_ble_eq_true rfl) dX11_weak_111 ⟨Nat.le_refl _, Nat.le_refl _⟩) (fun _ h => ⟨cw_tr Bh_29.2.2.1 h (by decide), rofw_tr Bh_29.2.2.2 (rofw_cw h (by decide))⟩) rfl (fun αh_30 Hh_30 Lh_30 ph_30 Bh_30 => ?_)
          refine lv_iload hx hb dX11_weak_114 (lv_at hl 7 rfl) (hp_n (n := 116) rfl ?_)
          refine lv_if_ne (tgt := 129) hx hb dX11_weak_116 (by decide) (fun c_31 => ?_) (fun c_31 => hp_n (n := 119) rfl ?_)
          ·
            have jc_31 := il_ne c_31
            refine lv_aload hx hb dX11_weak_129 (lv_at hl 0 rfl) (hp_n (n := 131) rfl ?_)
            refine q_geti (κ := 5) (k := 9) (φ := 259) (pc' := 134) C Bh_30 (cw_k Bh_30.2.2.1 kb0) fl_X11_373 rfl rfl rfl dX11_weak_131 rfl (fun x_32 ex_32 => ?_)
            refine lv_if_ne (tgt := 145) hx hb dX11_weak_134 (by decide) (fun c_33 => ?_) (fun c_33 => hp_n (n := 137) rfl ?_)
            ·
              have jc_33 := il_ne c_33
              refine lv_aload_n hx hb dX11_weak_145 rfl (lv_at hl 3 rfl) (hp_n (n := 146) rfl ?_)
              refine lv_aload hx hb dX11_weak_146 (lv_at hl 0 rfl) (hp_n (n := 148) rfl ?_)
              refine q_geti (κ := 5) (k := 10) (φ := 260) (pc' := 151) C Bh_30 (cw_k Bh_30.2.2.1 kb0) fl_X11_376 rfl rfl rfl dX11_weak_148 rfl (fun x_34 ex_34 => ?_)
              refine q_ci (pc' := 154) Bh_30 (hp_runV (As := [.int x_34]) (rest := []) C Bh_30 (t_X11_answer Γ l αh_30 Bh_30.2.2.1.1 a0 (cw_k Bh_30.2.2.1 k0) x_34) lb_X11_answer lv_X11_answer lk_X11_115 (cw_k Bh_30.2.2.1 k0) rfl (by decide) rfl hl.1 rfl (Nat.le_of_ble_eq_true rfl) dX11_weak_151 ⟨Nat.le_refl _, Nat.le_refl _⟩) (fun _ _ h => ⟨cw_tr Bh_30.2.2.1 h (by decide), rofw_tr Bh_30.2.2.2 (rofw_cw h (by decide))⟩) rfl (fun rh_35 αh_35 Hh_35 Lh_35 ph_35 Bh_35 => ?_)
              exact q_iret C Bh_35 hr hlk Bh_35.2.2 dX11_weak_154
            ·
              have jc_33 := il_eq c_33
              refine lv_aload_n hx hb dX11_weak_137 rfl (lv_at hl 3 rfl) (hp_n (n := 138) rfl ?_)
              refine lv_iconst (v := 5) hx hb dX11_weak_138 (by decide) (hp_n (n := 139) rfl ?_)
              refine q_ci (pc' := 142) Bh_30 (hp_runV (As := [.int 5]) (rest := []) C Bh_30 (t_X11_refuse Γ l αh_30 Bh_30.2.2.1.1 a0 (cw_k Bh_30.2.2.1 k0) 5) lb_X11_refuse lv_X11_refuse lk_X11_98 (cw_k Bh_30.2.2.1 k0) rfl (by decide) rfl hl.1 rfl (Nat.le_of_ble_eq_true rfl) dX11_weak_139 ⟨Nat.le_refl _, Nat.le_refl _⟩) (fun _ _ h => ⟨cw_tr Bh_30.2.2.1 h (by decide), rofw_tr Bh_30.2.2.2 (rofw_cw h (by decide))⟩) rfl (fun rh_36 αh_36 Hh_36 Lh_36 ph_36 Bh_36 => ?_)
              refine lv_goto (tgt := 154) hx hb dX11_weak_142 (by decide) ?_
              exact q_iret C Bh_36 hr hlk Bh_36.2.2 dX11_weak_154
          ·
            have jc_31 := il_eq c_31
            refine lv_aload_n hx hb dX11_weak_119 rfl (lv_at hl 3 rfl) (hp_n (n := 120) rfl ?_)
            refine lv_aload hx hb dX11_weak_120 (lv_at hl 0 rfl) (hp_n (n := 122) rfl ?_)
            refine q_geti (κ := 5) (k := 9) (φ := 259) (pc' := 125) C Bh_30 (cw_k Bh_30.2.2.1 kb0) fl_X11_373 rfl rfl rfl dX11_weak_122 rfl (fun x_37 ex_37 => ?_)
            refine q_ci (pc' := 128) Bh_30 (hp_runV (As := [.int x_37]) (rest := []) C Bh_30 (t_X11_answer Γ l αh_30 Bh_30.2.2.1.1 a0 (cw_k Bh_30.2.2.1 k0) x_37) lb_X11_answer lv_X11_answer lk_X11_115 (cw_k Bh_30.2.2.1 k0) rfl (by decide) rfl hl.1 rfl (Nat.le_of_ble_eq_true rfl) dX11_weak_125 ⟨Nat.le_refl _, Nat.le_refl _⟩) (fun _ _ h => ⟨cw_tr Bh_30.2.2.1 h (by decide), rofw_tr Bh_30.2.2.2 (rofw_cw h (by decide))⟩) rfl (fun rh_38 αh_38 Hh_38 Lh_38 ph_38 Bh_38 => ?_)
            exact q_iret C Bh_38 hr hlk Bh_38.2.2 dX11_weak_128
    ·
      have jc_4 := il_nle c_4
      exact J11 s.heap [] B ls (lv_sub hl [0] rfl)
set_option maxRecDepth 100000 in
set_option maxHeartbeats 4000000 in
theorem u_X11_weak_R {ra rb : List Nat} (Γ : hp_G) (l : Launch) (α : hp_T) (g : GC α) (a0 : Nat) (k0 : hp_K α a0 = 12) (a2 : Int32) (a3 : Int32) (a4 : Int32) (a5 : Nat) (k5 : hp_K α a5 = 3) (b0 : Nat) (kb0 : hp_K α b0 = 5) {p : Program} {e : Env} {s : State} {m : MethodId} {below : List Frame} {meth : Method} {c : Code} {args0 : Array Value} (C : hp_C Γ p m c cX11_weak 8 s args0 RX11) (hr : meth.sig.returnType = (some .int)) (hlk : meth.locks = false) (H0 : Heap) (L0 : List Loc) (B : hp_B Γ (cwr ra rb w_X11_weak_S) s α α H0 L0) (Pst : Int32 → hp_T → Prop) (Bq : hp_T → State → Prop) (hP : ∀ r β, cwr ra rb w_X11_weak_S α β → Pst r β) (hq : ∀ β (t : State), cwr ra rb w_X11_weak_S α β → hp_Rep Γ β t.heap → Bq β t) (ls : Array Slot) (hl : lv_has ls 8 [(0, .ref a0), (2, .int a2), (3, .int a3), (4, .int a4), (5, .ref a5)]) : W p l e (hp_rm 72 9 131316) s m args0 below meth c H0 L0 9 131316 (MQ below (va_Qi Pst Bq (hp_A Γ)) args0 s 9 131316 (hp_A Γ)) (F0 m 83 ls [.ref b0]) := by
  have hx := C.1.1
  have hb := C.1.2.1
  have hown := C.1.2.2.2.1
  have hts := C.1.2.2.2.2
  have lit0 : (0 : Int32).toInt = 0 := by decide
  have lit5 : (5 : Int32).toInt = 5 := by decide
  refine lv_astore (lv' := [(7, .ref b0), (0, .ref a0), (2, .int a2), (3, .int a3), (4, .int a4), (5, .ref a5)]) hx hb dX11_weak_83 hl (by decide) rfl (fun ls hl => hp_n (n := 85) rfl ?_)
  refine lv_aload hx hb dX11_weak_85 (lv_at hl 0 rfl) (hp_n (n := 87) rfl ?_)
  refine lv_aload_n hx hb dX11_weak_87 rfl (lv_at hl 1 rfl) (hp_n (n := 88) rfl ?_)
  refine q_getr (κ := 12) (k := 12) (φ := 612) (pc' := 91) C B (cw_k B.2.2.1 k0) fl_X11_62 rfl rfl rfl (cw_r B.2.2.1 k0 rfl rfl (by decide) (by decide)) dX11_weak_88 rfl (fun b_1 eb_1 kb_1 => ?_)
  refine lv_aload_n hx hb dX11_weak_91 rfl (lv_at hl 1 rfl) (hp_n (n := 92) rfl ?_)
  refine q_getr (κ := 12) (k := 14) (φ := 614) (pc' := 95) C B (cw_k B.2.2.1 k0) fl_X11_69 rfl rfl rfl (cw_r B.2.2.1 k0 rfl rfl (by decide) (by decide)) dX11_weak_92 rfl (fun b_2 eb_2 kb_2 => ?_)
  refine lv_aload hx hb dX11_weak_95 (lv_at hl 5 rfl) (hp_n (n := 97) rfl ?_)
  refine lv_iload_n hx hb dX11_weak_97 rfl (lv_at hl 2 rfl) (hp_n (n := 98) rfl ?_)
  refine q_ci (pc' := 101) B (hp_runV (As := [.int a2]) (rest := [.ref b_2, .ref b_1, .ref b0]) C B (t_X2_markAt Γ l α B.2.2.1.1 a5 (cw_k B.2.2.1 k5) a2) lb_X2_markAt lv_X2_markAt lk_X11_174 (cw_k B.2.2.1 k5) rfl (by decide) rfl hl.1 rfl (Nat.le_of_ble_eq_true rfl) dX11_weak_98 ⟨Nat.le_refl _, Nat.le_refl _⟩) (fun _ _ h => by rw [h]; exact B.2.2) rfl (fun rh_3 αh_3 Hh_3 Lh_3 ph_3 Bh_3 => ?_)
  rw [ph_3] at Bh_3
  refine lv_aload_n hx hb dX11_weak_101 rfl (lv_at hl 1 rfl) (hp_n (n := 102) rfl ?_)
  refine q_getr (κ := 12) (k := 1) (φ := 601) (pc' := 105) C Bh_3 (cw_k Bh_3.2.2.1 k0) fl_X11_16 rfl rfl rfl (cw_r Bh_3.2.2.1 k0 rfl rfl (by decide) (by decide)) dX11_weak_102 rfl (fun b_4 eb_4 kb_4 => ?_)
  refine lv_aload hx hb dX11_weak_105 (lv_at hl 5 rfl) (hp_n (n := 107) rfl ?_)
  refine lv_iload_n hx hb dX11_weak_107 rfl (lv_at hl 3 rfl) (hp_n (n := 108) rfl ?_)
  refine q_ci (pc' := 111) Bh_3 (hp_runV (As := [va_rf (some a5), .int a3]) (rest := [.int rh_3, .ref b_2, .ref b_1, .ref b0]) C Bh_3 (t_X10_headOf Γ l α Bh_3.2.2.1.1 b_4 (cw_k Bh_3.2.2.1 kb_4) (some a5) (fun b h => by cases h; exact (cw_k Bh_3.2.2.1 k5)) a3) lb_X10_headOf lv_X10_headOf lk_X11_184 (cw_k Bh_3.2.2.1 kb_4) rfl (by decide) rfl hl.1 rfl (Nat.le_of_ble_eq_true rfl) dX11_weak_108 ⟨Nat.le_refl _, Nat.le_refl _⟩) (fun _ _ h => ⟨cw_tr Bh_3.2.2.1 h (by decide), rofw_tr Bh_3.2.2.2 (rofw_cw h (by decide))⟩) rfl (fun rh_5 αh_5 Hh_5 Lh_5 ph_5 Bh_5 => ?_)
  refine q_cv (pc' := 114) Bh_5 (hp_runV (As := [.ref b_1, .ref b_2, .int rh_3, .int rh_5]) (rest := []) C Bh_5 (t_X4_seekThing Γ l αh_5 Bh_5.2.2.1.1 b0 (cw_k Bh_5.2.2.1 kb0) b_1 (cw_k Bh_5.2.2.1 kb_1) b_2 (cw_k Bh_5.2.2.1 kb_2) rh_3 rh_5) lb_X4_seekThing lv_X4_seekThing lk_X11_367 (cw_k Bh_5.2.2.1 kb0) rfl (by decide) rfl hl.1 rfl (Nat.le_of_ble_eq_true rfl) dX11_weak_111 ⟨Nat.le_refl _, Nat.le_refl _⟩) (fun _ h => ⟨cw_tr Bh_5.2.2.1 h (by decide), rofw_tr Bh_5.2.2.2 (rofw_cw h (by decide))⟩) rfl (fun αh_6 Hh_6 Lh_6 ph_6 Bh_6 => ?_)
  refine lv_iload hx hb dX11_weak_114 (lv_at hl 4 rfl) (hp_n (n := 116) rfl ?_)
  refine lv_if_ne (tgt := 129) hx hb dX11_weak_116 (by decide) (fun c_7 => ?_) (fun c_7 => hp_n (n := 119) rfl ?_)
  ·
    have jc_7 := il_ne c_7
    refine lv_aload hx hb dX11_weak_129 (lv_at hl 0 rfl) (hp_n (n := 131) rfl ?_)
    refine q_geti (κ := 5) (k := 9) (φ := 259) (pc' := 134) C Bh_6 (cw_k Bh_6.2.2.1 kb0) fl_X11_373 rfl rfl rfl dX11_weak_131 rfl (fun x_8 ex_8 => ?_)
    refine lv_if_ne (tgt := 145) hx hb dX11_weak_134 (by decide) (fun c_9 => ?_) (fun c_9 => hp_n (n := 137) rfl ?_)
    ·
      have jc_9 := il_ne c_9
      refine lv_aload_n hx hb dX11_weak_145 rfl (lv_at hl 1 rfl) (hp_n (n := 146) rfl ?_)
      refine lv_aload hx hb dX11_weak_146 (lv_at hl 0 rfl) (hp_n (n := 148) rfl ?_)
      refine q_geti (κ := 5) (k := 10) (φ := 260) (pc' := 151) C Bh_6 (cw_k Bh_6.2.2.1 kb0) fl_X11_376 rfl rfl rfl dX11_weak_148 rfl (fun x_10 ex_10 => ?_)
      refine q_ci (pc' := 154) Bh_6 (hp_runV (As := [.int x_10]) (rest := []) C Bh_6 (t_X11_answer Γ l αh_6 Bh_6.2.2.1.1 a0 (cw_k Bh_6.2.2.1 k0) x_10) lb_X11_answer lv_X11_answer lk_X11_115 (cw_k Bh_6.2.2.1 k0) rfl (by decide) rfl hl.1 rfl (Nat.le_of_ble_eq_true rfl) dX11_weak_151 ⟨Nat.le_refl _, Nat.le_refl _⟩) (fun _ _ h => ⟨cw_tr Bh_6.2.2.1 h (by decide), rofw_tr Bh_6.2.2.2 (rofw_cw h (by decide))⟩) rfl (fun rh_11 αh_11 Hh_11 Lh_11 ph_11 Bh_11 => ?_)
      exact q_iretQ C Bh_11 hr hlk (hP _ _ Bh_11.2.2) (fun t ht => hq _ t Bh_11.2.2 ht) dX11_weak_154
    ·
      have jc_9 := il_eq c_9
      refine lv_aload_n hx hb dX11_weak_137 rfl (lv_at hl 1 rfl) (hp_n (n := 138) rfl ?_)
      refine lv_iconst (v := 5) hx hb dX11_weak_138 (by decide) (hp_n (n := 139) rfl ?_)
      refine q_ci (pc' := 142) Bh_6 (hp_runV (As := [.int 5]) (rest := []) C Bh_6 (t_X11_refuse Γ l αh_6 Bh_6.2.2.1.1 a0 (cw_k Bh_6.2.2.1 k0) 5) lb_X11_refuse lv_X11_refuse lk_X11_98 (cw_k Bh_6.2.2.1 k0) rfl (by decide) rfl hl.1 rfl (Nat.le_of_ble_eq_true rfl) dX11_weak_139 ⟨Nat.le_refl _, Nat.le_refl _⟩) (fun _ _ h => ⟨cw_tr Bh_6.2.2.1 h (by decide), rofw_tr Bh_6.2.2.2 (rofw_cw h (by decide))⟩) rfl (fun rh_12 αh_12 Hh_12 Lh_12 ph_12 Bh_12 => ?_)
      refine lv_goto (tgt := 154) hx hb dX11_weak_142 (by decide) ?_
      exact q_iretQ C Bh_12 hr hlk (hP _ _ Bh_12.2.2) (fun t ht => hq _ t Bh_12.2.2 ht) dX11_weak_154
  ·
    have jc_7 := il_eq c_7
    refine lv_aload_n hx hb dX11_weak_119 rfl (lv_at hl 1 rfl) (hp_n (n := 120) rfl ?_)
    refine lv_aload hx hb dX11_weak_120 (lv_at hl 0 rfl) (hp_n (n := 122) rfl ?_)
    refine q_geti (κ := 5) (k := 9) (φ := 259) (pc' := 125) C Bh_6 (cw_k Bh_6.2.2.1 kb0) fl_X11_373 rfl rfl rfl dX11_weak_122 rfl (fun x_13 ex_13 => ?_)
    refine q_ci (pc' := 128) Bh_6 (hp_runV (As := [.int x_13]) (rest := []) C Bh_6 (t_X11_answer Γ l αh_6 Bh_6.2.2.1.1 a0 (cw_k Bh_6.2.2.1 k0) x_13) lb_X11_answer lv_X11_answer lk_X11_115 (cw_k Bh_6.2.2.1 k0) rfl (by decide) rfl hl.1 rfl (Nat.le_of_ble_eq_true rfl) dX11_weak_125 ⟨Nat.le_refl _, Nat.le_refl _⟩) (fun _ _ h => ⟨cw_tr Bh_6.2.2.1 h (by decide), rofw_tr Bh_6.2.2.2 (rofw_cw h (by decide))⟩) rfl (fun rh_14 αh_14 Hh_14 Lh_14 ph_14 Bh_14 => ?_)
    exact q_iretQ C Bh_14 hr hlk (hP _ _ Bh_14.2.2) (fun t ht => hq _ t Bh_14.2.2 ht) dX11_weak_128
set_option maxRecDepth 100000 in
set_option maxHeartbeats 4000000 in
theorem t_X11_weak_N_R {ra rb : List Nat} (Γ : hp_G) (l : Launch) (α : hp_T) (g : GC α) (Hs : Heap) (a0 : Nat) (k0 : hp_K α a0 = 12) (a1 : Int32) (a2 : Int32) (a3 : Int32) (a4 : Int32) (hN : hp_N α 618 a0 = none) (oA : (hp_R α 614 a0) ∈ ra) (oB : hp_R α 300 (hp_R α 614 a0) ∈ rb) : Met l yX11_weak (hp_ws yX11_weak cX11_weak 8 (some .int)) (hp_rm 72 9 131316) (hp_PcH Γ α Hs [.ref a0, .int a1, .int a2, .int a3, .int a4]) (va_Qi (fun r β => cgr ra rb w_X11_weak_S α β) (hp_Bz Γ Hs a0) (hp_A Γ)) 9 131316 (hp_A Γ) := by
  refine hp_startH (by decide) ?_
  intro p e s m below meth c C hr hlk B0 hHs
  have C : hp_C Γ p m c cX11_weak 8 s ([.ref a0, .int a1, .int a2, .int a3, .int a4] : List Value).toArray RX11 := C
  have hx := C.1.1
  have hb := C.1.2.1
  have hown := C.1.2.2.2.1
  have hts := C.1.2.2.2.2
  have B : hp_B Γ (cwr ra rb w_X11_weak_N) s α α s.heap [] := ⟨B0.1, B0.2.1, cw_rf g, rofw_rf⟩
  have lit0 : (0 : Int32).toInt = 0 := by decide
  have lit1 : (1 : Int32).toInt = 1 := by decide
  have hl := lv_entry ([.ref a0, .int a1, .int a2, .int a3, .int a4]) (n := 8) (Nat.le_of_ble_eq_true rfl)
  show W p l e (hp_rm 72 9 131316) s m ([.ref a0, .int a1, .int a2, .int a3, .int a4] : List Value).toArray below meth c s.heap [] 0 0 (MQ below (va_Qi (fun r β => cgr ra rb w_X11_weak_S α β) (hp_Bz Γ Hs a0) (hp_A Γ)) ([.ref a0, .int a1, .int a2, .int a3, .int a4] : List Value).toArray s 9 131316 (hp_A Γ)) (entryFrame m ([.ref a0, .int a1, .int a2, .int a3, .int a4] : List Value).toArray 8)
  rw [lg_entry_eq]
  generalize (lg_sl ([.ref a0, .int a1, .int a2, .int a3, .int a4]) ++ List.replicate (8 - (lg_sl ([.ref a0, .int a1, .int a2, .int a3, .int a4])).length) Slot.unset).toArray = ls at hl ⊢
  have hl : lv_has ls 8 [(0, .ref a0), (1, .int a1), (2, .int a2), (3, .int a3), (4, .int a4)] := hl
  refine lv_iload hx hb dX11_weak_0 (lv_at hl 4 rfl) (hp_n (n := 2) rfl ?_)
  have J11 : ∀ (Hh_1 : Heap) (Lh_1 : List Loc) (Bh_1 : hp_B Γ (cwr ra rb w_X11_weak_N) s α α Hh_1 Lh_1) (ls : Array Slot) (hl : lv_has ls 8 [(0, .ref a0)]), W p l e (hp_rm 72 9 131316) s m ([.ref a0, .int a1, .int a2, .int a3, .int a4] : List Value).toArray below meth c Hh_1 Lh_1 0 0 (MQ below (va_Qi (fun r β => cgr ra rb w_X11_weak_S α β) (hp_Bz Γ Hs a0) (hp_A Γ)) ([.ref a0, .int a1, .int a2, .int a3, .int a4] : List Value).toArray s 9 131316 (hp_A Γ)) (F0 m 11 ls []) := by
    intro Hh_1 Lh_1 Bh_1 ls hl
    refine lv_aload_n hx hb dX11_weak_11 rfl (lv_at hl 0 rfl) (hp_n (n := 12) rfl ?_)
    refine lv_iconst (v := 1) hx hb dX11_weak_12 (by decide) (hp_n (n := 13) rfl ?_)
    refine q_ci (pc' := 16) Bh_1 (hp_runV (As := [.int 1]) (rest := []) C Bh_1 (t_X11_refuse Γ l α Bh_1.2.2.1.1 a0 (cw_k Bh_1.2.2.1 k0) 1) lb_X11_refuse lv_X11_refuse lk_X11_98 (cw_k Bh_1.2.2.1 k0) rfl (by decide) rfl hl.1 rfl (Nat.le_of_ble_eq_true rfl) dX11_weak_13 ⟨Nat.zero_le _, Nat.zero_le _⟩) (fun _ _ h => ⟨cw_tr Bh_1.2.2.1 h (by decide), rofw_tr Bh_1.2.2.2 (rofw_cw h (by decide))⟩) rfl (fun rh_2 αh_2 Hh_2 Lh_2 ph_2 Bh_2 => ?_)
    exact q_iretZ C Bh_2 hr hlk hHs (cgr_cw Bh_2.2.2) dX11_weak_16
  refine lv_if_lt (tgt := 11) hx hb dX11_weak_2 (by decide) (fun c_3 => ?_) (fun c_3 => hp_n (n := 5) rfl ?_)
  ·
    have jc_3 := il_lt c_3
    exact J11 s.heap [] B ls (lv_sub hl [0] rfl)
  ·
    have jc_3 := il_nlt c_3
    refine lv_iload hx hb dX11_weak_5 (lv_at hl 4 rfl) (hp_n (n := 7) rfl ?_)
    refine lv_iconst (v := 1) hx hb dX11_weak_7 (by decide) (hp_n (n := 8) rfl ?_)
    refine lv_icmp_le (tgt := 17) hx hb dX11_weak_8 (by decide) (fun c_4 => ?_) (fun c_4 => hp_n (n := 11) rfl ?_)
    ·
      have jc_4 := il_le c_4
      refine lv_aload_n hx hb dX11_weak_17 rfl (lv_at hl 0 rfl) (hp_n (n := 18) rfl ?_)
      refine q_getr (κ := 12) (k := 1) (φ := 601) (pc' := 21) C B (cw_k B.2.2.1 k0) fl_X11_16 rfl rfl rfl (cw_r B.2.2.1 k0 rfl rfl (by decide) (by decide)) dX11_weak_18 rfl (fun b_5 eb_5 kb_5 => ?_)
      refine lv_iload_n hx hb dX11_weak_21 rfl (lv_at hl 1 rfl) (hp_n (n := 22) rfl ?_)
      refine q_cq (pc' := 25) B (hp_runV (As := [.int a1]) (rest := []) C B (t_X10_logAt Γ l α B.2.2.1.1 b_5 (cw_k B.2.2.1 kb_5) a1) lb_X10_logAt lv_X10_logAt lk_X11_163 (cw_k B.2.2.1 kb_5) rfl (by decide) rfl hl.1 rfl (Nat.le_of_ble_eq_true rfl) dX11_weak_22 ⟨Nat.zero_le _, Nat.zero_le _⟩) (fun _ _ h => by rw [h.1]; exact B.2.2) rfl (fun rh_6 αh_6 Hh_6 Lh_6 ph_6 Bh_6 => ?_)
      rw [ph_6.1] at Bh_6
      rcases rh_6 with _ | bh_6
      ·
        refine lv_astoreN (lv' := [(5, .null), (0, .ref a0), (1, .int a1), (2, .int a2), (3, .int a3), (4, .int a4)]) hx hb dX11_weak_25 hl (by decide) rfl (fun ls hl => hp_n (n := 27) rfl ?_)
        refine lv_aloadN hx hb dX11_weak_27 (lv_at hl 0 rfl) (hp_n (n := 29) rfl ?_)
        refine lv_iload_n hx hb dX11_weak_29 rfl (lv_at hl 3 rfl) (hp_n (n := 30) rfl ?_)
        refine lv_iload_n hx hb dX11_weak_30 rfl (lv_at hl 4 rfl) (hp_n (n := 31) rfl ?_)
        refine q_ci (pc' := 34) Bh_6 (hp_runS (As := [va_rf none, .int a2, .int a3]) (rest := []) C Bh_6 (t_X11_wrongInclusion Γ l α Bh_6.2.2.1.1 none (fun b h => by cases h) a2 a3) lb_X11_wrongInclusion ls_X11_wrongInclusion lk_X11_264 rfl (by decide) rfl hl.1 rfl (Nat.le_of_ble_eq_true rfl) dX11_weak_31 ⟨Nat.zero_le _, Nat.zero_le _⟩) (fun _ _ h => by rw [h]; exact Bh_6.2.2) rfl (fun rh_7 αh_7 Hh_7 Lh_7 ph_7 Bh_7 => ?_)
        rw [ph_7] at Bh_7
        refine lv_istore (lv' := [(6, .int rh_7), (5, .null), (0, .ref a0), (1, .int a1), (2, .int a2), (3, .int a3), (4, .int a4)]) hx hb dX11_weak_34 hl (by decide) rfl (fun ls hl => hp_n (n := 36) rfl ?_)
        refine lv_iload hx hb dX11_weak_36 (lv_at hl 0 rfl) (hp_n (n := 38) rfl ?_)
        have J46 : ∀ (Hh_8 : Heap) (Lh_8 : List Loc) (Bh_8 : hp_B Γ (cwr ra rb w_X11_weak_N) s α α Hh_8 Lh_8) (ls : Array Slot) (hl : lv_has ls 8 [(0, .ref a0), (6, .int rh_7)]), W p l e (hp_rm 72 9 131316) s m ([.ref a0, .int a1, .int a2, .int a3, .int a4] : List Value).toArray below meth c Hh_8 Lh_8 0 0 (MQ below (va_Qi (fun r β => cgr ra rb w_X11_weak_S α β) (hp_Bz Γ Hs a0) (hp_A Γ)) ([.ref a0, .int a1, .int a2, .int a3, .int a4] : List Value).toArray s 9 131316 (hp_A Γ)) (F0 m 46 ls []) := by
          intro Hh_8 Lh_8 Bh_8 ls hl
          refine lv_aload_n hx hb dX11_weak_46 rfl (lv_at hl 0 rfl) (hp_n (n := 47) rfl ?_)
          refine lv_iload hx hb dX11_weak_47 (lv_at hl 1 rfl) (hp_n (n := 49) rfl ?_)
          refine q_ci (pc' := 52) Bh_8 (hp_runV (As := [.int rh_7]) (rest := []) C Bh_8 (t_X11_refuse Γ l α Bh_8.2.2.1.1 a0 (cw_k Bh_8.2.2.1 k0) rh_7) lb_X11_refuse lv_X11_refuse lk_X11_98 (cw_k Bh_8.2.2.1 k0) rfl (by decide) rfl hl.1 rfl (Nat.le_of_ble_eq_true rfl) dX11_weak_49 ⟨Nat.zero_le _, Nat.zero_le _⟩) (fun _ _ h => ⟨cw_tr Bh_8.2.2.1 h (by decide), rofw_tr Bh_8.2.2.2 (rofw_cw h (by decide))⟩) rfl (fun rh_9 αh_9 Hh_9 Lh_9 ph_9 Bh_9 => ?_)
          exact q_iretZ C Bh_9 hr hlk hHs (cgr_cw Bh_9.2.2) dX11_weak_52
        refine lv_if_ne (tgt := 46) hx hb dX11_weak_38 (by decide) (fun c_10 => ?_) (fun c_10 => hp_n (n := 41) rfl ?_)
        ·
          have jc_10 := il_ne c_10
          exact J46 Hh_7 Lh_7 Bh_7 ls (lv_sub hl [2, 0] rfl)
        ·
          have jc_10 := il_eq c_10
          refine lv_aloadN hx hb dX11_weak_41 (lv_at hl 1 rfl) (hp_n (n := 43) rfl ?_)
          refine lv_ifnonnullN hx hb dX11_weak_43 (hp_n (n := 46) rfl ?_)
          exact J46 Hh_7 Lh_7 Bh_7 ls (lv_sub hl [2, 0] rfl)
      ·
        have kbh_6 : hp_K α bh_6 = 3 := cw_k' Bh_6.2.2.1 (ph_6.2 bh_6 rfl)
        refine lv_astore (lv' := [(5, .ref bh_6), (0, .ref a0), (1, .int a1), (2, .int a2), (3, .int a3), (4, .int a4)]) hx hb dX11_weak_25 hl (by decide) rfl (fun ls hl => hp_n (n := 27) rfl ?_)
        refine lv_aload hx hb dX11_weak_27 (lv_at hl 0 rfl) (hp_n (n := 29) rfl ?_)
        refine lv_iload_n hx hb dX11_weak_29 rfl (lv_at hl 3 rfl) (hp_n (n := 30) rfl ?_)
        refine lv_iload_n hx hb dX11_weak_30 rfl (lv_at hl 4 rfl) (hp_n (n := 31) rfl ?_)
        refine q_ci (pc' := 34) Bh_6 (hp_runS (As := [va_rf (some bh_6), .int a2, .int a3]) (rest := []) C Bh_6 (t_X11_wrongInclusion Γ l α Bh_6.2.2.1.1 (some bh_6) (fun b h => by cases h; exact (cw_k Bh_6.2.2.1 kbh_6)) a2 a3) lb_X11_wrongInclusion ls_X11_wrongInclusion lk_X11_264 rfl (by decide) rfl hl.1 rfl (Nat.le_of_ble_eq_true rfl) dX11_weak_31 ⟨Nat.zero_le _, Nat.zero_le _⟩) (fun _ _ h => by rw [h]; exact Bh_6.2.2) rfl (fun rh_11 αh_11 Hh_11 Lh_11 ph_11 Bh_11 => ?_)
        rw [ph_11] at Bh_11
        refine lv_istore (lv' := [(6, .int rh_11), (5, .ref bh_6), (0, .ref a0), (1, .int a1), (2, .int a2), (3, .int a3), (4, .int a4)]) hx hb dX11_weak_34 hl (by decide) rfl (fun ls hl => hp_n (n := 36) rfl ?_)
        refine lv_iload hx hb dX11_weak_36 (lv_at hl 0 rfl) (hp_n (n := 38) rfl ?_)
        have J46 : ∀ (Hh_12 : Heap) (Lh_12 : List Loc) (Bh_12 : hp_B Γ (cwr ra rb w_X11_weak_N) s α α Hh_12 Lh_12) (ls : Array Slot) (hl : lv_has ls 8 [(0, .ref a0), (6, .int rh_11)]), W p l e (hp_rm 72 9 131316) s m ([.ref a0, .int a1, .int a2, .int a3, .int a4] : List Value).toArray below meth c Hh_12 Lh_12 0 0 (MQ below (va_Qi (fun r β => cgr ra rb w_X11_weak_S α β) (hp_Bz Γ Hs a0) (hp_A Γ)) ([.ref a0, .int a1, .int a2, .int a3, .int a4] : List Value).toArray s 9 131316 (hp_A Γ)) (F0 m 46 ls []) := by
          intro Hh_12 Lh_12 Bh_12 ls hl
          refine lv_aload_n hx hb dX11_weak_46 rfl (lv_at hl 0 rfl) (hp_n (n := 47) rfl ?_)
          refine lv_iload hx hb dX11_weak_47 (lv_at hl 1 rfl) (hp_n (n := 49) rfl ?_)
          refine q_ci (pc' := 52) Bh_12 (hp_runV (As := [.int rh_11]) (rest := []) C Bh_12 (t_X11_refuse Γ l α Bh_12.2.2.1.1 a0 (cw_k Bh_12.2.2.1 k0) rh_11) lb_X11_refuse lv_X11_refuse lk_X11_98 (cw_k Bh_12.2.2.1 k0) rfl (by decide) rfl hl.1 rfl (Nat.le_of_ble_eq_true rfl) dX11_weak_49 ⟨Nat.zero_le _, Nat.zero_le _⟩) (fun _ _ h => ⟨cw_tr Bh_12.2.2.1 h (by decide), rofw_tr Bh_12.2.2.2 (rofw_cw h (by decide))⟩) rfl (fun rh_13 αh_13 Hh_13 Lh_13 ph_13 Bh_13 => ?_)
          exact q_iretZ C Bh_13 hr hlk hHs (cgr_cw Bh_13.2.2) dX11_weak_52
        refine lv_if_ne (tgt := 46) hx hb dX11_weak_38 (by decide) (fun c_14 => ?_) (fun c_14 => hp_n (n := 41) rfl ?_)
        ·
          have jc_14 := il_ne c_14
          exact J46 Hh_11 Lh_11 Bh_11 ls (lv_sub hl [2, 0] rfl)
        ·
          have jc_14 := il_eq c_14
          refine lv_aload hx hb dX11_weak_41 (lv_at hl 1 rfl) (hp_n (n := 43) rfl ?_)
          refine lv_ifnonnull (tgt := 53) hx hb dX11_weak_43 (by decide) ?_
          refine lv_aload_n hx hb dX11_weak_53 rfl (lv_at hl 2 rfl) (hp_n (n := 54) rfl ?_)
          refine q_getr (κ := 12) (k := 12) (φ := 612) (pc' := 57) C Bh_11 (cw_k Bh_11.2.2.1 k0) fl_X11_62 rfl rfl rfl (cw_r Bh_11.2.2.1 k0 rfl rfl (by decide) (by decide)) dX11_weak_54 rfl (fun b_15 eb_15 kb_15 => ?_)
          refine lv_iload_n hx hb dX11_weak_57 rfl (lv_at hl 4 rfl) (hp_n (n := 58) rfl ?_)
          refine lv_iload_n hx hb dX11_weak_58 rfl (lv_at hl 5 rfl) (hp_n (n := 59) rfl ?_)
          refine q_cv (pc' := 62) Bh_11 (hp_runV (As := [.int a2, .int a3]) (rest := []) C Bh_11 (t_X8_toThing Γ l α Bh_11.2.2.1.1 b_15 (cw_k Bh_11.2.2.1 kb_15) a2 a3) lb_X8_toThing lv_X8_toThing lk_X11_267 (cw_k Bh_11.2.2.1 kb_15) rfl (by decide) rfl hl.1 rfl (Nat.le_of_ble_eq_true rfl) dX11_weak_59 ⟨Nat.zero_le _, Nat.zero_le _⟩) (fun _ h => ⟨cw_tr Bh_11.2.2.1 h (by decide), rofw_tr Bh_11.2.2.2 (rofw_cw h (by decide))⟩) rfl (fun αh_16 Hh_16 Lh_16 ph_16 Bh_16 => ?_)
          refine lv_aload_n hx hb dX11_weak_62 rfl (lv_at hl 2 rfl) (hp_n (n := 63) rfl ?_)
          have t_17 : b_5 = hp_R αh_16 601 a0 := by rw [cw_R ph_16 a0 (by decide)]; exact eb_5
          refine q_gets (κ := 12) (k := 1) (φ := 601) (pc' := 66) C Bh_16 (cw_k Bh_16.2.2.1 k0) fl_X11_16 rfl rfl rfl t_17 dX11_weak_63 rfl ?_
          refine lv_aload_n hx hb dX11_weak_66 rfl (lv_at hl 2 rfl) (hp_n (n := 67) rfl ?_)
          have t_18 : b_15 = hp_R αh_16 612 a0 := by rw [cw_R ph_16 a0 (by decide)]; exact eb_15
          refine q_gets (κ := 12) (k := 12) (φ := 612) (pc' := 70) C Bh_16 (cw_k Bh_16.2.2.1 k0) fl_X11_62 rfl rfl rfl t_18 dX11_weak_67 rfl ?_
          refine lv_aload hx hb dX11_weak_70 (lv_at hl 1 rfl) (hp_n (n := 72) rfl ?_)
          refine lv_aload_n hx hb dX11_weak_72 rfl (lv_at hl 2 rfl) (hp_n (n := 73) rfl ?_)
          refine q_getr (κ := 12) (k := 14) (φ := 614) (pc' := 76) C Bh_16 (cw_k Bh_16.2.2.1 k0) fl_X11_69 rfl rfl rfl (cw_r Bh_16.2.2.1 k0 rfl rfl (by decide) (by decide)) dX11_weak_73 rfl (fun b_19 eb_19 kb_19 => ?_)
          refine q_cv (pc' := 79) Bh_16 (hp_runV (As := [.ref b_15, va_rf (some bh_6), .ref b_19]) (rest := []) C Bh_16 (t_X10_marksAlong_R (ra := ra) (rb := rb) Γ l αh_16 Bh_16.2.2.1.1 b_5 (cw_k Bh_16.2.2.1 kb_5) b_15 (cw_k Bh_16.2.2.1 kb_15) (some bh_6) (fun b h => by cases h; exact (cw_k Bh_16.2.2.1 kbh_6)) b_19 (cw_k Bh_16.2.2.1 kb_19) (by rw [eb_19, cw_R Bh_16.2.2.1 a0 (by decide)]; exact oA) (by rw [cw_R Bh_16.2.2.1 _ (by decide), eb_19, cw_R Bh_16.2.2.1 a0 (by decide)]; exact oB)) lb_X10_marksAlong lv_X10_marksAlong lk_X11_270 (cw_k Bh_16.2.2.1 kb_5) rfl (by decide) rfl hl.1 rfl (Nat.le_of_ble_eq_true rfl) dX11_weak_76 ⟨Nat.zero_le _, Nat.zero_le _⟩) (fun _ h => ⟨cw_tr Bh_16.2.2.1 h.1 (by decide), rofw_tr Bh_16.2.2.2 h.2⟩) rfl (fun αh_20 Hh_20 Lh_20 ph_20 Bh_20 => ?_)
          refine lv_aload_n hx hb dX11_weak_79 rfl (lv_at hl 2 rfl) (hp_n (n := 80) rfl ?_)
          have kaN := (cw_k Bh_20.2.2.1 k0)
          have BN : hp_B Γ (fun _ _ => True) s α αh_20 Hh_20 Lh_20 := ⟨Bh_20.1, Bh_20.2.1, trivial⟩
          refine q_cq (pc' := 83) BN (hp_runV (As := []) (rest := []) C BN (t_X11_preparedRoots_N Γ l αh_20 Bh_20.2.2.1.1 a0 kaN (by rw [Bh_20.2.2.1.2.2.1]; exact hN)) lb_X11_preparedRoots lv_X11_preparedRoots lk_X11_363 kaN rfl (by decide) rfl hl.1 rfl (Nat.le_of_ble_eq_true rfl) dX11_weak_80 ⟨Nat.le_refl _, Nat.le_refl _⟩) (fun _ _ _ => trivial) rfl (fun rN αN HN LN pN BM => ?_)
          obtain ⟨b0, rfl, cN, kN, nN⟩ := pN
          have ckN : ∀ b, hp_K α b ≠ 0 → hp_K αN b = hp_K α b := fun b hb => by rw [cN.2.1 b (by rw [Bh_20.2.2.1.2.1]; exact hb), Bh_20.2.2.1.2.1]
          exact u_X11_weak_R (ra := ra) (rb := rb) Γ l αN cN.1 a0 ((ckN _ (by rw [k0]; decide)).trans k0) a2 a3 a4 bh_6 ((ckN _ (by rw [kbh_6]; decide)).trans kbh_6) b0 kN C hr hlk HN LN ⟨BM.1, BM.2.1, cw_rf cN.1, rofw_rf⟩ _ _ (fun _ _ hw => cgr_tr (cgr_tr (cgr_cw Bh_20.2.2) (cgr_cg cN (by decide)) (by decide)) (cgr_cw hw) (by decide)) (fun β t hw hR => ⟨hR, fun hn => by rw [hw.1.2.2.1, nN] at hn; cases hn⟩) ls (lv_sub hl [2, 4, 5, 6, 1] rfl)
    ·
      have jc_4 := il_nle c_4
      exact J11 s.heap [] B ls (lv_sub hl [0] rfl)
