/-! ===== feed, load, hear: how many bytes are on the tape ===== -/
/-- the class's feed: of the count c before it, the answer r, the count d behind it -/
def fd_C (c r d : Int32) : Prop := (880 < c.toInt ∧ r = -1 ∧ d = c) ∨ (c.toInt ≤ 880 ∧ r = d ∧ d.toInt = c.toInt + 20)
def fd_M (σ : ms_T) (res : Int32 × ms_T) : Prop := fd_C (ms_I σ 667) res.1 (ms_I res.2 667)
def ld_C (c n d : Int32) : Prop := ((n.toInt < 0 ∨ c.toInt < n.toInt) ∧ d = c) ∨ (¬ (n.toInt < 0 ∨ c.toInt < n.toInt) ∧ d = 0)
def ld_M (σ : ms_T) (n : Int32) (τ : ms_T) : Prop := ld_C (ms_I σ 667) n (ms_I τ 667)
theorem fd_dd {c r d r' d' : Int32} (h : fd_C c r d) (g : fd_C c r' d') : r = r' ∧ d = d' := by
  rcases h with ⟨h1, h2, h3⟩ | ⟨h1, h2, h3⟩
  · rcases g with ⟨g1, g2, g3⟩ | ⟨g1, g2, g3⟩
    · exact ⟨by rw [h2, g2], by rw [h3, g3]⟩
    · omega
  · rcases g with ⟨g1, g2, g3⟩ | ⟨g1, g2, g3⟩
    · omega
    · have e : d = d' := Int32.toInt_inj.mp (by omega)
      exact ⟨by rw [h2, g2, e], e⟩
theorem ld_dd {c n d d' : Int32} (h : ld_C c n d) (g : ld_C c n d') : d = d' := by
  rcases h with ⟨h1, h2⟩ | ⟨h1, h2⟩
  · rcases g with ⟨g1, g2⟩ | ⟨g1, g2⟩
    · rw [h2, g2]
    · exact absurd h1 g1
  · rcases g with ⟨g1, g2⟩ | ⟨g1, g2⟩
    · exact absurd g1 h1
    · rw [h2, g2]
abbrev w_X11_putOnTape_F : cw_W := ([605], [], [24], [])
set_option maxRecDepth 100000 in
set_option maxHeartbeats 4000000 in
theorem t_X11_putOnTape_F (Γ : hp_G) (l : Launch) (α : hp_T) (g : GC α) (a0 : Nat) (k0 : hp_K α a0 = 12) (a1 : Int32) (h0 : 0 ≤ (hp_I α 605 a0).toInt) (h1 : (hp_I α 605 a0).toInt ≤ 896) : Met l yX11_putOnTape (hp_ws yX11_putOnTape cX11_putOnTape 3 none) (hp_rm 0 0 0) (hp_Pc Γ α [.ref a0, .int a1]) (hp_Qv Γ (fun β => cw w_X11_putOnTape_F α β ∧ (hp_I β 605 a0).toInt = (hp_I α 605 a0).toInt + 4)) 0 0 (hp_A Γ) := by
  refine hp_start (by decide) ?_
  intro p e s m below meth c C hr hlk B0 hnm
  have C : hp_C Γ p m c cX11_putOnTape 3 s ([.ref a0, .int a1] : List Value).toArray RX11 := C
  have hx := C.1.1
  have hb := C.1.2.1
  have hown := C.1.2.2.2.1
  have hts := C.1.2.2.2.2
  have B : hp_B Γ (cw w_X11_putOnTape_F) s α α s.heap [] := ⟨B0.1, B0.2.1, cw_rf g⟩
  have litm8 : ((-8) : Int32).toInt = (-8) := by decide
  have lit0 : (0 : Int32).toInt = 0 := by decide
  have lit1 : (1 : Int32).toInt = 1 := by decide
  have lit24 : (24 : Int32).toInt = 24 := by decide
  have lit900 : (900 : Int32).toInt = 900 := by decide
  have hl := lv_entry ([.ref a0, .int a1]) (n := 3) (Nat.le_of_ble_eq_true rfl)
  show W p l e (hp_rm 0 0 0) s m ([.ref a0, .int a1] : List Value).toArray below meth c s.heap [] 0 0 (MQ below (hp_Qv Γ (fun β => cw w_X11_putOnTape_F α β ∧ (hp_I β 605 a0).toInt = (hp_I α 605 a0).toInt + 4)) ([.ref a0, .int a1] : List Value).toArray s 0 0 (hp_A Γ)) (entryFrame m ([.ref a0, .int a1] : List Value).toArray 3)
  rw [lg_entry_eq]
  generalize (lg_sl ([.ref a0, .int a1]) ++ List.replicate (3 - (lg_sl ([.ref a0, .int a1])).length) Slot.unset).toArray = ls at hl ⊢
  have hl : lv_has ls 3 [(0, .ref a0), (1, .int a1)] := hl
  refine lv_bipush (v := 24) hx hb dX11_putOnTape_0 (by decide) (hp_n (n := 2) rfl ?_)
  have J3 : ∀ (nq : Nat) (αh_1 : hp_T) (Hh_1 : Heap) (Lh_1 : List Loc) (Bh_1 : hp_B Γ (cw w_X11_putOnTape_F) s α αh_1 Hh_1 Lh_1) (v2_h_1 : Int32) (ih_1_0 : -8 ≤ v2_h_1.toInt ∧ v2_h_1.toInt ≤ 24 ∧ v2_h_1.toInt % 8 = 0) (ih_1_1 : (hp_I αh_1 605 a0).toInt = (hp_I α 605 a0).toInt + (24 - v2_h_1.toInt) / 8) (ls : Array Slot) (hl : lv_has ls 3 [(0, .ref a0), (1, .int a1), (2, .int v2_h_1)]) (hmu3 : (v2_h_1.toInt + 1).toNat = nq), W p l e (hp_rm 0 0 0) s m ([.ref a0, .int a1] : List Value).toArray below meth c Hh_1 Lh_1 0 0 (MQ below (hp_Qv Γ (fun β => cw w_X11_putOnTape_F α β ∧ (hp_I β 605 a0).toInt = (hp_I α 605 a0).toInt + 4)) ([.ref a0, .int a1] : List Value).toArray s 0 0 (hp_A Γ)) (F0 m 3 ls []) := by
    intro nq
    induction nq using Nat.strongRecOn with
    | ind nq ih3 =>
    intro αh_1 Hh_1 Lh_1 Bh_1 v2_h_1 ih_1_0 ih_1_1 ls hl hmu3
    have inv3_0 := ih_1_0
    have inv3_1 := ih_1_1
    refine lv_iload_n hx hb dX11_putOnTape_3 rfl (lv_at hl 2 rfl) (hp_n (n := 4) rfl ?_)
    refine lv_if_lt (tgt := 55) hx hb dX11_putOnTape_4 (by decide) (fun c_2 => ?_) (fun c_2 => hp_n (n := 7) rfl ?_)
    ·
      have jc_2 := il_lt c_2
      exact q_vret C Bh_1 hr hlk ⟨Bh_1.2.2, by omega⟩ dX11_putOnTape_55
    ·
      have jc_2 := il_nlt c_2
      refine lv_aload_n hx hb dX11_putOnTape_7 rfl (lv_at hl 0 rfl) (hp_n (n := 8) rfl ?_)
      refine q_geti (κ := 12) (k := 5) (φ := 605) (pc' := 11) C Bh_1 (cw_k Bh_1.2.2 k0) fl_X11_34 rfl rfl rfl dX11_putOnTape_8 rfl (fun x_3 ex_3 => ?_)
      have ix_3 := il_eq ex_3
      refine lv_if_lt (tgt := 49) hx hb dX11_putOnTape_11 (by decide) (fun c_4 => ?_) (fun c_4 => hp_n (n := 14) rfl ?_)
      ·
        have jc_4 := il_lt c_4
        obtain ⟨x_5, ex_5⟩ : ∃ y : Int32, y = v2_h_1 + (-8) := ⟨_, rfl⟩
        try have qx_5 : x_5.toInt = v2_h_1.toInt + ((-8) : Int32).toInt := by have b0 := ib_hi v2_h_1; have c0 := ib_lo v2_h_1; rw [ex_5]; exact ii_add (by omega) (by omega)
        refine lv_iinc (v := x_5) (lv' := [(2, .int x_5), (0, .ref a0), (1, .int a1)]) hx hb dX11_putOnTape_49 hl (k := 2) rfl (by rw [ex_5]; rfl) (by decide) rfl (fun ls hl => hp_n (n := 52) rfl ?_)
        refine lv_goto (tgt := 3) hx hb dX11_putOnTape_52 (by decide) ?_
        have uu_6 := il_eq ex_3
        exact ih3 _ (mu_dn8 hmu3 ex_5 (by omega)) αh_1 Hh_1 Lh_1 Bh_1 x_5 (by omega) (by omega) ls (lv_sub hl [1, 2, 0] rfl) rfl
      ·
        have jc_4 := il_nlt c_4
        refine lv_aload_n hx hb dX11_putOnTape_14 rfl (lv_at hl 0 rfl) (hp_n (n := 15) rfl ?_)
        refine q_getj (κ := 12) (k := 5) (φ := 605) (pc' := 18) C Bh_1 (cw_k Bh_1.2.2 k0) fl_X11_34 rfl rfl rfl ex_3 dX11_putOnTape_15 rfl ?_
        refine lv_aload_n hx hb dX11_putOnTape_18 rfl (lv_at hl 0 rfl) (hp_n (n := 19) rfl ?_)
        refine q_getr (κ := 12) (k := 4) (φ := 604) (pc' := 22) C Bh_1 (cw_k Bh_1.2.2 k0) fl_X11_30 rfl rfl rfl (cw_r Bh_1.2.2 k0 rfl rfl (by decide) (by decide)) dX11_putOnTape_19 rfl (fun b_7 eb_7 kb_7 => ?_)
        refine q_alen (κ := 24) (t := 1) (n := 900) (x := 900) (ty := .byte) (pc' := 23) C Bh_1 (cw_k Bh_1.2.2 kb_7) (by decide) rfl rfl rfl dX11_putOnTape_22 rfl ?_
        refine lv_icmp_ge (tgt := 49) hx hb dX11_putOnTape_23 (by decide) (fun c_8 => ?_) (fun c_8 => hp_n (n := 26) rfl ?_)
        ·
          have jc_8 := il_le c_8
          obtain ⟨x_9, ex_9⟩ : ∃ y : Int32, y = v2_h_1 + (-8) := ⟨_, rfl⟩
          try have qx_9 : x_9.toInt = v2_h_1.toInt + ((-8) : Int32).toInt := by have b0 := ib_hi v2_h_1; have c0 := ib_lo v2_h_1; rw [ex_9]; exact ii_add (by omega) (by omega)
          refine lv_iinc (v := x_9) (lv' := [(2, .int x_9), (0, .ref a0), (1, .int a1)]) hx hb dX11_putOnTape_49 hl (k := 2) rfl (by rw [ex_9]; rfl) (by decide) rfl (fun ls hl => hp_n (n := 52) rfl ?_)
          refine lv_goto (tgt := 3) hx hb dX11_putOnTape_52 (by decide) ?_
          have uu_10 := il_eq ex_3
          exact ih3 _ (mu_dn8 hmu3 ex_9 (by omega)) αh_1 Hh_1 Lh_1 Bh_1 x_9 (by omega) (by omega) ls (lv_sub hl [1, 2, 0] rfl) rfl
        ·
          have jc_8 := il_nle c_8
          refine lv_aload_n hx hb dX11_putOnTape_26 rfl (lv_at hl 0 rfl) (hp_n (n := 27) rfl ?_)
          refine q_gets (κ := 12) (k := 4) (φ := 604) (pc' := 30) C Bh_1 (cw_k Bh_1.2.2 k0) fl_X11_30 rfl rfl rfl eb_7 dX11_putOnTape_27 rfl ?_
          refine lv_aload_n hx hb dX11_putOnTape_30 rfl (lv_at hl 0 rfl) (hp_n (n := 31) rfl ?_)
          refine q_getj (κ := 12) (k := 5) (φ := 605) (pc' := 34) C Bh_1 (cw_k Bh_1.2.2 k0) fl_X11_34 rfl rfl rfl ex_3 dX11_putOnTape_31 rfl ?_
          refine lv_iload_n hx hb dX11_putOnTape_34 rfl (lv_at hl 1 rfl) (hp_n (n := 35) rfl ?_)
          refine lv_iload_n hx hb dX11_putOnTape_35 rfl (lv_at hl 2 rfl) (hp_n (n := 36) rfl ?_)
          refine lv_iushr hx hb dX11_putOnTape_36 rfl (hp_n (n := 37) rfl (lv_topi (fun x_11 ex_11 => ?_)))
          refine lv_i2b hx hb dX11_putOnTape_37 rfl (hp_n (n := 38) rfl (lv_topi (fun x_12 ex_12 => ?_)))
          refine q_bas (κ := 24) (n := 900) (pc' := 39) C Bh_1 (cw_k Bh_1.2.2 kb_7) (by decide) rfl (vi_of (by omega) (by omega)) rfl rfl (cw_sE Bh_1.2.2 (by decide)) dX11_putOnTape_38 rfl (fun αh_13 Hh_13 Lh_13 eh_13 Bh_13 => ?_)
          refine lv_aload_n hx hb dX11_putOnTape_39 rfl (lv_at hl 0 rfl) (hp_n (n := 40) rfl ?_)
          refine lv_dup hx hb dX11_putOnTape_40 rfl (hp_n (n := 41) rfl ?_)
          have t_14 : x_3 = hp_I αh_13 605 a0 := by rw [eh_13]; exact ex_3
          refine q_getj (κ := 12) (k := 5) (φ := 605) (pc' := 44) C Bh_13 (cw_k Bh_13.2.2 k0) fl_X11_34 rfl rfl rfl t_14 dX11_putOnTape_41 rfl ?_
          refine lv_iconst (v := 1) hx hb dX11_putOnTape_44 (by decide) (hp_n (n := 45) rfl ?_)
          refine lv_iadd hx hb dX11_putOnTape_45 (hp_n (n := 46) rfl (lv_topi (fun x_15 ex_15 => ?_)))
          try have qx_15 : x_15.toInt = x_3.toInt + (1 : Int32).toInt := by have b0 := ib_hi x_3; have c0 := ib_lo x_3; rw [ex_15]; exact ii_add (by omega) (by omega)
          refine q_puti (κ := 12) (k := 5) (φ := 605) (pc' := 49) C Bh_13 (cw_k Bh_13.2.2 k0) fl_X11_34 rfl rfl rfl rfl rfl rfl (cw_sI Bh_13.2.2 (by decide) (fun h => absurd h (by decide))) dX11_putOnTape_46 rfl (fun αh_16 Hh_16 Lh_16 eh_16 Bh_16 => ?_)
          obtain ⟨x_17, ex_17⟩ : ∃ y : Int32, y = v2_h_1 + (-8) := ⟨_, rfl⟩
          try have qx_17 : x_17.toInt = v2_h_1.toInt + ((-8) : Int32).toInt := by have b0 := ib_hi v2_h_1; have c0 := ib_lo v2_h_1; rw [ex_17]; exact ii_add (by omega) (by omega)
          refine lv_iinc (v := x_17) (lv' := [(2, .int x_17), (0, .ref a0), (1, .int a1)]) hx hb dX11_putOnTape_49 hl (k := 2) rfl (by rw [ex_17]; rfl) (by decide) rfl (fun ls hl => hp_n (n := 52) rfl ?_)
          refine lv_goto (tgt := 3) hx hb dX11_putOnTape_52 (by decide) ?_
          have t_18 : x_15 = hp_I αh_16 605 a0 := by rw [eh_16]; exact hp_I_at.symm
          have uu_19 := il_eq t_18
          exact ih3 _ (mu_dn8 hmu3 ex_17 (by omega)) αh_16 Hh_16 Lh_16 Bh_16 x_17 (by omega) (by omega) ls (lv_sub hl [1, 2, 0] rfl) rfl
  refine lv_istore_n (lv' := [(2, .int 24), (0, .ref a0), (1, .int a1)]) hx hb dX11_putOnTape_2 rfl hl (by decide) rfl (fun ls hl => hp_n (n := 3) rfl ?_)
  exact J3 _ α s.heap [] B 24 (by omega) (by omega) ls (lv_sub hl [1, 2, 0] rfl) rfl
abbrev w_X11_feed_F : cw_W := ([605], [], [24], [])
set_option maxRecDepth 100000 in
set_option maxHeartbeats 4000000 in
theorem t_X11_feed_F (Γ : hp_G) (l : Launch) (α : hp_T) (g : GC α) (a0 : Nat) (k0 : hp_K α a0 = 12) (a1 : Int32) (a2 : Int32) (a3 : Int32) (a4 : Int32) (a5 : Int32) (h0 : 0 ≤ (hp_I α 605 a0).toInt) (h1 : (hp_I α 605 a0).toInt ≤ 900) : Met l yX11_feed (hp_ws yX11_feed cX11_feed 6 (some .int)) (hp_rm 1 0 0) (hp_Pc Γ α [.ref a0, .int a1, .int a2, .int a3, .int a4, .int a5]) (hp_Qi Γ (fun r β => cw w_X11_feed_F α β ∧ fd_C (hp_I α 605 a0) r (hp_I β 605 a0))) 0 0 (hp_A Γ) := by
  refine hp_start (by decide) ?_
  intro p e s m below meth c C hr hlk B0 hnm
  have C : hp_C Γ p m c cX11_feed 6 s ([.ref a0, .int a1, .int a2, .int a3, .int a4, .int a5] : List Value).toArray RX11 := C
  have hx := C.1.1
  have hb := C.1.2.1
  have hown := C.1.2.2.2.1
  have hts := C.1.2.2.2.2
  have B : hp_B Γ (cw w_X11_feed_F) s α α s.heap [] := ⟨B0.1, B0.2.1, cw_rf g⟩
  have litm1 : ((-1) : Int32).toInt = (-1) := by decide
  have lit20 : (20 : Int32).toInt = 20 := by decide
  have lit900 : (900 : Int32).toInt = 900 := by decide
  have hl := lv_entry ([.ref a0, .int a1, .int a2, .int a3, .int a4, .int a5]) (n := 6) (Nat.le_of_ble_eq_true rfl)
  show W p l e (hp_rm 1 0 0) s m ([.ref a0, .int a1, .int a2, .int a3, .int a4, .int a5] : List Value).toArray below meth c s.heap [] 0 0 (MQ below (hp_Qi Γ (fun r β => cw w_X11_feed_F α β ∧ fd_C (hp_I α 605 a0) r (hp_I β 605 a0))) ([.ref a0, .int a1, .int a2, .int a3, .int a4, .int a5] : List Value).toArray s 0 0 (hp_A Γ)) (entryFrame m ([.ref a0, .int a1, .int a2, .int a3, .int a4, .int a5] : List Value).toArray 6)
  rw [lg_entry_eq]
  generalize (lg_sl ([.ref a0, .int a1, .int a2, .int a3, .int a4, .int a5]) ++ List.replicate (6 - (lg_sl ([.ref a0, .int a1, .int a2, .int a3, .int a4, .int a5])).length) Slot.unset).toArray = ls at hl ⊢
  have hl : lv_has ls 6 [(0, .ref a0), (1, .int a1), (2, .int a2), (3, .int a3), (4, .int a4), (5, .int a5)] := hl
  refine lv_aload_n hx hb dX11_feed_0 rfl (lv_at hl 0 rfl) (hp_n (n := 1) rfl ?_)
  refine q_geti (κ := 12) (k := 5) (φ := 605) (pc' := 4) C B (cw_k B.2.2 k0) fl_X11_34 rfl rfl rfl dX11_feed_1 rfl (fun x_1 ex_1 => ?_)
  have ix_1 := il_eq ex_1
  refine lv_bipush (v := 20) hx hb dX11_feed_4 (by decide) (hp_n (n := 6) rfl ?_)
  refine lv_iadd hx hb dX11_feed_6 (hp_n (n := 7) rfl (lv_topi (fun x_2 ex_2 => ?_)))
  try have qx_2 : x_2.toInt = x_1.toInt + (20 : Int32).toInt := by have b0 := ib_hi x_1; have c0 := ib_lo x_1; rw [ex_2]; exact ii_add (by omega) (by omega)
  refine lv_sipush (v := 900) hx hb dX11_feed_7 (by decide) (hp_n (n := 10) rfl ?_)
  refine lv_icmp_le (tgt := 15) hx hb dX11_feed_10 (by decide) (fun c_3 => ?_) (fun c_3 => hp_n (n := 13) rfl ?_)
  ·
    have jc_3 := il_le c_3
    refine lv_aload_n hx hb dX11_feed_15 rfl (lv_at hl 0 rfl) (hp_n (n := 16) rfl ?_)
    refine lv_iload_n hx hb dX11_feed_16 rfl (lv_at hl 1 rfl) (hp_n (n := 17) rfl ?_)
    refine q_cv (pc' := 20) B (hp_runV (As := [.int a1]) (rest := []) C B (t_X11_putOnTape_F Γ l α B.2.2.1 a0 (cw_k B.2.2 k0) a1 (by omega) (by omega)) lb_X11_putOnTape lv_X11_putOnTape lk_X11_94 (cw_k B.2.2 k0) rfl (by decide) rfl hl.1 rfl (Nat.le_of_ble_eq_true rfl) dX11_feed_17 ⟨Nat.le_refl _, Nat.le_refl _⟩) (fun _ h => cw_tr B.2.2 h.1 (by decide)) rfl (fun αh_4 Hh_4 Lh_4 ph_4 Bh_4 => ?_)
    have sh_4 := ph_4.2
    refine lv_aload_n hx hb dX11_feed_20 rfl (lv_at hl 0 rfl) (hp_n (n := 21) rfl ?_)
    refine lv_iload_n hx hb dX11_feed_21 rfl (lv_at hl 2 rfl) (hp_n (n := 22) rfl ?_)
    refine q_cv (pc' := 25) Bh_4 (hp_runV (As := [.int a2]) (rest := []) C Bh_4 (t_X11_putOnTape_F Γ l αh_4 Bh_4.2.2.1 a0 (cw_k Bh_4.2.2 k0) a2 (by omega) (by omega)) lb_X11_putOnTape lv_X11_putOnTape lk_X11_94 (cw_k Bh_4.2.2 k0) rfl (by decide) rfl hl.1 rfl (Nat.le_of_ble_eq_true rfl) dX11_feed_22 ⟨Nat.le_refl _, Nat.le_refl _⟩) (fun _ h => cw_tr Bh_4.2.2 h.1 (by decide)) rfl (fun αh_5 Hh_5 Lh_5 ph_5 Bh_5 => ?_)
    have sh_5 := ph_5.2
    refine lv_aload_n hx hb dX11_feed_25 rfl (lv_at hl 0 rfl) (hp_n (n := 26) rfl ?_)
    refine lv_iload_n hx hb dX11_feed_26 rfl (lv_at hl 3 rfl) (hp_n (n := 27) rfl ?_)
    refine q_cv (pc' := 30) Bh_5 (hp_runV (As := [.int a3]) (rest := []) C Bh_5 (t_X11_putOnTape_F Γ l αh_5 Bh_5.2.2.1 a0 (cw_k Bh_5.2.2 k0) a3 (by omega) (by omega)) lb_X11_putOnTape lv_X11_putOnTape lk_X11_94 (cw_k Bh_5.2.2 k0) rfl (by decide) rfl hl.1 rfl (Nat.le_of_ble_eq_true rfl) dX11_feed_27 ⟨Nat.le_refl _, Nat.le_refl _⟩) (fun _ h => cw_tr Bh_5.2.2 h.1 (by decide)) rfl (fun αh_6 Hh_6 Lh_6 ph_6 Bh_6 => ?_)
    have sh_6 := ph_6.2
    refine lv_aload_n hx hb dX11_feed_30 rfl (lv_at hl 0 rfl) (hp_n (n := 31) rfl ?_)
    refine lv_iload hx hb dX11_feed_31 (lv_at hl 4 rfl) (hp_n (n := 33) rfl ?_)
    refine q_cv (pc' := 36) Bh_6 (hp_runV (As := [.int a4]) (rest := []) C Bh_6 (t_X11_putOnTape_F Γ l αh_6 Bh_6.2.2.1 a0 (cw_k Bh_6.2.2 k0) a4 (by omega) (by omega)) lb_X11_putOnTape lv_X11_putOnTape lk_X11_94 (cw_k Bh_6.2.2 k0) rfl (by decide) rfl hl.1 rfl (Nat.le_of_ble_eq_true rfl) dX11_feed_33 ⟨Nat.le_refl _, Nat.le_refl _⟩) (fun _ h => cw_tr Bh_6.2.2 h.1 (by decide)) rfl (fun αh_7 Hh_7 Lh_7 ph_7 Bh_7 => ?_)
    have sh_7 := ph_7.2
    refine lv_aload_n hx hb dX11_feed_36 rfl (lv_at hl 0 rfl) (hp_n (n := 37) rfl ?_)
    refine lv_iload hx hb dX11_feed_37 (lv_at hl 5 rfl) (hp_n (n := 39) rfl ?_)
    refine q_cv (pc' := 42) Bh_7 (hp_runV (As := [.int a5]) (rest := []) C Bh_7 (t_X11_putOnTape_F Γ l αh_7 Bh_7.2.2.1 a0 (cw_k Bh_7.2.2 k0) a5 (by omega) (by omega)) lb_X11_putOnTape lv_X11_putOnTape lk_X11_94 (cw_k Bh_7.2.2 k0) rfl (by decide) rfl hl.1 rfl (Nat.le_of_ble_eq_true rfl) dX11_feed_39 ⟨Nat.le_refl _, Nat.le_refl _⟩) (fun _ h => cw_tr Bh_7.2.2 h.1 (by decide)) rfl (fun αh_8 Hh_8 Lh_8 ph_8 Bh_8 => ?_)
    have sh_8 := ph_8.2
    refine lv_aload_n hx hb dX11_feed_42 rfl (lv_at hl 0 rfl) (hp_n (n := 43) rfl ?_)
    refine q_geti (κ := 12) (k := 5) (φ := 605) (pc' := 46) C Bh_8 (cw_k Bh_8.2.2 k0) fl_X11_34 rfl rfl rfl dX11_feed_43 rfl (fun x_9 ex_9 => ?_)
    have ix_9 := il_eq ex_9
    have uR := il_eq ex_9
    exact q_iret C Bh_8 hr hlk (by first | exact ⟨Bh_8.2.2, Or.inl ⟨by omega, rfl, rfl⟩⟩ | exact ⟨Bh_8.2.2, Or.inr ⟨by omega, ex_9, by omega⟩⟩) dX11_feed_46
  ·
    have jc_3 := il_nle c_3
    refine lv_iconst (v := (-1)) hx hb dX11_feed_13 (by decide) (hp_n (n := 14) rfl ?_)
    have uR := il_eq ex_1
    exact q_iret C B hr hlk (by first | exact ⟨B.2.2, Or.inl ⟨by omega, rfl, rfl⟩⟩ | exact ⟨B.2.2, Or.inr ⟨by omega, ex_1, by omega⟩⟩) dX11_feed_14
abbrev w_X11_load_F : cw_W := ([100, 101, 102, 103, 152, 204, 205, 206, 208, 209, 301, 351, 352, 353, 354, 355, 356, 400, 401, 402, 403, 453, 454, 501, 550, 552, 554, 556, 600, 605], [350, 601, 602], [20, 21, 22, 23, 27, 29, 33], [])
set_option maxRecDepth 100000 in
set_option maxHeartbeats 4000000 in
theorem t_X11_load_F (Γ : hp_G) (l : Launch) (α : hp_T) (g : GC α) (a0 : Nat) (k0 : hp_K α a0 = 12) (a1 : Int32) : Met l yX11_load (hp_ws yX11_load cX11_load 4 (some .int)) (hp_rm 8 0 0) (hp_Pc Γ α [.ref a0, .int a1]) (hp_Qi Γ (fun r β => cw w_X11_load_F α β ∧ ld_C (hp_I α 605 a0) a1 (hp_I β 605 a0))) 0 0 (hp_A Γ) := by
  refine hp_start (by decide) ?_
  intro p e s m below meth c C hr hlk B0 hnm
  have C : hp_C Γ p m c cX11_load 4 s ([.ref a0, .int a1] : List Value).toArray RX11 := C
  have hx := C.1.1
  have hb := C.1.2.1
  have hown := C.1.2.2.2.1
  have hts := C.1.2.2.2.2
  have B : hp_B Γ (cw w_X11_load_F) s α α s.heap [] := ⟨B0.1, B0.2.1, cw_rf g⟩
  have lit0 : (0 : Int32).toInt = 0 := by decide
  have lit1 : (1 : Int32).toInt = 1 := by decide
  have lit9 : (9 : Int32).toInt = 9 := by decide
  have hl := lv_entry ([.ref a0, .int a1]) (n := 4) (Nat.le_of_ble_eq_true rfl)
  show W p l e (hp_rm 8 0 0) s m ([.ref a0, .int a1] : List Value).toArray below meth c s.heap [] 0 0 (MQ below (hp_Qi Γ (fun r β => cw w_X11_load_F α β ∧ ld_C (hp_I α 605 a0) a1 (hp_I β 605 a0))) ([.ref a0, .int a1] : List Value).toArray s 0 0 (hp_A Γ)) (entryFrame m ([.ref a0, .int a1] : List Value).toArray 4)
  rw [lg_entry_eq]
  generalize (lg_sl ([.ref a0, .int a1]) ++ List.replicate (4 - (lg_sl ([.ref a0, .int a1])).length) Slot.unset).toArray = ls at hl ⊢
  have hl : lv_has ls 4 [(0, .ref a0), (1, .int a1)] := hl
  obtain ⟨c0, ec0⟩ : ∃ q : Int32, q = hp_I α 605 a0 := ⟨_, rfl⟩
  have ic0 := il_eq ec0
  refine lv_iload_n hx hb dX11_load_0 rfl (lv_at hl 1 rfl) (hp_n (n := 1) rfl ?_)
  refine lv_if_lt (tgt := 12) hx hb dX11_load_1 (by decide) (fun c_1 => ?_) (fun c_1 => hp_n (n := 4) rfl ?_)
  ·
    have jc_1 := il_lt c_1
    refine lv_aload_n hx hb dX11_load_12 rfl (lv_at hl 0 rfl) (hp_n (n := 13) rfl ?_)
    refine lv_iconst (v := 1) hx hb dX11_load_13 (by decide) (hp_n (n := 14) rfl ?_)
    refine q_ci (pc' := 17) B (hp_runV (As := [.int 1]) (rest := []) C B (t_X11_refuse Γ l α B.2.2.1 a0 (cw_k B.2.2 k0) 1) lb_X11_refuse lv_X11_refuse lk_X11_98 (cw_k B.2.2 k0) rfl (by decide) rfl hl.1 rfl (Nat.le_of_ble_eq_true rfl) dX11_load_14 ⟨Nat.le_refl _, Nat.le_refl _⟩) (fun _ _ h => cw_tr B.2.2 h (by decide)) rfl (fun rh_2 αh_2 Hh_2 Lh_2 ph_2 Bh_2 => ?_)
    have t_3 : c0 = hp_I αh_2 605 a0 := by rw [cw_I ph_2 a0 (by decide)]; exact ec0
    have uR := il_eq t_3
    exact q_iret C Bh_2 hr hlk (by first | exact ⟨Bh_2.2.2, Or.inl ⟨by omega, by rw [← t_3]; exact ec0⟩⟩ | exact ⟨Bh_2.2.2, Or.inr ⟨by omega, (t_3).symm⟩⟩) dX11_load_17
  ·
    have jc_1 := il_nlt c_1
    refine lv_iload_n hx hb dX11_load_4 rfl (lv_at hl 1 rfl) (hp_n (n := 5) rfl ?_)
    refine lv_aload_n hx hb dX11_load_5 rfl (lv_at hl 0 rfl) (hp_n (n := 6) rfl ?_)
    refine q_getj (κ := 12) (k := 5) (φ := 605) (pc' := 9) C B (cw_k B.2.2 k0) fl_X11_34 rfl rfl rfl ec0 dX11_load_6 rfl ?_
    refine lv_icmp_le (tgt := 18) hx hb dX11_load_9 (by decide) (fun c_4 => ?_) (fun c_4 => hp_n (n := 12) rfl ?_)
    ·
      have jc_4 := il_le c_4
      refine lv_aload_n hx hb dX11_load_18 rfl (lv_at hl 0 rfl) (hp_n (n := 19) rfl ?_)
      refine q_getr (κ := 12) (k := 2) (φ := 602) (pc' := 22) C B (cw_k B.2.2 k0) fl_X11_20 rfl rfl rfl (cw_r B.2.2 k0 rfl rfl (by decide) (by decide)) dX11_load_19 rfl (fun b_5 eb_5 kb_5 => ?_)
      refine q_cv (pc' := 25) B (hp_runV (As := []) (rest := []) C B (t_X10_renew Γ l α B.2.2.1 b_5 (cw_k B.2.2 kb_5)) lb_X10_renew lv_X10_renew lk_X11_102 (cw_k B.2.2 kb_5) rfl (by decide) rfl hl.1 rfl (Nat.le_of_ble_eq_true rfl) dX11_load_22 ⟨Nat.le_refl _, Nat.le_refl _⟩) (fun _ h => cw_tr B.2.2 h (by decide)) rfl (fun αh_6 Hh_6 Lh_6 ph_6 Bh_6 => ?_)
      refine lv_aload_n hx hb dX11_load_25 rfl (lv_at hl 0 rfl) (hp_n (n := 26) rfl ?_)
      refine lv_iload_n hx hb dX11_load_26 rfl (lv_at hl 1 rfl) (hp_n (n := 27) rfl ?_)
      refine q_ci (pc' := 30) Bh_6 (hp_runV (As := [.int a1]) (rest := []) C Bh_6 (t_X11_loadLines Γ l αh_6 Bh_6.2.2.1 a0 (cw_k Bh_6.2.2 k0) a1) lb_X11_loadLines lv_X11_loadLines lk_X11_105 (cw_k Bh_6.2.2 k0) rfl (by decide) rfl hl.1 rfl (Nat.le_of_ble_eq_true rfl) dX11_load_27 ⟨Nat.le_refl _, Nat.le_refl _⟩) (fun _ _ h => cw_tr Bh_6.2.2 h.1 (by decide)) rfl (fun rh_7 αh_7 Hh_7 Lh_7 ph_7 Bh_7 => ?_)
      have zh_7 := ph_7.2
      refine lv_istore_n (lv' := [(2, .int rh_7), (0, .ref a0), (1, .int a1)]) hx hb dX11_load_30 rfl hl (by decide) rfl (fun ls hl => hp_n (n := 31) rfl ?_)
      refine lv_aload_n hx hb dX11_load_31 rfl (lv_at hl 1 rfl) (hp_n (n := 32) rfl ?_)
      refine lv_iconst (v := 0) hx hb dX11_load_32 (by decide) (hp_n (n := 33) rfl ?_)
      refine q_puti (κ := 12) (k := 5) (φ := 605) (pc' := 36) C Bh_7 (cw_k Bh_7.2.2 k0) fl_X11_34 rfl rfl rfl rfl rfl rfl (cw_sI Bh_7.2.2 (by decide) (fun h => absurd h (by decide))) dX11_load_33 rfl (fun αh_8 Hh_8 Lh_8 eh_8 Bh_8 => ?_)
      refine lv_iload_n hx hb dX11_load_36 rfl (lv_at hl 0 rfl) (hp_n (n := 37) rfl ?_)
      refine lv_if_ne (tgt := 47) hx hb dX11_load_37 (by decide) (fun c_9 => ?_) (fun c_9 => hp_n (n := 40) rfl ?_)
      ·
        have jc_9 := il_ne c_9
        refine lv_aload_n hx hb dX11_load_47 rfl (lv_at hl 1 rfl) (hp_n (n := 48) rfl ?_)
        refine q_getr (κ := 12) (k := 1) (φ := 601) (pc' := 51) C Bh_8 (cw_k Bh_8.2.2 k0) fl_X11_16 rfl rfl rfl (cw_r Bh_8.2.2 k0 rfl rfl (by decide) (by decide)) dX11_load_48 rfl (fun b_10 eb_10 kb_10 => ?_)
        refine lv_astore_n (lv' := [(3, .ref b_10), (2, .int rh_7), (0, .ref a0), (1, .int a1)]) hx hb dX11_load_51 rfl hl (by decide) rfl (fun ls hl => hp_n (n := 52) rfl ?_)
        refine lv_aload_n hx hb dX11_load_52 rfl (lv_at hl 2 rfl) (hp_n (n := 53) rfl ?_)
        refine lv_aload_n hx hb dX11_load_53 rfl (lv_at hl 2 rfl) (hp_n (n := 54) rfl ?_)
        have t_11 : b_5 = hp_R αh_6 602 a0 := by rw [cw_R ph_6 a0 (by decide)]; exact eb_5
        have t_12 : b_5 = hp_R αh_7 602 a0 := by rw [cw_R ph_7.1 a0 (by decide)]; exact t_11
        have t_13 : b_5 = hp_R αh_8 602 a0 := by rw [eh_8]; exact t_12
        refine q_gets (κ := 12) (k := 2) (φ := 602) (pc' := 57) C Bh_8 (cw_k Bh_8.2.2 k0) fl_X11_20 rfl rfl rfl t_13 dX11_load_54 rfl ?_
        refine q_putr (κ := 12) (k := 1) (φ := 601) (pc' := 60) C Bh_8 (cw_k Bh_8.2.2 k0) fl_X11_16 rfl rfl rfl rfl rfl rfl (cw_sR Bh_8.2.2 (by decide) (Or.inl kb_5)) dX11_load_57 rfl (fun αh_14 Hh_14 Lh_14 eh_14 Bh_14 => ?_)
        refine lv_aload_n hx hb dX11_load_60 rfl (lv_at hl 2 rfl) (hp_n (n := 61) rfl ?_)
        refine lv_aload_n hx hb dX11_load_61 rfl (lv_at hl 0 rfl) (hp_n (n := 62) rfl ?_)
        refine q_putr (κ := 12) (k := 2) (φ := 602) (pc' := 65) C Bh_14 (cw_k Bh_14.2.2 k0) fl_X11_20 rfl rfl rfl rfl rfl rfl (cw_sR Bh_14.2.2 (by decide) (Or.inl kb_10)) dX11_load_62 rfl (fun αh_15 Hh_15 Lh_15 eh_15 Bh_15 => ?_)
        refine lv_aload_n hx hb dX11_load_65 rfl (lv_at hl 2 rfl) (hp_n (n := 66) rfl ?_)
        refine q_getr (κ := 12) (k := 3) (φ := 603) (pc' := 69) C Bh_15 (cw_k Bh_15.2.2 k0) fl_X11_26 rfl rfl rfl (cw_r Bh_15.2.2 k0 rfl rfl (by decide) (by decide)) dX11_load_66 rfl (fun b_16 eb_16 kb_16 => ?_)
        refine lv_iconst (v := 0) hx hb dX11_load_69 (by decide) (hp_n (n := 70) rfl ?_)
        refine q_cv (pc' := 73) Bh_15 (hp_runV (As := [.int 0]) (rest := []) C Bh_15 (t_X5_shorten Γ l αh_15 Bh_15.2.2.1 b_16 (cw_k Bh_15.2.2 kb_16) 0) lb_X5_shorten lv_X5_shorten lk_X11_109 (cw_k Bh_15.2.2 kb_16) rfl (by decide) rfl hl.1 rfl (Nat.le_of_ble_eq_true rfl) dX11_load_70 ⟨Nat.le_refl _, Nat.le_refl _⟩) (fun _ h => cw_tr Bh_15.2.2 h (by decide)) rfl (fun αh_17 Hh_17 Lh_17 ph_17 Bh_17 => ?_)
        refine lv_aload_n hx hb dX11_load_73 rfl (lv_at hl 2 rfl) (hp_n (n := 74) rfl ?_)
        refine lv_aload_n hx hb dX11_load_74 rfl (lv_at hl 2 rfl) (hp_n (n := 75) rfl ?_)
        refine q_getr (κ := 12) (k := 1) (φ := 601) (pc' := 78) C Bh_17 (cw_k Bh_17.2.2 k0) fl_X11_16 rfl rfl rfl (cw_r Bh_17.2.2 k0 rfl rfl (by decide) (by decide)) dX11_load_75 rfl (fun b_18 eb_18 kb_18 => ?_)
        refine q_geti (κ := 11) (k := 2) (φ := 552) (pc' := 81) C Bh_17 (cw_k Bh_17.2.2 kb_18) fl_X11_112 rfl rfl rfl dX11_load_78 rfl (fun x_19 ex_19 => ?_)
        refine q_ci (pc' := 84) Bh_17 (hp_runV (As := [.int x_19]) (rest := []) C Bh_17 (t_X11_answer Γ l αh_17 Bh_17.2.2.1 a0 (cw_k Bh_17.2.2 k0) x_19) lb_X11_answer lv_X11_answer lk_X11_115 (cw_k Bh_17.2.2 k0) rfl (by decide) rfl hl.1 rfl (Nat.le_of_ble_eq_true rfl) dX11_load_81 ⟨Nat.le_refl _, Nat.le_refl _⟩) (fun _ _ h => cw_tr Bh_17.2.2 h (by decide)) rfl (fun rh_20 αh_20 Hh_20 Lh_20 ph_20 Bh_20 => ?_)
        have t_21 : 0 = hp_I αh_8 605 a0 := by rw [eh_8]; exact hp_I_at.symm
        have t_22 : 0 = hp_I αh_14 605 a0 := by rw [eh_14]; exact t_21
        have t_23 : 0 = hp_I αh_15 605 a0 := by rw [eh_15]; exact t_22
        have t_24 : 0 = hp_I αh_17 605 a0 := by rw [cw_I ph_17 a0 (by decide)]; exact t_23
        have t_25 : 0 = hp_I αh_20 605 a0 := by rw [cw_I ph_20 a0 (by decide)]; exact t_24
        have uR := il_eq t_25
        exact q_iret C Bh_20 hr hlk (by first | exact ⟨Bh_20.2.2, Or.inl ⟨by omega, by rw [← t_25]; exact ec0⟩⟩ | exact ⟨Bh_20.2.2, Or.inr ⟨by omega, (t_25).symm⟩⟩) dX11_load_84
      ·
        have jc_9 := il_eq c_9
        refine lv_aload_n hx hb dX11_load_40 rfl (lv_at hl 1 rfl) (hp_n (n := 41) rfl ?_)
        refine lv_bipush (v := 9) hx hb dX11_load_41 (by decide) (hp_n (n := 43) rfl ?_)
        refine q_ci (pc' := 46) Bh_8 (hp_runV (As := [.int 9]) (rest := []) C Bh_8 (t_X11_refuse Γ l αh_8 Bh_8.2.2.1 a0 (cw_k Bh_8.2.2 k0) 9) lb_X11_refuse lv_X11_refuse lk_X11_98 (cw_k Bh_8.2.2 k0) rfl (by decide) rfl hl.1 rfl (Nat.le_of_ble_eq_true rfl) dX11_load_43 ⟨Nat.le_refl _, Nat.le_refl _⟩) (fun _ _ h => cw_tr Bh_8.2.2 h (by decide)) rfl (fun rh_26 αh_26 Hh_26 Lh_26 ph_26 Bh_26 => ?_)
        have t_27 : 0 = hp_I αh_8 605 a0 := by rw [eh_8]; exact hp_I_at.symm
        have t_28 : 0 = hp_I αh_26 605 a0 := by rw [cw_I ph_26 a0 (by decide)]; exact t_27
        have uR := il_eq t_28
        exact q_iret C Bh_26 hr hlk (by first | exact ⟨Bh_26.2.2, Or.inl ⟨by omega, by rw [← t_28]; exact ec0⟩⟩ | exact ⟨Bh_26.2.2, Or.inr ⟨by omega, (t_28).symm⟩⟩) dX11_load_46
    ·
      have jc_4 := il_nle c_4
      refine lv_aload_n hx hb dX11_load_12 rfl (lv_at hl 0 rfl) (hp_n (n := 13) rfl ?_)
      refine lv_iconst (v := 1) hx hb dX11_load_13 (by decide) (hp_n (n := 14) rfl ?_)
      refine q_ci (pc' := 17) B (hp_runV (As := [.int 1]) (rest := []) C B (t_X11_refuse Γ l α B.2.2.1 a0 (cw_k B.2.2 k0) 1) lb_X11_refuse lv_X11_refuse lk_X11_98 (cw_k B.2.2 k0) rfl (by decide) rfl hl.1 rfl (Nat.le_of_ble_eq_true rfl) dX11_load_14 ⟨Nat.le_refl _, Nat.le_refl _⟩) (fun _ _ h => cw_tr B.2.2 h (by decide)) rfl (fun rh_29 αh_29 Hh_29 Lh_29 ph_29 Bh_29 => ?_)
      have t_30 : c0 = hp_I αh_29 605 a0 := by rw [cw_I ph_29 a0 (by decide)]; exact ec0
      have uR := il_eq t_30
      exact q_iret C Bh_29 hr hlk (by first | exact ⟨Bh_29.2.2, Or.inl ⟨by omega, by rw [← t_30]; exact ec0⟩⟩ | exact ⟨Bh_29.2.2, Or.inr ⟨by omega, (t_30).symm⟩⟩) dX11_load_17
abbrev w_X11_hear_F : cw_W := ([203, 204, 205, 209, 301, 351, 352, 353, 354, 355, 356, 453, 454, 600, 605], [350, 608, 609], [20, 21, 22, 23], [])
set_option maxRecDepth 100000 in
set_option maxHeartbeats 4000000 in
theorem t_X11_hear_F (Γ : hp_G) (l : Launch) (α : hp_T) (g : GC α) (a0 : Nat) (k0 : hp_K α a0 = 12) (a1 : Int32) : Met l yX11_hear (hp_ws yX11_hear cX11_hear 4 (some .int)) (hp_rm 9 0 0) (hp_Pc Γ α [.ref a0, .int a1]) (hp_Qi Γ (fun r β => cw w_X11_hear_F α β ∧ ld_C (hp_I α 605 a0) a1 (hp_I β 605 a0))) 0 0 (hp_A Γ) := by
  refine hp_start (by decide) ?_
  intro p e s m below meth c C hr hlk B0 hnm
  have C : hp_C Γ p m c cX11_hear 4 s ([.ref a0, .int a1] : List Value).toArray RX11 := C
  have hx := C.1.1
  have hb := C.1.2.1
  have hown := C.1.2.2.2.1
  have hts := C.1.2.2.2.2
  have B : hp_B Γ (cw w_X11_hear_F) s α α s.heap [] := ⟨B0.1, B0.2.1, cw_rf g⟩
  have lit0 : (0 : Int32).toInt = 0 := by decide
  have lit1 : (1 : Int32).toInt = 1 := by decide
  have lit9 : (9 : Int32).toInt = 9 := by decide
  have hl := lv_entry ([.ref a0, .int a1]) (n := 4) (Nat.le_of_ble_eq_true rfl)
  show W p l e (hp_rm 9 0 0) s m ([.ref a0, .int a1] : List Value).toArray below meth c s.heap [] 0 0 (MQ below (hp_Qi Γ (fun r β => cw w_X11_hear_F α β ∧ ld_C (hp_I α 605 a0) a1 (hp_I β 605 a0))) ([.ref a0, .int a1] : List Value).toArray s 0 0 (hp_A Γ)) (entryFrame m ([.ref a0, .int a1] : List Value).toArray 4)
  rw [lg_entry_eq]
  generalize (lg_sl ([.ref a0, .int a1]) ++ List.replicate (4 - (lg_sl ([.ref a0, .int a1])).length) Slot.unset).toArray = ls at hl ⊢
  have hl : lv_has ls 4 [(0, .ref a0), (1, .int a1)] := hl
  obtain ⟨c0, ec0⟩ : ∃ q : Int32, q = hp_I α 605 a0 := ⟨_, rfl⟩
  have ic0 := il_eq ec0
  refine lv_iload_n hx hb dX11_hear_0 rfl (lv_at hl 1 rfl) (hp_n (n := 1) rfl ?_)
  refine lv_if_lt (tgt := 12) hx hb dX11_hear_1 (by decide) (fun c_1 => ?_) (fun c_1 => hp_n (n := 4) rfl ?_)
  ·
    have jc_1 := il_lt c_1
    refine lv_aload_n hx hb dX11_hear_12 rfl (lv_at hl 0 rfl) (hp_n (n := 13) rfl ?_)
    refine lv_iconst (v := 1) hx hb dX11_hear_13 (by decide) (hp_n (n := 14) rfl ?_)
    refine q_ci (pc' := 17) B (hp_runV (As := [.int 1]) (rest := []) C B (t_X11_refuse Γ l α B.2.2.1 a0 (cw_k B.2.2 k0) 1) lb_X11_refuse lv_X11_refuse lk_X11_98 (cw_k B.2.2 k0) rfl (by decide) rfl hl.1 rfl (Nat.le_of_ble_eq_true rfl) dX11_hear_14 ⟨Nat.le_refl _, Nat.le_refl _⟩) (fun _ _ h => cw_tr B.2.2 h (by decide)) rfl (fun rh_2 αh_2 Hh_2 Lh_2 ph_2 Bh_2 => ?_)
    have t_3 : c0 = hp_I αh_2 605 a0 := by rw [cw_I ph_2 a0 (by decide)]; exact ec0
    have uR := il_eq t_3
    exact q_iret C Bh_2 hr hlk (by first | exact ⟨Bh_2.2.2, Or.inl ⟨by omega, by rw [← t_3]; exact ec0⟩⟩ | exact ⟨Bh_2.2.2, Or.inr ⟨by omega, (t_3).symm⟩⟩) dX11_hear_17
  ·
    have jc_1 := il_nlt c_1
    refine lv_iload_n hx hb dX11_hear_4 rfl (lv_at hl 1 rfl) (hp_n (n := 5) rfl ?_)
    refine lv_aload_n hx hb dX11_hear_5 rfl (lv_at hl 0 rfl) (hp_n (n := 6) rfl ?_)
    refine q_getj (κ := 12) (k := 5) (φ := 605) (pc' := 9) C B (cw_k B.2.2 k0) fl_X11_34 rfl rfl rfl ec0 dX11_hear_6 rfl ?_
    refine lv_icmp_le (tgt := 18) hx hb dX11_hear_9 (by decide) (fun c_4 => ?_) (fun c_4 => hp_n (n := 12) rfl ?_)
    ·
      have jc_4 := il_le c_4
      refine lv_aload_n hx hb dX11_hear_18 rfl (lv_at hl 0 rfl) (hp_n (n := 19) rfl ?_)
      refine q_getr (κ := 12) (k := 16) (φ := 616) (pc' := 22) C B (cw_k B.2.2 k0) fl_X11_82 rfl rfl rfl (cw_r B.2.2 k0 rfl rfl (by decide) (by decide)) dX11_hear_19 rfl (fun b_5 eb_5 kb_5 => ?_)
      refine lv_aload_n hx hb dX11_hear_22 rfl (lv_at hl 0 rfl) (hp_n (n := 23) rfl ?_)
      refine q_getr (κ := 12) (k := 4) (φ := 604) (pc' := 26) C B (cw_k B.2.2 k0) fl_X11_30 rfl rfl rfl (cw_r B.2.2 k0 rfl rfl (by decide) (by decide)) dX11_hear_23 rfl (fun b_6 eb_6 kb_6 => ?_)
      refine lv_iload_n hx hb dX11_hear_26 rfl (lv_at hl 1 rfl) (hp_n (n := 27) rfl ?_)
      refine q_cv (pc' := 30) B (hp_runV (As := [.ref b_6, .int a1]) (rest := []) C B (t_X3_begin Γ l α B.2.2.1 b_5 (cw_k B.2.2 kb_5) b_6 (cw_k B.2.2 kb_6) a1) lb_X3_begin lv_X3_begin lk_X11_118 (cw_k B.2.2 kb_5) rfl (by decide) rfl hl.1 rfl (Nat.le_of_ble_eq_true rfl) dX11_hear_27 ⟨Nat.le_refl _, Nat.le_refl _⟩) (fun _ h => cw_tr B.2.2 h (by decide)) rfl (fun αh_7 Hh_7 Lh_7 ph_7 Bh_7 => ?_)
      refine lv_aload_n hx hb dX11_hear_30 rfl (lv_at hl 0 rfl) (hp_n (n := 31) rfl ?_)
      have t_8 : b_5 = hp_R αh_7 616 a0 := by rw [cw_R ph_7 a0 (by decide)]; exact eb_5
      refine q_gets (κ := 12) (k := 16) (φ := 616) (pc' := 34) C Bh_7 (cw_k Bh_7.2.2 k0) fl_X11_82 rfl rfl rfl t_8 dX11_hear_31 rfl ?_
      refine lv_aload_n hx hb dX11_hear_34 rfl (lv_at hl 0 rfl) (hp_n (n := 35) rfl ?_)
      refine q_getr (κ := 12) (k := 1) (φ := 601) (pc' := 38) C Bh_7 (cw_k Bh_7.2.2 k0) fl_X11_16 rfl rfl rfl (cw_r Bh_7.2.2 k0 rfl rfl (by decide) (by decide)) dX11_hear_35 rfl (fun b_9 eb_9 kb_9 => ?_)
      refine q_geti (κ := 11) (k := 0) (φ := 550) (pc' := 41) C Bh_7 (cw_k Bh_7.2.2 kb_9) fl_X11_122 rfl rfl rfl dX11_hear_38 rfl (fun x_10 ex_10 => ?_)
      refine lv_aload_n hx hb dX11_hear_41 rfl (lv_at hl 0 rfl) (hp_n (n := 42) rfl ?_)
      refine q_getr (κ := 12) (k := 9) (φ := 609) (pc' := 45) C Bh_7 (cw_k Bh_7.2.2 k0) fl_X11_50 rfl rfl rfl (cw_r Bh_7.2.2 k0 rfl rfl (by decide) (by decide)) dX11_hear_42 rfl (fun b_11 eb_11 kb_11 => ?_)
      refine q_ci (pc' := 48) Bh_7 (hp_runV (As := [.int x_10, .ref b_11]) (rest := []) C Bh_7 (t_X3_readProofs Γ l αh_7 Bh_7.2.2.1 b_5 (cw_k Bh_7.2.2 kb_5) x_10 b_11 (cw_k Bh_7.2.2 kb_11)) lb_X3_readProofs lv_X3_readProofs lk_X11_125 (cw_k Bh_7.2.2 kb_5) rfl (by decide) rfl hl.1 rfl (Nat.le_of_ble_eq_true rfl) dX11_hear_45 ⟨Nat.le_refl _, Nat.le_refl _⟩) (fun _ _ h => cw_tr Bh_7.2.2 h.1 (by decide)) rfl (fun rh_12 αh_12 Hh_12 Lh_12 ph_12 Bh_12 => ?_)
      have zh_12 := ph_12.2
      refine lv_istore_n (lv' := [(2, .int rh_12), (0, .ref a0), (1, .int a1)]) hx hb dX11_hear_48 rfl hl (by decide) rfl (fun ls hl => hp_n (n := 49) rfl ?_)
      refine lv_aload_n hx hb dX11_hear_49 rfl (lv_at hl 1 rfl) (hp_n (n := 50) rfl ?_)
      refine lv_iconst (v := 0) hx hb dX11_hear_50 (by decide) (hp_n (n := 51) rfl ?_)
      refine q_puti (κ := 12) (k := 5) (φ := 605) (pc' := 54) C Bh_12 (cw_k Bh_12.2.2 k0) fl_X11_34 rfl rfl rfl rfl rfl rfl (cw_sI Bh_12.2.2 (by decide) (fun h => absurd h (by decide))) dX11_hear_51 rfl (fun αh_13 Hh_13 Lh_13 eh_13 Bh_13 => ?_)
      refine lv_iload_n hx hb dX11_hear_54 rfl (lv_at hl 0 rfl) (hp_n (n := 55) rfl ?_)
      refine lv_if_ne (tgt := 65) hx hb dX11_hear_55 (by decide) (fun c_14 => ?_) (fun c_14 => hp_n (n := 58) rfl ?_)
      ·
        have jc_14 := il_ne c_14
        refine lv_aload_n hx hb dX11_hear_65 rfl (lv_at hl 1 rfl) (hp_n (n := 66) rfl ?_)
        refine q_getr (κ := 12) (k := 8) (φ := 608) (pc' := 69) C Bh_13 (cw_k Bh_13.2.2 k0) fl_X11_47 rfl rfl rfl (cw_r Bh_13.2.2 k0 rfl rfl (by decide) (by decide)) dX11_hear_66 rfl (fun b_15 eb_15 kb_15 => ?_)
        refine lv_astore_n (lv' := [(3, .ref b_15), (2, .int rh_12), (0, .ref a0), (1, .int a1)]) hx hb dX11_hear_69 rfl hl (by decide) rfl (fun ls hl => hp_n (n := 70) rfl ?_)
        refine lv_aload_n hx hb dX11_hear_70 rfl (lv_at hl 2 rfl) (hp_n (n := 71) rfl ?_)
        refine lv_aload_n hx hb dX11_hear_71 rfl (lv_at hl 2 rfl) (hp_n (n := 72) rfl ?_)
        have t_16 : b_11 = hp_R αh_12 609 a0 := by rw [cw_R ph_12.1 a0 (by decide)]; exact eb_11
        have t_17 : b_11 = hp_R αh_13 609 a0 := by rw [eh_13]; exact t_16
        refine q_gets (κ := 12) (k := 9) (φ := 609) (pc' := 75) C Bh_13 (cw_k Bh_13.2.2 k0) fl_X11_50 rfl rfl rfl t_17 dX11_hear_72 rfl ?_
        refine q_putr (κ := 12) (k := 8) (φ := 608) (pc' := 78) C Bh_13 (cw_k Bh_13.2.2 k0) fl_X11_47 rfl rfl rfl rfl rfl rfl (cw_sR Bh_13.2.2 (by decide) (Or.inl kb_11)) dX11_hear_75 rfl (fun αh_18 Hh_18 Lh_18 eh_18 Bh_18 => ?_)
        refine lv_aload_n hx hb dX11_hear_78 rfl (lv_at hl 2 rfl) (hp_n (n := 79) rfl ?_)
        refine lv_aload_n hx hb dX11_hear_79 rfl (lv_at hl 0 rfl) (hp_n (n := 80) rfl ?_)
        refine q_putr (κ := 12) (k := 9) (φ := 609) (pc' := 83) C Bh_18 (cw_k Bh_18.2.2 k0) fl_X11_50 rfl rfl rfl rfl rfl rfl (cw_sR Bh_18.2.2 (by decide) (Or.inl kb_15)) dX11_hear_80 rfl (fun αh_19 Hh_19 Lh_19 eh_19 Bh_19 => ?_)
        refine lv_aload_n hx hb dX11_hear_83 rfl (lv_at hl 2 rfl) (hp_n (n := 84) rfl ?_)
        refine lv_aload_n hx hb dX11_hear_84 rfl (lv_at hl 2 rfl) (hp_n (n := 85) rfl ?_)
        refine q_getr (κ := 12) (k := 8) (φ := 608) (pc' := 88) C Bh_19 (cw_k Bh_19.2.2 k0) fl_X11_47 rfl rfl rfl (cw_r Bh_19.2.2 k0 rfl rfl (by decide) (by decide)) dX11_hear_85 rfl (fun b_20 eb_20 kb_20 => ?_)
        refine lv_iconst (v := 0) hx hb dX11_hear_88 (by decide) (hp_n (n := 89) rfl ?_)
        refine q_ci (pc' := 92) Bh_19 (hp_runV (As := [.int 0]) (rest := [.ref a0]) C Bh_19 (t_X5_countOf Γ l αh_19 Bh_19.2.2.1 b_20 (cw_k Bh_19.2.2 kb_20) 0) lb_X5_countOf lv_X5_countOf lk_X11_129 (cw_k Bh_19.2.2 kb_20) rfl (by decide) rfl hl.1 rfl (Nat.le_of_ble_eq_true rfl) dX11_hear_89 ⟨Nat.le_refl _, Nat.le_refl _⟩) (fun _ _ h => by rw [h]; exact Bh_19.2.2) rfl (fun rh_21 αh_21 Hh_21 Lh_21 ph_21 Bh_21 => ?_)
        rw [ph_21] at Bh_21
        refine q_ci (pc' := 95) Bh_21 (hp_runV (As := [.int rh_21]) (rest := []) C Bh_21 (t_X11_answer Γ l αh_19 Bh_21.2.2.1 a0 (cw_k Bh_21.2.2 k0) rh_21) lb_X11_answer lv_X11_answer lk_X11_115 (cw_k Bh_21.2.2 k0) rfl (by decide) rfl hl.1 rfl (Nat.le_of_ble_eq_true rfl) dX11_hear_92 ⟨Nat.le_refl _, Nat.le_refl _⟩) (fun _ _ h => cw_tr Bh_21.2.2 h (by decide)) rfl (fun rh_22 αh_22 Hh_22 Lh_22 ph_22 Bh_22 => ?_)
        have t_23 : 0 = hp_I αh_13 605 a0 := by rw [eh_13]; exact hp_I_at.symm
        have t_24 : 0 = hp_I αh_18 605 a0 := by rw [eh_18]; exact t_23
        have t_25 : 0 = hp_I αh_19 605 a0 := by rw [eh_19]; exact t_24
        have t_26 : 0 = hp_I αh_22 605 a0 := by rw [cw_I ph_22 a0 (by decide)]; exact t_25
        have uR := il_eq t_26
        exact q_iret C Bh_22 hr hlk (by first | exact ⟨Bh_22.2.2, Or.inl ⟨by omega, by rw [← t_26]; exact ec0⟩⟩ | exact ⟨Bh_22.2.2, Or.inr ⟨by omega, (t_26).symm⟩⟩) dX11_hear_95
      ·
        have jc_14 := il_eq c_14
        refine lv_aload_n hx hb dX11_hear_58 rfl (lv_at hl 1 rfl) (hp_n (n := 59) rfl ?_)
        refine lv_bipush (v := 9) hx hb dX11_hear_59 (by decide) (hp_n (n := 61) rfl ?_)
        refine q_ci (pc' := 64) Bh_13 (hp_runV (As := [.int 9]) (rest := []) C Bh_13 (t_X11_refuse Γ l αh_13 Bh_13.2.2.1 a0 (cw_k Bh_13.2.2 k0) 9) lb_X11_refuse lv_X11_refuse lk_X11_98 (cw_k Bh_13.2.2 k0) rfl (by decide) rfl hl.1 rfl (Nat.le_of_ble_eq_true rfl) dX11_hear_61 ⟨Nat.le_refl _, Nat.le_refl _⟩) (fun _ _ h => cw_tr Bh_13.2.2 h (by decide)) rfl (fun rh_27 αh_27 Hh_27 Lh_27 ph_27 Bh_27 => ?_)
        have t_28 : 0 = hp_I αh_13 605 a0 := by rw [eh_13]; exact hp_I_at.symm
        have t_29 : 0 = hp_I αh_27 605 a0 := by rw [cw_I ph_27 a0 (by decide)]; exact t_28
        have uR := il_eq t_29
        exact q_iret C Bh_27 hr hlk (by first | exact ⟨Bh_27.2.2, Or.inl ⟨by omega, by rw [← t_29]; exact ec0⟩⟩ | exact ⟨Bh_27.2.2, Or.inr ⟨by omega, (t_29).symm⟩⟩) dX11_hear_64
    ·
      have jc_4 := il_nle c_4
      refine lv_aload_n hx hb dX11_hear_12 rfl (lv_at hl 0 rfl) (hp_n (n := 13) rfl ?_)
      refine lv_iconst (v := 1) hx hb dX11_hear_13 (by decide) (hp_n (n := 14) rfl ?_)
      refine q_ci (pc' := 17) B (hp_runV (As := [.int 1]) (rest := []) C B (t_X11_refuse Γ l α B.2.2.1 a0 (cw_k B.2.2 k0) 1) lb_X11_refuse lv_X11_refuse lk_X11_98 (cw_k B.2.2 k0) rfl (by decide) rfl hl.1 rfl (Nat.le_of_ble_eq_true rfl) dX11_hear_14 ⟨Nat.le_refl _, Nat.le_refl _⟩) (fun _ _ h => cw_tr B.2.2 h (by decide)) rfl (fun rh_30 αh_30 Hh_30 Lh_30 ph_30 Bh_30 => ?_)
      have t_31 : c0 = hp_I αh_30 605 a0 := by rw [cw_I ph_30 a0 (by decide)]; exact ec0
      have uR := il_eq t_31
      exact q_iret C Bh_30 hr hlk (by first | exact ⟨Bh_30.2.2, Or.inl ⟨by omega, by rw [← t_31]; exact ec0⟩⟩ | exact ⟨Bh_30.2.2, Or.inr ⟨by omega, (t_31).symm⟩⟩) dX11_hear_17
