section JN4_0
abbrev w_X11_status : cw_W := ([], [], [], [])
set_option maxRecDepth 100000 in
set_option maxHeartbeats 4000000 in
theorem t_X11_status (Γ : hp_G) (l : Launch) (α : hp_T) (g : GC α) (a0 : Nat) (k0 : hp_K α a0 = 12) : Met l yX11_status (hp_ws yX11_status cX11_status 1 (some .int)) (hp_rm 0 0 0) (hp_Pc Γ α [.ref a0]) (hp_Qi Γ (fun r β => β = α)) 0 0 (hp_A Γ) := by
  refine hp_start (by decide) ?_
  intro p e s m below meth c C hr hlk B0 hnm
  have C : hp_C Γ p m c cX11_status 1 s ([.ref a0] : List Value).toArray RX11 := C
  have hx := C.1.1
  have hb := C.1.2.1
  have hown := C.1.2.2.2.1
  have hts := C.1.2.2.2.2
  have B : hp_B Γ (cw w_X11_status) s α α s.heap [] := ⟨B0.1, B0.2.1, cw_rf g⟩
  have hl := lv_entry ([.ref a0]) (n := 1) (Nat.le_of_ble_eq_true rfl)
  show W p l e (hp_rm 0 0 0) s m ([.ref a0] : List Value).toArray below meth c s.heap [] 0 0 (MQ below (hp_Qi Γ (fun r β => β = α)) ([.ref a0] : List Value).toArray s 0 0 (hp_A Γ)) (entryFrame m ([.ref a0] : List Value).toArray 1)
  rw [lg_entry_eq]
  generalize (lg_sl ([.ref a0]) ++ List.replicate (1 - (lg_sl ([.ref a0])).length) Slot.unset).toArray = ls at hl ⊢
  have hl : lv_has ls 1 [(0, .ref a0)] := hl
  refine lv_aload_n hx hb dX11_status_0 rfl (lv_at hl 0 rfl) (hp_n (n := 1) rfl ?_)
  refine q_geti (κ := 12) (k := 0) (φ := 600) (pc' := 4) C B (cw_k B.2.2 k0) fl_X11_9 rfl rfl rfl dX11_status_1 rfl (fun x_1 ex_1 => ?_)
  exact q_iret C B hr hlk rfl dX11_status_4
abbrev w_X11_answer : cw_W := ([600], [], [], [])
set_option maxRecDepth 100000 in
set_option maxHeartbeats 4000000 in
theorem t_X11_answer (Γ : hp_G) (l : Launch) (α : hp_T) (g : GC α) (a0 : Nat) (k0 : hp_K α a0 = 12) (a1 : Int32) : Met l yX11_answer (hp_ws yX11_answer cX11_answer 2 (some .int)) (hp_rm 0 0 0) (hp_Pc Γ α [.ref a0, .int a1]) (hp_Qi Γ (fun r β => cw w_X11_answer α β)) 0 0 (hp_A Γ) := by
  refine hp_start (by decide) ?_
  intro p e s m below meth c C hr hlk B0 hnm
  have C : hp_C Γ p m c cX11_answer 2 s ([.ref a0, .int a1] : List Value).toArray RX11 := C
  have hx := C.1.1
  have hb := C.1.2.1
  have hown := C.1.2.2.2.1
  have hts := C.1.2.2.2.2
  have B : hp_B Γ (cw w_X11_answer) s α α s.heap [] := ⟨B0.1, B0.2.1, cw_rf g⟩
  have lit0 : (0 : Int32).toInt = 0 := by decide
  have hl := lv_entry ([.ref a0, .int a1]) (n := 2) (Nat.le_of_ble_eq_true rfl)
  show W p l e (hp_rm 0 0 0) s m ([.ref a0, .int a1] : List Value).toArray below meth c s.heap [] 0 0 (MQ below (hp_Qi Γ (fun r β => cw w_X11_answer α β)) ([.ref a0, .int a1] : List Value).toArray s 0 0 (hp_A Γ)) (entryFrame m ([.ref a0, .int a1] : List Value).toArray 2)
  rw [lg_entry_eq]
  generalize (lg_sl ([.ref a0, .int a1]) ++ List.replicate (2 - (lg_sl ([.ref a0, .int a1])).length) Slot.unset).toArray = ls at hl ⊢
  have hl : lv_has ls 2 [(0, .ref a0), (1, .int a1)] := hl
  refine lv_aload_n hx hb dX11_answer_0 rfl (lv_at hl 0 rfl) (hp_n (n := 1) rfl ?_)
  refine lv_iconst (v := 0) hx hb dX11_answer_1 (by decide) (hp_n (n := 2) rfl ?_)
  refine q_puti (κ := 12) (k := 0) (φ := 600) (pc' := 5) C B (cw_k B.2.2 k0) fl_X11_9 rfl rfl rfl rfl rfl rfl (cw_sI B.2.2 (by decide) (fun h => absurd h (by decide))) dX11_answer_2 rfl (fun αh_1 Hh_1 Lh_1 eh_1 Bh_1 => ?_)
  refine lv_iload_n hx hb dX11_answer_5 rfl (lv_at hl 1 rfl) (hp_n (n := 6) rfl ?_)
  exact q_iret C Bh_1 hr hlk Bh_1.2.2 dX11_answer_6
abbrev w_X11_refuse : cw_W := ([600], [], [], [])
set_option maxRecDepth 100000 in
set_option maxHeartbeats 4000000 in
theorem t_X11_refuse (Γ : hp_G) (l : Launch) (α : hp_T) (g : GC α) (a0 : Nat) (k0 : hp_K α a0 = 12) (a1 : Int32) : Met l yX11_refuse (hp_ws yX11_refuse cX11_refuse 2 (some .int)) (hp_rm 0 0 0) (hp_Pc Γ α [.ref a0, .int a1]) (hp_Qi Γ (fun r β => cw w_X11_refuse α β)) 0 0 (hp_A Γ) := by
  refine hp_start (by decide) ?_
  intro p e s m below meth c C hr hlk B0 hnm
  have C : hp_C Γ p m c cX11_refuse 2 s ([.ref a0, .int a1] : List Value).toArray RX11 := C
  have hx := C.1.1
  have hb := C.1.2.1
  have hown := C.1.2.2.2.1
  have hts := C.1.2.2.2.2
  have B : hp_B Γ (cw w_X11_refuse) s α α s.heap [] := ⟨B0.1, B0.2.1, cw_rf g⟩
  have litm1 : ((-1) : Int32).toInt = (-1) := by decide
  have hl := lv_entry ([.ref a0, .int a1]) (n := 2) (Nat.le_of_ble_eq_true rfl)
  show W p l e (hp_rm 0 0 0) s m ([.ref a0, .int a1] : List Value).toArray below meth c s.heap [] 0 0 (MQ below (hp_Qi Γ (fun r β => cw w_X11_refuse α β)) ([.ref a0, .int a1] : List Value).toArray s 0 0 (hp_A Γ)) (entryFrame m ([.ref a0, .int a1] : List Value).toArray 2)
  rw [lg_entry_eq]
  generalize (lg_sl ([.ref a0, .int a1]) ++ List.replicate (2 - (lg_sl ([.ref a0, .int a1])).length) Slot.unset).toArray = ls at hl ⊢
  have hl : lv_has ls 2 [(0, .ref a0), (1, .int a1)] := hl
  refine lv_aload_n hx hb dX11_refuse_0 rfl (lv_at hl 0 rfl) (hp_n (n := 1) rfl ?_)
  refine lv_iload_n hx hb dX11_refuse_1 rfl (lv_at hl 1 rfl) (hp_n (n := 2) rfl ?_)
  refine q_puti (κ := 12) (k := 0) (φ := 600) (pc' := 5) C B (cw_k B.2.2 k0) fl_X11_9 rfl rfl rfl rfl rfl rfl (cw_sI B.2.2 (by decide) (fun h => absurd h (by decide))) dX11_refuse_2 rfl (fun αh_1 Hh_1 Lh_1 eh_1 Bh_1 => ?_)
  refine lv_iconst (v := (-1)) hx hb dX11_refuse_5 (by decide) (hp_n (n := 6) rfl ?_)
  exact q_iret C Bh_1 hr hlk Bh_1.2.2 dX11_refuse_6
abbrev w_X11_putOnTape : cw_W := ([605], [], [24], [])
set_option maxRecDepth 100000 in
set_option maxHeartbeats 4000000 in
theorem t_X11_putOnTape (Γ : hp_G) (l : Launch) (α : hp_T) (g : GC α) (a0 : Nat) (k0 : hp_K α a0 = 12) (a1 : Int32) : Met l yX11_putOnTape (hp_ws yX11_putOnTape cX11_putOnTape 3 none) (hp_rm 0 0 0) (hp_Pc Γ α [.ref a0, .int a1]) (hp_Qv Γ (fun β => cw w_X11_putOnTape α β)) 0 0 (hp_A Γ) := by
  refine hp_start (by decide) ?_
  intro p e s m below meth c C hr hlk B0 hnm
  have C : hp_C Γ p m c cX11_putOnTape 3 s ([.ref a0, .int a1] : List Value).toArray RX11 := C
  have hx := C.1.1
  have hb := C.1.2.1
  have hown := C.1.2.2.2.1
  have hts := C.1.2.2.2.2
  have B : hp_B Γ (cw w_X11_putOnTape) s α α s.heap [] := ⟨B0.1, B0.2.1, cw_rf g⟩
  have litm8 : ((-8) : Int32).toInt = (-8) := by decide
  have lit0 : (0 : Int32).toInt = 0 := by decide
  have lit1 : (1 : Int32).toInt = 1 := by decide
  have lit24 : (24 : Int32).toInt = 24 := by decide
  have lit900 : (900 : Int32).toInt = 900 := by decide
  have hl := lv_entry ([.ref a0, .int a1]) (n := 3) (Nat.le_of_ble_eq_true rfl)
  show W p l e (hp_rm 0 0 0) s m ([.ref a0, .int a1] : List Value).toArray below meth c s.heap [] 0 0 (MQ below (hp_Qv Γ (fun β => cw w_X11_putOnTape α β)) ([.ref a0, .int a1] : List Value).toArray s 0 0 (hp_A Γ)) (entryFrame m ([.ref a0, .int a1] : List Value).toArray 3)
  rw [lg_entry_eq]
  generalize (lg_sl ([.ref a0, .int a1]) ++ List.replicate (3 - (lg_sl ([.ref a0, .int a1])).length) Slot.unset).toArray = ls at hl ⊢
  have hl : lv_has ls 3 [(0, .ref a0), (1, .int a1)] := hl
  refine lv_bipush (v := 24) hx hb dX11_putOnTape_0 (by decide) (hp_n (n := 2) rfl ?_)
  have J3 : ∀ (nq : Nat) (αh_1 : hp_T) (Hh_1 : Heap) (Lh_1 : List Loc) (Bh_1 : hp_B Γ (cw w_X11_putOnTape) s α αh_1 Hh_1 Lh_1) (v2_h_1 : Int32) (ls : Array Slot) (hl : lv_has ls 3 [(0, .ref a0), (1, .int a1), (2, .int v2_h_1)]) (hmu3 : (v2_h_1.toInt + 1).toNat = nq), W p l e (hp_rm 0 0 0) s m ([.ref a0, .int a1] : List Value).toArray below meth c Hh_1 Lh_1 0 0 (MQ below (hp_Qv Γ (fun β => cw w_X11_putOnTape α β)) ([.ref a0, .int a1] : List Value).toArray s 0 0 (hp_A Γ)) (F0 m 3 ls []) := by
    intro nq
    induction nq using Nat.strongRecOn with
    | ind nq ih3 =>
    intro αh_1 Hh_1 Lh_1 Bh_1 v2_h_1 ls hl hmu3
    refine lv_iload_n hx hb dX11_putOnTape_3 rfl (lv_at hl 2 rfl) (hp_n (n := 4) rfl ?_)
    refine lv_if_lt (tgt := 55) hx hb dX11_putOnTape_4 (by decide) (fun c_2 => ?_) (fun c_2 => hp_n (n := 7) rfl ?_)
    ·
      have jc_2 := il_lt c_2
      exact q_vret C Bh_1 hr hlk Bh_1.2.2 dX11_putOnTape_55
    ·
      have jc_2 := il_nlt c_2
      refine lv_aload_n hx hb dX11_putOnTape_7 rfl (lv_at hl 0 rfl) (hp_n (n := 8) rfl ?_)
      refine q_geti (κ := 12) (k := 5) (φ := 605) (pc' := 11) C Bh_1 (cw_k Bh_1.2.2 k0) fl_X11_34 rfl rfl rfl dX11_putOnTape_8 rfl (fun x_3 ex_3 => ?_)
      refine lv_if_lt (tgt := 49) hx hb dX11_putOnTape_11 (by decide) (fun c_4 => ?_) (fun c_4 => hp_n (n := 14) rfl ?_)
      ·
        have jc_4 := il_lt c_4
        obtain ⟨x_5, ex_5⟩ : ∃ y : Int32, y = v2_h_1 + (-8) := ⟨_, rfl⟩
        refine lv_iinc (v := x_5) (lv' := [(2, .int x_5), (0, .ref a0), (1, .int a1)]) hx hb dX11_putOnTape_49 hl (k := 2) rfl (by rw [ex_5]; rfl) (by decide) rfl (fun ls hl => hp_n (n := 52) rfl ?_)
        refine lv_goto (tgt := 3) hx hb dX11_putOnTape_52 (by decide) ?_
        exact ih3 _ (mu_dn8 hmu3 ex_5 (by omega)) αh_1 Hh_1 Lh_1 Bh_1 x_5 ls (lv_sub hl [1, 2, 0] rfl) rfl
      ·
        have jc_4 := il_nlt c_4
        refine lv_aload_n hx hb dX11_putOnTape_14 rfl (lv_at hl 0 rfl) (hp_n (n := 15) rfl ?_)
        refine q_getj (κ := 12) (k := 5) (φ := 605) (pc' := 18) C Bh_1 (cw_k Bh_1.2.2 k0) fl_X11_34 rfl rfl rfl ex_3 dX11_putOnTape_15 rfl ?_
        refine lv_aload_n hx hb dX11_putOnTape_18 rfl (lv_at hl 0 rfl) (hp_n (n := 19) rfl ?_)
        refine q_getr (κ := 12) (k := 4) (φ := 604) (pc' := 22) C Bh_1 (cw_k Bh_1.2.2 k0) fl_X11_30 rfl rfl rfl (cw_r Bh_1.2.2 k0 rfl rfl (by decide) (by decide)) dX11_putOnTape_19 rfl (fun b_6 eb_6 kb_6 => ?_)
        refine q_alen (κ := 24) (t := 1) (n := 900) (x := 900) (ty := .byte) (pc' := 23) C Bh_1 (cw_k Bh_1.2.2 kb_6) (by decide) rfl rfl rfl dX11_putOnTape_22 rfl ?_
        refine lv_icmp_ge (tgt := 49) hx hb dX11_putOnTape_23 (by decide) (fun c_7 => ?_) (fun c_7 => hp_n (n := 26) rfl ?_)
        ·
          have jc_7 := il_le c_7
          obtain ⟨x_8, ex_8⟩ : ∃ y : Int32, y = v2_h_1 + (-8) := ⟨_, rfl⟩
          refine lv_iinc (v := x_8) (lv' := [(2, .int x_8), (0, .ref a0), (1, .int a1)]) hx hb dX11_putOnTape_49 hl (k := 2) rfl (by rw [ex_8]; rfl) (by decide) rfl (fun ls hl => hp_n (n := 52) rfl ?_)
          refine lv_goto (tgt := 3) hx hb dX11_putOnTape_52 (by decide) ?_
          exact ih3 _ (mu_dn8 hmu3 ex_8 (by omega)) αh_1 Hh_1 Lh_1 Bh_1 x_8 ls (lv_sub hl [1, 2, 0] rfl) rfl
        ·
          have jc_7 := il_nle c_7
          refine lv_aload_n hx hb dX11_putOnTape_26 rfl (lv_at hl 0 rfl) (hp_n (n := 27) rfl ?_)
          refine q_gets (κ := 12) (k := 4) (φ := 604) (pc' := 30) C Bh_1 (cw_k Bh_1.2.2 k0) fl_X11_30 rfl rfl rfl eb_6 dX11_putOnTape_27 rfl ?_
          refine lv_aload_n hx hb dX11_putOnTape_30 rfl (lv_at hl 0 rfl) (hp_n (n := 31) rfl ?_)
          refine q_getj (κ := 12) (k := 5) (φ := 605) (pc' := 34) C Bh_1 (cw_k Bh_1.2.2 k0) fl_X11_34 rfl rfl rfl ex_3 dX11_putOnTape_31 rfl ?_
          refine lv_iload_n hx hb dX11_putOnTape_34 rfl (lv_at hl 1 rfl) (hp_n (n := 35) rfl ?_)
          refine lv_iload_n hx hb dX11_putOnTape_35 rfl (lv_at hl 2 rfl) (hp_n (n := 36) rfl ?_)
          refine lv_iushr hx hb dX11_putOnTape_36 rfl (hp_n (n := 37) rfl (lv_topi (fun x_9 ex_9 => ?_)))
          refine lv_i2b hx hb dX11_putOnTape_37 rfl (hp_n (n := 38) rfl (lv_topi (fun x_10 ex_10 => ?_)))
          refine q_bas (κ := 24) (n := 900) (pc' := 39) C Bh_1 (cw_k Bh_1.2.2 kb_6) (by decide) rfl (vi_of (by omega) (by omega)) rfl rfl (cw_sE Bh_1.2.2 (by decide)) dX11_putOnTape_38 rfl (fun αh_11 Hh_11 Lh_11 eh_11 Bh_11 => ?_)
          refine lv_aload_n hx hb dX11_putOnTape_39 rfl (lv_at hl 0 rfl) (hp_n (n := 40) rfl ?_)
          refine lv_dup hx hb dX11_putOnTape_40 rfl (hp_n (n := 41) rfl ?_)
          have t_12 : x_3 = hp_I αh_11 605 a0 := by rw [eh_11]; exact ex_3
          refine q_getj (κ := 12) (k := 5) (φ := 605) (pc' := 44) C Bh_11 (cw_k Bh_11.2.2 k0) fl_X11_34 rfl rfl rfl t_12 dX11_putOnTape_41 rfl ?_
          refine lv_iconst (v := 1) hx hb dX11_putOnTape_44 (by decide) (hp_n (n := 45) rfl ?_)
          refine lv_iadd hx hb dX11_putOnTape_45 (hp_n (n := 46) rfl (lv_topi (fun x_13 ex_13 => ?_)))
          have qx_13 : x_13.toInt = x_3.toInt + 1 := by have qa := ib_lo x_3; rw [ex_13]; exact ii_add (by omega) (by omega)
          refine q_puti (κ := 12) (k := 5) (φ := 605) (pc' := 49) C Bh_11 (cw_k Bh_11.2.2 k0) fl_X11_34 rfl rfl rfl rfl rfl rfl (cw_sI Bh_11.2.2 (by decide) (fun h => absurd h (by decide))) dX11_putOnTape_46 rfl (fun αh_14 Hh_14 Lh_14 eh_14 Bh_14 => ?_)
          obtain ⟨x_15, ex_15⟩ : ∃ y : Int32, y = v2_h_1 + (-8) := ⟨_, rfl⟩
          refine lv_iinc (v := x_15) (lv' := [(2, .int x_15), (0, .ref a0), (1, .int a1)]) hx hb dX11_putOnTape_49 hl (k := 2) rfl (by rw [ex_15]; rfl) (by decide) rfl (fun ls hl => hp_n (n := 52) rfl ?_)
          refine lv_goto (tgt := 3) hx hb dX11_putOnTape_52 (by decide) ?_
          exact ih3 _ (mu_dn8 hmu3 ex_15 (by omega)) αh_14 Hh_14 Lh_14 Bh_14 x_15 ls (lv_sub hl [1, 2, 0] rfl) rfl
  refine lv_istore_n (lv' := [(2, .int 24), (0, .ref a0), (1, .int a1)]) hx hb dX11_putOnTape_2 rfl hl (by decide) rfl (fun ls hl => hp_n (n := 3) rfl ?_)
  exact J3 _ α s.heap [] B 24 ls (lv_sub hl [1, 2, 0] rfl) rfl
abbrev w_X11_feed : cw_W := ([605], [], [24], [])
set_option maxRecDepth 100000 in
set_option maxHeartbeats 4000000 in
theorem t_X11_feed (Γ : hp_G) (l : Launch) (α : hp_T) (g : GC α) (a0 : Nat) (k0 : hp_K α a0 = 12) (a1 : Int32) (a2 : Int32) (a3 : Int32) (a4 : Int32) (a5 : Int32) : Met l yX11_feed (hp_ws yX11_feed cX11_feed 6 (some .int)) (hp_rm 1 0 0) (hp_Pc Γ α [.ref a0, .int a1, .int a2, .int a3, .int a4, .int a5]) (hp_Qi Γ (fun r β => cw w_X11_feed α β)) 0 0 (hp_A Γ) := by
  refine hp_start (by decide) ?_
  intro p e s m below meth c C hr hlk B0 hnm
  have C : hp_C Γ p m c cX11_feed 6 s ([.ref a0, .int a1, .int a2, .int a3, .int a4, .int a5] : List Value).toArray RX11 := C
  have hx := C.1.1
  have hb := C.1.2.1
  have hown := C.1.2.2.2.1
  have hts := C.1.2.2.2.2
  have B : hp_B Γ (cw w_X11_feed) s α α s.heap [] := ⟨B0.1, B0.2.1, cw_rf g⟩
  have litm1 : ((-1) : Int32).toInt = (-1) := by decide
  have lit20 : (20 : Int32).toInt = 20 := by decide
  have lit900 : (900 : Int32).toInt = 900 := by decide
  have hl := lv_entry ([.ref a0, .int a1, .int a2, .int a3, .int a4, .int a5]) (n := 6) (Nat.le_of_ble_eq_true rfl)
  show W p l e (hp_rm 1 0 0) s m ([.ref a0, .int a1, .int a2, .int a3, .int a4, .int a5] : List Value).toArray below meth c s.heap [] 0 0 (MQ below (hp_Qi Γ (fun r β => cw w_X11_feed α β)) ([.ref a0, .int a1, .int a2, .int a3, .int a4, .int a5] : List Value).toArray s 0 0 (hp_A Γ)) (entryFrame m ([.ref a0, .int a1, .int a2, .int a3, .int a4, .int a5] : List Value).toArray 6)
  rw [lg_entry_eq]
  generalize (lg_sl ([.ref a0, .int a1, .int a2, .int a3, .int a4, .int a5]) ++ List.replicate (6 - (lg_sl ([.ref a0, .int a1, .int a2, .int a3, .int a4, .int a5])).length) Slot.unset).toArray = ls at hl ⊢
  have hl : lv_has ls 6 [(0, .ref a0), (1, .int a1), (2, .int a2), (3, .int a3), (4, .int a4), (5, .int a5)] := hl
  refine lv_aload_n hx hb dX11_feed_0 rfl (lv_at hl 0 rfl) (hp_n (n := 1) rfl ?_)
  refine q_geti (κ := 12) (k := 5) (φ := 605) (pc' := 4) C B (cw_k B.2.2 k0) fl_X11_34 rfl rfl rfl dX11_feed_1 rfl (fun x_1 ex_1 => ?_)
  refine lv_bipush (v := 20) hx hb dX11_feed_4 (by decide) (hp_n (n := 6) rfl ?_)
  refine lv_iadd hx hb dX11_feed_6 (hp_n (n := 7) rfl (lv_topi (fun x_2 ex_2 => ?_)))
  refine lv_sipush (v := 900) hx hb dX11_feed_7 (by decide) (hp_n (n := 10) rfl ?_)
  refine lv_icmp_le (tgt := 15) hx hb dX11_feed_10 (by decide) (fun c_3 => ?_) (fun c_3 => hp_n (n := 13) rfl ?_)
  ·
    have jc_3 := il_le c_3
    refine lv_aload_n hx hb dX11_feed_15 rfl (lv_at hl 0 rfl) (hp_n (n := 16) rfl ?_)
    refine lv_iload_n hx hb dX11_feed_16 rfl (lv_at hl 1 rfl) (hp_n (n := 17) rfl ?_)
    refine q_cv (pc' := 20) B (hp_runV (As := [.int a1]) (rest := []) C B (t_X11_putOnTape Γ l α B.2.2.1 a0 (cw_k B.2.2 k0) a1) lb_X11_putOnTape lv_X11_putOnTape lk_X11_94 (cw_k B.2.2 k0) rfl (by decide) rfl hl.1 rfl (Nat.le_of_ble_eq_true rfl) dX11_feed_17 ⟨Nat.le_refl _, Nat.le_refl _⟩) (fun _ h => cw_tr B.2.2 h (by decide)) rfl (fun αh_4 Hh_4 Lh_4 ph_4 Bh_4 => ?_)
    refine lv_aload_n hx hb dX11_feed_20 rfl (lv_at hl 0 rfl) (hp_n (n := 21) rfl ?_)
    refine lv_iload_n hx hb dX11_feed_21 rfl (lv_at hl 2 rfl) (hp_n (n := 22) rfl ?_)
    refine q_cv (pc' := 25) Bh_4 (hp_runV (As := [.int a2]) (rest := []) C Bh_4 (t_X11_putOnTape Γ l αh_4 Bh_4.2.2.1 a0 (cw_k Bh_4.2.2 k0) a2) lb_X11_putOnTape lv_X11_putOnTape lk_X11_94 (cw_k Bh_4.2.2 k0) rfl (by decide) rfl hl.1 rfl (Nat.le_of_ble_eq_true rfl) dX11_feed_22 ⟨Nat.le_refl _, Nat.le_refl _⟩) (fun _ h => cw_tr Bh_4.2.2 h (by decide)) rfl (fun αh_5 Hh_5 Lh_5 ph_5 Bh_5 => ?_)
    refine lv_aload_n hx hb dX11_feed_25 rfl (lv_at hl 0 rfl) (hp_n (n := 26) rfl ?_)
    refine lv_iload_n hx hb dX11_feed_26 rfl (lv_at hl 3 rfl) (hp_n (n := 27) rfl ?_)
    refine q_cv (pc' := 30) Bh_5 (hp_runV (As := [.int a3]) (rest := []) C Bh_5 (t_X11_putOnTape Γ l αh_5 Bh_5.2.2.1 a0 (cw_k Bh_5.2.2 k0) a3) lb_X11_putOnTape lv_X11_putOnTape lk_X11_94 (cw_k Bh_5.2.2 k0) rfl (by decide) rfl hl.1 rfl (Nat.le_of_ble_eq_true rfl) dX11_feed_27 ⟨Nat.le_refl _, Nat.le_refl _⟩) (fun _ h => cw_tr Bh_5.2.2 h (by decide)) rfl (fun αh_6 Hh_6 Lh_6 ph_6 Bh_6 => ?_)
    refine lv_aload_n hx hb dX11_feed_30 rfl (lv_at hl 0 rfl) (hp_n (n := 31) rfl ?_)
    refine lv_iload hx hb dX11_feed_31 (lv_at hl 4 rfl) (hp_n (n := 33) rfl ?_)
    refine q_cv (pc' := 36) Bh_6 (hp_runV (As := [.int a4]) (rest := []) C Bh_6 (t_X11_putOnTape Γ l αh_6 Bh_6.2.2.1 a0 (cw_k Bh_6.2.2 k0) a4) lb_X11_putOnTape lv_X11_putOnTape lk_X11_94 (cw_k Bh_6.2.2 k0) rfl (by decide) rfl hl.1 rfl (Nat.le_of_ble_eq_true rfl) dX11_feed_33 ⟨Nat.le_refl _, Nat.le_refl _⟩) (fun _ h => cw_tr Bh_6.2.2 h (by decide)) rfl (fun αh_7 Hh_7 Lh_7 ph_7 Bh_7 => ?_)
    refine lv_aload_n hx hb dX11_feed_36 rfl (lv_at hl 0 rfl) (hp_n (n := 37) rfl ?_)
    refine lv_iload hx hb dX11_feed_37 (lv_at hl 5 rfl) (hp_n (n := 39) rfl ?_)
    refine q_cv (pc' := 42) Bh_7 (hp_runV (As := [.int a5]) (rest := []) C Bh_7 (t_X11_putOnTape Γ l αh_7 Bh_7.2.2.1 a0 (cw_k Bh_7.2.2 k0) a5) lb_X11_putOnTape lv_X11_putOnTape lk_X11_94 (cw_k Bh_7.2.2 k0) rfl (by decide) rfl hl.1 rfl (Nat.le_of_ble_eq_true rfl) dX11_feed_39 ⟨Nat.le_refl _, Nat.le_refl _⟩) (fun _ h => cw_tr Bh_7.2.2 h (by decide)) rfl (fun αh_8 Hh_8 Lh_8 ph_8 Bh_8 => ?_)
    refine lv_aload_n hx hb dX11_feed_42 rfl (lv_at hl 0 rfl) (hp_n (n := 43) rfl ?_)
    refine q_geti (κ := 12) (k := 5) (φ := 605) (pc' := 46) C Bh_8 (cw_k Bh_8.2.2 k0) fl_X11_34 rfl rfl rfl dX11_feed_43 rfl (fun x_9 ex_9 => ?_)
    exact q_iret C Bh_8 hr hlk Bh_8.2.2 dX11_feed_46
  ·
    have jc_3 := il_nle c_3
    refine lv_iconst (v := (-1)) hx hb dX11_feed_13 (by decide) (hp_n (n := 14) rfl ?_)
    exact q_iret C B hr hlk B.2.2 dX11_feed_14
abbrev w_X11_isMark : cw_W := ([], [], [], [])
set_option maxRecDepth 100000 in
set_option maxHeartbeats 4000000 in
theorem t_X11_isMark (Γ : hp_G) (l : Launch) (α : hp_T) (g : GC α) (a0 : Nat) (k0 : hp_K α a0 = 12) (a1 : Int32) : Met l yX11_isMark (hp_ws yX11_isMark cX11_isMark 2 (some .boolean)) (hp_rm 0 0 0) (hp_Pc Γ α [.ref a0, .int a1]) (hp_Qi Γ (fun r β => β = α ∧ (r = 0 ∨ r = 1))) 0 0 (hp_A Γ) := by
  refine hp_start (by decide) ?_
  intro p e s m below meth c C hr hlk B0 hnm
  have C : hp_C Γ p m c cX11_isMark 2 s ([.ref a0, .int a1] : List Value).toArray RX11 := C
  have hx := C.1.1
  have hb := C.1.2.1
  have hown := C.1.2.2.2.1
  have hts := C.1.2.2.2.2
  have B : hp_B Γ (cw w_X11_isMark) s α α s.heap [] := ⟨B0.1, B0.2.1, cw_rf g⟩
  have lit0 : (0 : Int32).toInt = 0 := by decide
  have lit1 : (1 : Int32).toInt = 1 := by decide
  have hl := lv_entry ([.ref a0, .int a1]) (n := 2) (Nat.le_of_ble_eq_true rfl)
  show W p l e (hp_rm 0 0 0) s m ([.ref a0, .int a1] : List Value).toArray below meth c s.heap [] 0 0 (MQ below (hp_Qi Γ (fun r β => β = α ∧ (r = 0 ∨ r = 1))) ([.ref a0, .int a1] : List Value).toArray s 0 0 (hp_A Γ)) (entryFrame m ([.ref a0, .int a1] : List Value).toArray 2)
  rw [lg_entry_eq]
  generalize (lg_sl ([.ref a0, .int a1]) ++ List.replicate (2 - (lg_sl ([.ref a0, .int a1])).length) Slot.unset).toArray = ls at hl ⊢
  have hl : lv_has ls 2 [(0, .ref a0), (1, .int a1)] := hl
  refine lv_iload_n hx hb dX11_isMark_0 rfl (lv_at hl 1 rfl) (hp_n (n := 1) rfl ?_)
  refine lv_if_lt (tgt := 19) hx hb dX11_isMark_1 (by decide) (fun c_1 => ?_) (fun c_1 => hp_n (n := 4) rfl ?_)
  ·
    have jc_1 := il_lt c_1
    refine lv_iconst (v := 0) hx hb dX11_isMark_19 (by decide) (hp_n (n := 20) rfl ?_)
    exact q_zret C B hr hlk (by decide) ⟨rfl, (Or.inl rfl)⟩ dX11_isMark_20
  ·
    have jc_1 := il_nlt c_1
    refine lv_iload_n hx hb dX11_isMark_4 rfl (lv_at hl 1 rfl) (hp_n (n := 5) rfl ?_)
    refine lv_aload_n hx hb dX11_isMark_5 rfl (lv_at hl 0 rfl) (hp_n (n := 6) rfl ?_)
    refine q_getr (κ := 12) (k := 1) (φ := 601) (pc' := 9) C B (cw_k B.2.2 k0) fl_X11_16 rfl rfl rfl (cw_r B.2.2 k0 rfl rfl (by decide) (by decide)) dX11_isMark_6 rfl (fun b_2 eb_2 kb_2 => ?_)
    refine q_geti (κ := 11) (k := 0) (φ := 550) (pc' := 12) C B (cw_k B.2.2 kb_2) fl_X11_122 rfl rfl rfl dX11_isMark_9 rfl (fun x_3 ex_3 => ?_)
    refine lv_icmp_ge (tgt := 19) hx hb dX11_isMark_12 (by decide) (fun c_4 => ?_) (fun c_4 => hp_n (n := 15) rfl ?_)
    ·
      have jc_4 := il_le c_4
      refine lv_iconst (v := 0) hx hb dX11_isMark_19 (by decide) (hp_n (n := 20) rfl ?_)
      exact q_zret C B hr hlk (by decide) ⟨rfl, (Or.inl rfl)⟩ dX11_isMark_20
    ·
      have jc_4 := il_nle c_4
      refine lv_iconst (v := 1) hx hb dX11_isMark_15 (by decide) (hp_n (n := 16) rfl ?_)
      refine lv_goto (tgt := 20) hx hb dX11_isMark_16 (by decide) ?_
      exact q_zret C B hr hlk (by decide) ⟨rfl, (Or.inr rfl)⟩ dX11_isMark_20
abbrev w_X11_isThing : cw_W := ([], [], [], [])
set_option maxRecDepth 100000 in
set_option maxHeartbeats 4000000 in
theorem t_X11_isThing (Γ : hp_G) (l : Launch) (α : hp_T) (g : GC α) (a0 : Int32) (a1 : Int32) : Met l yX11_isThing (hp_ws yX11_isThing cX11_isThing 2 (some .boolean)) (hp_rm 0 0 0) (hp_Pc Γ α [.int a0, .int a1]) (hp_Qi Γ (fun r β => β = α ∧ (r = 0 ∨ r = 1))) 0 0 (hp_A Γ) := by
  refine hp_start (by decide) ?_
  intro p e s m below meth c C hr hlk B0 hnm
  have C : hp_C Γ p m c cX11_isThing 2 s ([.int a0, .int a1] : List Value).toArray RX11 := C
  have hx := C.1.1
  have hb := C.1.2.1
  have hown := C.1.2.2.2.1
  have hts := C.1.2.2.2.2
  have B : hp_B Γ (cw w_X11_isThing) s α α s.heap [] := ⟨B0.1, B0.2.1, cw_rf g⟩
  have lit0 : (0 : Int32).toInt = 0 := by decide
  have lit1 : (1 : Int32).toInt = 1 := by decide
  have hl := lv_entry ([.int a0, .int a1]) (n := 2) (Nat.le_of_ble_eq_true rfl)
  show W p l e (hp_rm 0 0 0) s m ([.int a0, .int a1] : List Value).toArray below meth c s.heap [] 0 0 (MQ below (hp_Qi Γ (fun r β => β = α ∧ (r = 0 ∨ r = 1))) ([.int a0, .int a1] : List Value).toArray s 0 0 (hp_A Γ)) (entryFrame m ([.int a0, .int a1] : List Value).toArray 2)
  rw [lg_entry_eq]
  generalize (lg_sl ([.int a0, .int a1]) ++ List.replicate (2 - (lg_sl ([.int a0, .int a1])).length) Slot.unset).toArray = ls at hl ⊢
  have hl : lv_has ls 2 [(0, .int a0), (1, .int a1)] := hl
  refine lv_iload_n hx hb dX11_isThing_0 rfl (lv_at hl 0 rfl) (hp_n (n := 1) rfl ?_)
  refine lv_if_lt (tgt := 13) hx hb dX11_isThing_1 (by decide) (fun c_1 => ?_) (fun c_1 => hp_n (n := 4) rfl ?_)
  ·
    have jc_1 := il_lt c_1
    refine lv_iconst (v := 0) hx hb dX11_isThing_13 (by decide) (hp_n (n := 14) rfl ?_)
    exact q_zret C B hr hlk (by decide) ⟨rfl, (Or.inl rfl)⟩ dX11_isThing_14
  ·
    have jc_1 := il_nlt c_1
    refine lv_iload_n hx hb dX11_isThing_4 rfl (lv_at hl 0 rfl) (hp_n (n := 5) rfl ?_)
    refine lv_iload_n hx hb dX11_isThing_5 rfl (lv_at hl 1 rfl) (hp_n (n := 6) rfl ?_)
    refine lv_icmp_ge (tgt := 13) hx hb dX11_isThing_6 (by decide) (fun c_2 => ?_) (fun c_2 => hp_n (n := 9) rfl ?_)
    ·
      have jc_2 := il_le c_2
      refine lv_iconst (v := 0) hx hb dX11_isThing_13 (by decide) (hp_n (n := 14) rfl ?_)
      exact q_zret C B hr hlk (by decide) ⟨rfl, (Or.inl rfl)⟩ dX11_isThing_14
    ·
      have jc_2 := il_nle c_2
      refine lv_iconst (v := 1) hx hb dX11_isThing_9 (by decide) (hp_n (n := 10) rfl ?_)
      refine lv_goto (tgt := 14) hx hb dX11_isThing_10 (by decide) ?_
      exact q_zret C B hr hlk (by decide) ⟨rfl, (Or.inr rfl)⟩ dX11_isThing_14
abbrev w_X11_isSet : cw_W := ([], [], [], [])
set_option maxRecDepth 100000 in
set_option maxHeartbeats 4000000 in
theorem t_X11_isSet (Γ : hp_G) (l : Launch) (α : hp_T) (g : GC α) (a0 : Int32) : Met l yX11_isSet (hp_ws yX11_isSet cX11_isSet 1 (some .boolean)) (hp_rm 0 0 0) (hp_Pc Γ α [.int a0]) (hp_Qi Γ (fun r β => β = α ∧ (r = 0 ∨ r = 1))) 0 0 (hp_A Γ) := by
  refine hp_start (by decide) ?_
  intro p e s m below meth c C hr hlk B0 hnm
  have C : hp_C Γ p m c cX11_isSet 1 s ([.int a0] : List Value).toArray RX11 := C
  have hx := C.1.1
  have hb := C.1.2.1
  have hown := C.1.2.2.2.1
  have hts := C.1.2.2.2.2
  have B : hp_B Γ (cw w_X11_isSet) s α α s.heap [] := ⟨B0.1, B0.2.1, cw_rf g⟩
  have lit0 : (0 : Int32).toInt = 0 := by decide
  have lit1 : (1 : Int32).toInt = 1 := by decide
  have hl := lv_entry ([.int a0]) (n := 1) (Nat.le_of_ble_eq_true rfl)
  show W p l e (hp_rm 0 0 0) s m ([.int a0] : List Value).toArray below meth c s.heap [] 0 0 (MQ below (hp_Qi Γ (fun r β => β = α ∧ (r = 0 ∨ r = 1))) ([.int a0] : List Value).toArray s 0 0 (hp_A Γ)) (entryFrame m ([.int a0] : List Value).toArray 1)
  rw [lg_entry_eq]
  generalize (lg_sl ([.int a0]) ++ List.replicate (1 - (lg_sl ([.int a0])).length) Slot.unset).toArray = ls at hl ⊢
  have hl : lv_has ls 1 [(0, .int a0)] := hl
  refine lv_iload_n hx hb dX11_isSet_0 rfl (lv_at hl 0 rfl) (hp_n (n := 1) rfl ?_)
  refine lv_if_le (tgt := 8) hx hb dX11_isSet_1 (by decide) (fun c_1 => ?_) (fun c_1 => hp_n (n := 4) rfl ?_)
  ·
    have jc_1 := il_le c_1
    refine lv_iconst (v := 0) hx hb dX11_isSet_8 (by decide) (hp_n (n := 9) rfl ?_)
    exact q_zret C B hr hlk (by decide) ⟨rfl, (Or.inl rfl)⟩ dX11_isSet_9
  ·
    have jc_1 := il_nle c_1
    refine lv_iconst (v := 1) hx hb dX11_isSet_4 (by decide) (hp_n (n := 5) rfl ?_)
    refine lv_goto (tgt := 9) hx hb dX11_isSet_5 (by decide) ?_
    exact q_zret C B hr hlk (by decide) ⟨rfl, (Or.inr rfl)⟩ dX11_isSet_9
abbrev w_X11_lieBelow : cw_W := ([], [], [], [])
set_option maxRecDepth 100000 in
set_option maxHeartbeats 4000000 in
theorem t_X11_lieBelow (Γ : hp_G) (l : Launch) (α : hp_T) (g : GC α) (a0 : Int32) (a1 : Int32) : Met l yX11_lieBelow (hp_ws yX11_lieBelow cX11_lieBelow 2 (some .boolean)) (hp_rm 2 0 0) (hp_Pc Γ α [.int a0, .int a1]) (hp_Qi Γ (fun r β => β = α ∧ (r = 0 ∨ r = 1))) 0 0 (hp_A Γ) := by
  refine hp_start (by decide) ?_
  intro p e s m below meth c C hr hlk B0 hnm
  have C : hp_C Γ p m c cX11_lieBelow 2 s ([.int a0, .int a1] : List Value).toArray RX11 := C
  have hx := C.1.1
  have hb := C.1.2.1
  have hown := C.1.2.2.2.1
  have hts := C.1.2.2.2.2
  have B : hp_B Γ (cw w_X11_lieBelow) s α α s.heap [] := ⟨B0.1, B0.2.1, cw_rf g⟩
  have lit0 : (0 : Int32).toInt = 0 := by decide
  have lit1 : (1 : Int32).toInt = 1 := by decide
  have lit30 : (30 : Int32).toInt = 30 := by decide
  have hl := lv_entry ([.int a0, .int a1]) (n := 2) (Nat.le_of_ble_eq_true rfl)
  show W p l e (hp_rm 2 0 0) s m ([.int a0, .int a1] : List Value).toArray below meth c s.heap [] 0 0 (MQ below (hp_Qi Γ (fun r β => β = α ∧ (r = 0 ∨ r = 1))) ([.int a0, .int a1] : List Value).toArray s 0 0 (hp_A Γ)) (entryFrame m ([.int a0, .int a1] : List Value).toArray 2)
  rw [lg_entry_eq]
  generalize (lg_sl ([.int a0, .int a1]) ++ List.replicate (2 - (lg_sl ([.int a0, .int a1])).length) Slot.unset).toArray = ls at hl ⊢
  have hl : lv_has ls 2 [(0, .int a0), (1, .int a1)] := hl
  refine lv_iload_n hx hb dX11_lieBelow_0 rfl (lv_at hl 0 rfl) (hp_n (n := 1) rfl ?_)
  refine q_ci (pc' := 4) B (hp_runS (As := [.int a0]) (rest := []) C B (t_J6_highestOneBit_0f7a4 Γ l α B.2.2.1 a0) lb_J6_highestOneBit_0f7a4 ls_J6_highestOneBit_0f7a4 lk_X11_463 rfl (by decide) rfl hl.1 rfl (Nat.le_of_ble_eq_true rfl) dX11_lieBelow_1 ⟨Nat.le_refl _, Nat.le_refl _⟩) (fun _ _ h => by rw [h]; exact B.2.2) rfl (fun rh_1 αh_1 Hh_1 Lh_1 ph_1 Bh_1 => ?_)
  rw [ph_1] at Bh_1
  refine lv_iconst (v := 1) hx hb dX11_lieBelow_4 (by decide) (hp_n (n := 5) rfl ?_)
  refine lv_iconst (v := 0) hx hb dX11_lieBelow_5 (by decide) (hp_n (n := 6) rfl ?_)
  refine lv_iload_n hx hb dX11_lieBelow_6 rfl (lv_at hl 1 rfl) (hp_n (n := 7) rfl ?_)
  refine lv_bipush (v := 30) hx hb dX11_lieBelow_7 (by decide) (hp_n (n := 9) rfl ?_)
  refine q_ci (pc' := 12) Bh_1 (hp_runS (As := [.int a1, .int 30]) (rest := [.int 0, .int 1, .int rh_1]) C Bh_1 (t_J9_min_7cf53 Γ l α Bh_1.2.2.1 a1 30) lb_J9_min_7cf53 ls_J9_min_7cf53 lk_X11_466 rfl (by decide) rfl hl.1 rfl (Nat.le_of_ble_eq_true rfl) dX11_lieBelow_9 ⟨Nat.le_refl _, Nat.le_refl _⟩) (fun _ _ h => by rw [h.1]; exact Bh_1.2.2) rfl (fun rh_2 αh_2 Hh_2 Lh_2 ph_2 Bh_2 => ?_)
  rw [ph_2.1] at Bh_2
  obtain ⟨ph_2a, ph_2b, ph_2c⟩ := ph_2.2
  refine q_ci (pc' := 15) Bh_2 (hp_runS (As := [.int 0, .int rh_2]) (rest := [.int 1, .int rh_1]) C Bh_2 (t_J9_max_7cf53 Γ l α Bh_2.2.2.1 0 rh_2) lb_J9_max_7cf53 ls_J9_max_7cf53 lk_X11_471 rfl (by decide) rfl hl.1 rfl (Nat.le_of_ble_eq_true rfl) dX11_lieBelow_12 ⟨Nat.le_refl _, Nat.le_refl _⟩) (fun _ _ h => by rw [h.1]; exact Bh_2.2.2) rfl (fun rh_3 αh_3 Hh_3 Lh_3 ph_3 Bh_3 => ?_)
  rw [ph_3.1] at Bh_3
  obtain ⟨ph_3a, ph_3b, ph_3c⟩ := ph_3.2
  refine lv_ishl hx hb dX11_lieBelow_15 (hp_n (n := 16) rfl (lv_topi (fun x_4 ex_4 => ?_)))
  refine lv_icmp_ge (tgt := 23) hx hb dX11_lieBelow_16 (by decide) (fun c_5 => ?_) (fun c_5 => hp_n (n := 19) rfl ?_)
  ·
    have jc_5 := il_le c_5
    refine lv_iconst (v := 0) hx hb dX11_lieBelow_23 (by decide) (hp_n (n := 24) rfl ?_)
    exact q_zret C Bh_3 hr hlk (by decide) ⟨rfl, (Or.inl rfl)⟩ dX11_lieBelow_24
  ·
    have jc_5 := il_nle c_5
    refine lv_iconst (v := 1) hx hb dX11_lieBelow_19 (by decide) (hp_n (n := 20) rfl ?_)
    refine lv_goto (tgt := 24) hx hb dX11_lieBelow_20 (by decide) ?_
    exact q_zret C Bh_3 hr hlk (by decide) ⟨rfl, (Or.inr rfl)⟩ dX11_lieBelow_24
abbrev w_X11_wrongInclusion : cw_W := ([], [], [], [])
set_option maxRecDepth 100000 in
set_option maxHeartbeats 4000000 in
theorem t_X11_wrongInclusion (Γ : hp_G) (l : Launch) (α : hp_T) (g : GC α) (o0 : Option Nat) (k0 : ∀ b, o0 = some b → hp_K α b = 3) (a1 : Int32) (a2 : Int32) : Met l yX11_wrongInclusion (hp_ws yX11_wrongInclusion cX11_wrongInclusion 3 (some .int)) (hp_rm 0 0 0) (hp_Pc Γ α [va_rf o0, .int a1, .int a2]) (hp_Qi Γ (fun r β => β = α)) 0 0 (hp_A Γ) := by
  refine hp_start (by decide) ?_
  intro p e s m below meth c C hr hlk B0 hnm
  have C : hp_C Γ p m c cX11_wrongInclusion 3 s ([va_rf o0, .int a1, .int a2] : List Value).toArray RX11 := C
  have hx := C.1.1
  have hb := C.1.2.1
  have hown := C.1.2.2.2.1
  have hts := C.1.2.2.2.2
  have B : hp_B Γ (cw w_X11_wrongInclusion) s α α s.heap [] := ⟨B0.1, B0.2.1, cw_rf g⟩
  have lit0 : (0 : Int32).toInt = 0 := by decide
  have lit1 : (1 : Int32).toInt = 1 := by decide
  have lit2 : (2 : Int32).toInt = 2 := by decide
  have lit5 : (5 : Int32).toInt = 5 := by decide
  rcases o0 with _ | a0
  ·
    have hl := lv_entry ([.null, .int a1, .int a2]) (n := 3) (Nat.le_of_ble_eq_true rfl)
    show W p l e (hp_rm 0 0 0) s m ([.null, .int a1, .int a2] : List Value).toArray below meth c s.heap [] 0 0 (MQ below (hp_Qi Γ (fun r β => β = α)) ([.null, .int a1, .int a2] : List Value).toArray s 0 0 (hp_A Γ)) (entryFrame m ([.null, .int a1, .int a2] : List Value).toArray 3)
    rw [lg_entry_eq]
    generalize (lg_sl ([.null, .int a1, .int a2]) ++ List.replicate (3 - (lg_sl ([.null, .int a1, .int a2])).length) Slot.unset).toArray = ls at hl ⊢
    have hl : lv_has ls 3 [(0, .null), (1, .int a1), (2, .int a2)] := hl
    refine lv_iload_n hx hb dX11_wrongInclusion_0 rfl (lv_at hl 1 rfl) (hp_n (n := 1) rfl ?_)
    refine lv_if_lt (tgt := 8) hx hb dX11_wrongInclusion_1 (by decide) (fun c_1 => ?_) (fun c_1 => hp_n (n := 4) rfl ?_)
    ·
      have jc_1 := il_lt c_1
      refine lv_iconst (v := 1) hx hb dX11_wrongInclusion_8 (by decide) (hp_n (n := 9) rfl ?_)
      exact q_iret C B hr hlk rfl dX11_wrongInclusion_9
    ·
      have jc_1 := il_nlt c_1
      refine lv_iload_n hx hb dX11_wrongInclusion_4 rfl (lv_at hl 2 rfl) (hp_n (n := 5) rfl ?_)
      refine lv_if_ge (tgt := 10) hx hb dX11_wrongInclusion_5 (by decide) (fun c_2 => ?_) (fun c_2 => hp_n (n := 8) rfl ?_)
      ·
        have jc_2 := il_le c_2
        refine lv_aload_nN hx hb dX11_wrongInclusion_10 rfl (lv_at hl 0 rfl) (hp_n (n := 11) rfl ?_)
        refine lv_ifnonnullN hx hb dX11_wrongInclusion_11 (hp_n (n := 14) rfl ?_)
        refine lv_iconst (v := 2) hx hb dX11_wrongInclusion_14 (by decide) (hp_n (n := 15) rfl ?_)
        exact q_iret C B hr hlk rfl dX11_wrongInclusion_15
      ·
        have jc_2 := il_nle c_2
        refine lv_iconst (v := 1) hx hb dX11_wrongInclusion_8 (by decide) (hp_n (n := 9) rfl ?_)
        exact q_iret C B hr hlk rfl dX11_wrongInclusion_9
  ·
    have ka0 := k0 a0 rfl
    have hl := lv_entry ([.ref a0, .int a1, .int a2]) (n := 3) (Nat.le_of_ble_eq_true rfl)
    show W p l e (hp_rm 0 0 0) s m ([.ref a0, .int a1, .int a2] : List Value).toArray below meth c s.heap [] 0 0 (MQ below (hp_Qi Γ (fun r β => β = α)) ([.ref a0, .int a1, .int a2] : List Value).toArray s 0 0 (hp_A Γ)) (entryFrame m ([.ref a0, .int a1, .int a2] : List Value).toArray 3)
    rw [lg_entry_eq]
    generalize (lg_sl ([.ref a0, .int a1, .int a2]) ++ List.replicate (3 - (lg_sl ([.ref a0, .int a1, .int a2])).length) Slot.unset).toArray = ls at hl ⊢
    have hl : lv_has ls 3 [(0, .ref a0), (1, .int a1), (2, .int a2)] := hl
    refine lv_iload_n hx hb dX11_wrongInclusion_0 rfl (lv_at hl 1 rfl) (hp_n (n := 1) rfl ?_)
    refine lv_if_lt (tgt := 8) hx hb dX11_wrongInclusion_1 (by decide) (fun c_3 => ?_) (fun c_3 => hp_n (n := 4) rfl ?_)
    ·
      have jc_3 := il_lt c_3
      refine lv_iconst (v := 1) hx hb dX11_wrongInclusion_8 (by decide) (hp_n (n := 9) rfl ?_)
      exact q_iret C B hr hlk rfl dX11_wrongInclusion_9
    ·
      have jc_3 := il_nlt c_3
      refine lv_iload_n hx hb dX11_wrongInclusion_4 rfl (lv_at hl 2 rfl) (hp_n (n := 5) rfl ?_)
      refine lv_if_ge (tgt := 10) hx hb dX11_wrongInclusion_5 (by decide) (fun c_4 => ?_) (fun c_4 => hp_n (n := 8) rfl ?_)
      ·
        have jc_4 := il_le c_4
        refine lv_aload_n hx hb dX11_wrongInclusion_10 rfl (lv_at hl 0 rfl) (hp_n (n := 11) rfl ?_)
        refine lv_ifnonnull (tgt := 16) hx hb dX11_wrongInclusion_11 (by decide) ?_
        refine lv_iload_n hx hb dX11_wrongInclusion_16 rfl (lv_at hl 2 rfl) (hp_n (n := 17) rfl ?_)
        refine lv_aload_n hx hb dX11_wrongInclusion_17 rfl (lv_at hl 0 rfl) (hp_n (n := 18) rfl ?_)
        refine q_geti (κ := 3) (k := 2) (φ := 152) (pc' := 21) C B (cw_k B.2.2 ka0) fl_X11_167 rfl rfl rfl dX11_wrongInclusion_18 rfl (fun x_5 ex_5 => ?_)
        refine lv_icmp_gt (tgt := 29) hx hb dX11_wrongInclusion_21 (by decide) (fun c_6 => ?_) (fun c_6 => hp_n (n := 24) rfl ?_)
        ·
          have jc_6 := il_lt c_6
          refine lv_iconst (v := 5) hx hb dX11_wrongInclusion_29 (by decide) (hp_n (n := 30) rfl ?_)
          refine lv_goto (tgt := 34) hx hb dX11_wrongInclusion_30 (by decide) ?_
          exact q_iret C B hr hlk rfl dX11_wrongInclusion_34
        ·
          have jc_6 := il_nlt c_6
          refine lv_iload_n hx hb dX11_wrongInclusion_24 rfl (lv_at hl 1 rfl) (hp_n (n := 25) rfl ?_)
          refine lv_iload_n hx hb dX11_wrongInclusion_25 rfl (lv_at hl 2 rfl) (hp_n (n := 26) rfl ?_)
          refine lv_icmp_lt (tgt := 33) hx hb dX11_wrongInclusion_26 (by decide) (fun c_7 => ?_) (fun c_7 => hp_n (n := 29) rfl ?_)
          ·
            have jc_7 := il_lt c_7
            refine lv_iconst (v := 0) hx hb dX11_wrongInclusion_33 (by decide) (hp_n (n := 34) rfl ?_)
            exact q_iret C B hr hlk rfl dX11_wrongInclusion_34
          ·
            have jc_7 := il_nlt c_7
            refine lv_iconst (v := 5) hx hb dX11_wrongInclusion_29 (by decide) (hp_n (n := 30) rfl ?_)
            refine lv_goto (tgt := 34) hx hb dX11_wrongInclusion_30 (by decide) ?_
            exact q_iret C B hr hlk rfl dX11_wrongInclusion_34
      ·
        have jc_4 := il_nle c_4
        refine lv_iconst (v := 1) hx hb dX11_wrongInclusion_8 (by decide) (hp_n (n := 9) rfl ?_)
        exact q_iret C B hr hlk rfl dX11_wrongInclusion_9
abbrev w_X11_wrongGrowth : cw_W := ([], [], [], [])
set_option maxRecDepth 100000 in
set_option maxHeartbeats 4000000 in
theorem t_X11_wrongGrowth (Γ : hp_G) (l : Launch) (α : hp_T) (g : GC α) (o0 : Option Nat) (k0 : ∀ b, o0 = some b → hp_K α b = 3) (a1 : Int32) (a2 : Int32) : Met l yX11_wrongGrowth (hp_ws yX11_wrongGrowth cX11_wrongGrowth 3 (some .int)) (hp_rm 0 0 0) (hp_Pc Γ α [va_rf o0, .int a1, .int a2]) (hp_Qi Γ (fun r β => β = α)) 0 0 (hp_A Γ) := by
  refine hp_start (by decide) ?_
  intro p e s m below meth c C hr hlk B0 hnm
  have C : hp_C Γ p m c cX11_wrongGrowth 3 s ([va_rf o0, .int a1, .int a2] : List Value).toArray RX11 := C
  have hx := C.1.1
  have hb := C.1.2.1
  have hown := C.1.2.2.2.1
  have hts := C.1.2.2.2.2
  have B : hp_B Γ (cw w_X11_wrongGrowth) s α α s.heap [] := ⟨B0.1, B0.2.1, cw_rf g⟩
  have lit0 : (0 : Int32).toInt = 0 := by decide
  have lit1 : (1 : Int32).toInt = 1 := by decide
  have lit2 : (2 : Int32).toInt = 2 := by decide
  have lit5 : (5 : Int32).toInt = 5 := by decide
  rcases o0 with _ | a0
  ·
    have hl := lv_entry ([.null, .int a1, .int a2]) (n := 3) (Nat.le_of_ble_eq_true rfl)
    show W p l e (hp_rm 0 0 0) s m ([.null, .int a1, .int a2] : List Value).toArray below meth c s.heap [] 0 0 (MQ below (hp_Qi Γ (fun r β => β = α)) ([.null, .int a1, .int a2] : List Value).toArray s 0 0 (hp_A Γ)) (entryFrame m ([.null, .int a1, .int a2] : List Value).toArray 3)
    rw [lg_entry_eq]
    generalize (lg_sl ([.null, .int a1, .int a2]) ++ List.replicate (3 - (lg_sl ([.null, .int a1, .int a2])).length) Slot.unset).toArray = ls at hl ⊢
    have hl : lv_has ls 3 [(0, .null), (1, .int a1), (2, .int a2)] := hl
    refine lv_iload_n hx hb dX11_wrongGrowth_0 rfl (lv_at hl 1 rfl) (hp_n (n := 1) rfl ?_)
    refine lv_if_lt (tgt := 9) hx hb dX11_wrongGrowth_1 (by decide) (fun c_1 => ?_) (fun c_1 => hp_n (n := 4) rfl ?_)
    ·
      have jc_1 := il_lt c_1
      refine lv_iconst (v := 1) hx hb dX11_wrongGrowth_9 (by decide) (hp_n (n := 10) rfl ?_)
      exact q_iret C B hr hlk rfl dX11_wrongGrowth_10
    ·
      have jc_1 := il_nlt c_1
      refine lv_iload_n hx hb dX11_wrongGrowth_4 rfl (lv_at hl 1 rfl) (hp_n (n := 5) rfl ?_)
      refine lv_iload_n hx hb dX11_wrongGrowth_5 rfl (lv_at hl 2 rfl) (hp_n (n := 6) rfl ?_)
      refine lv_icmp_le (tgt := 11) hx hb dX11_wrongGrowth_6 (by decide) (fun c_2 => ?_) (fun c_2 => hp_n (n := 9) rfl ?_)
      ·
        have jc_2 := il_le c_2
        refine lv_aload_nN hx hb dX11_wrongGrowth_11 rfl (lv_at hl 0 rfl) (hp_n (n := 12) rfl ?_)
        refine lv_ifnonnullN hx hb dX11_wrongGrowth_12 (hp_n (n := 15) rfl ?_)
        refine lv_iconst (v := 2) hx hb dX11_wrongGrowth_15 (by decide) (hp_n (n := 16) rfl ?_)
        exact q_iret C B hr hlk rfl dX11_wrongGrowth_16
      ·
        have jc_2 := il_nle c_2
        refine lv_iconst (v := 1) hx hb dX11_wrongGrowth_9 (by decide) (hp_n (n := 10) rfl ?_)
        exact q_iret C B hr hlk rfl dX11_wrongGrowth_10
  ·
    have ka0 := k0 a0 rfl
    have hl := lv_entry ([.ref a0, .int a1, .int a2]) (n := 3) (Nat.le_of_ble_eq_true rfl)
    show W p l e (hp_rm 0 0 0) s m ([.ref a0, .int a1, .int a2] : List Value).toArray below meth c s.heap [] 0 0 (MQ below (hp_Qi Γ (fun r β => β = α)) ([.ref a0, .int a1, .int a2] : List Value).toArray s 0 0 (hp_A Γ)) (entryFrame m ([.ref a0, .int a1, .int a2] : List Value).toArray 3)
    rw [lg_entry_eq]
    generalize (lg_sl ([.ref a0, .int a1, .int a2]) ++ List.replicate (3 - (lg_sl ([.ref a0, .int a1, .int a2])).length) Slot.unset).toArray = ls at hl ⊢
    have hl : lv_has ls 3 [(0, .ref a0), (1, .int a1), (2, .int a2)] := hl
    refine lv_iload_n hx hb dX11_wrongGrowth_0 rfl (lv_at hl 1 rfl) (hp_n (n := 1) rfl ?_)
    refine lv_if_lt (tgt := 9) hx hb dX11_wrongGrowth_1 (by decide) (fun c_3 => ?_) (fun c_3 => hp_n (n := 4) rfl ?_)
    ·
      have jc_3 := il_lt c_3
      refine lv_iconst (v := 1) hx hb dX11_wrongGrowth_9 (by decide) (hp_n (n := 10) rfl ?_)
      exact q_iret C B hr hlk rfl dX11_wrongGrowth_10
    ·
      have jc_3 := il_nlt c_3
      refine lv_iload_n hx hb dX11_wrongGrowth_4 rfl (lv_at hl 1 rfl) (hp_n (n := 5) rfl ?_)
      refine lv_iload_n hx hb dX11_wrongGrowth_5 rfl (lv_at hl 2 rfl) (hp_n (n := 6) rfl ?_)
      refine lv_icmp_le (tgt := 11) hx hb dX11_wrongGrowth_6 (by decide) (fun c_4 => ?_) (fun c_4 => hp_n (n := 9) rfl ?_)
      ·
        have jc_4 := il_le c_4
        refine lv_aload_n hx hb dX11_wrongGrowth_11 rfl (lv_at hl 0 rfl) (hp_n (n := 12) rfl ?_)
        refine lv_ifnonnull (tgt := 17) hx hb dX11_wrongGrowth_12 (by decide) ?_
        refine lv_iload_n hx hb dX11_wrongGrowth_17 rfl (lv_at hl 2 rfl) (hp_n (n := 18) rfl ?_)
        refine lv_aload_n hx hb dX11_wrongGrowth_18 rfl (lv_at hl 0 rfl) (hp_n (n := 19) rfl ?_)
        refine q_geti (κ := 3) (k := 2) (φ := 152) (pc' := 22) C B (cw_k B.2.2 ka0) fl_X11_167 rfl rfl rfl dX11_wrongGrowth_19 rfl (fun x_5 ex_5 => ?_)
        refine lv_icmp_le (tgt := 29) hx hb dX11_wrongGrowth_22 (by decide) (fun c_6 => ?_) (fun c_6 => hp_n (n := 25) rfl ?_)
        ·
          have jc_6 := il_le c_6
          refine lv_iconst (v := 0) hx hb dX11_wrongGrowth_29 (by decide) (hp_n (n := 30) rfl ?_)
          exact q_iret C B hr hlk rfl dX11_wrongGrowth_30
        ·
          have jc_6 := il_nle c_6
          refine lv_iconst (v := 5) hx hb dX11_wrongGrowth_25 (by decide) (hp_n (n := 26) rfl ?_)
          refine lv_goto (tgt := 30) hx hb dX11_wrongGrowth_26 (by decide) ?_
          exact q_iret C B hr hlk rfl dX11_wrongGrowth_30
      ·
        have jc_4 := il_nle c_4
        refine lv_iconst (v := 1) hx hb dX11_wrongGrowth_9 (by decide) (hp_n (n := 10) rfl ?_)
        exact q_iret C B hr hlk rfl dX11_wrongGrowth_10
abbrev w_X11_loadLines : cw_W := ([100, 101, 102, 103, 152, 204, 205, 206, 208, 209, 301, 351, 352, 353, 354, 355, 356, 400, 401, 402, 403, 453, 454, 501, 550, 552, 554, 556], [350], [20, 21, 22, 23, 27, 29, 33], [])
set_option maxRecDepth 100000 in
set_option maxHeartbeats 4000000 in
theorem t_X11_loadLines (Γ : hp_G) (l : Launch) (α : hp_T) (g : GC α) (a0 : Nat) (k0 : hp_K α a0 = 12) (a1 : Int32) : Met l yX11_loadLines (hp_ws yX11_loadLines cX11_loadLines 5 (some .boolean)) (hp_rm 7 0 0) (hp_Pc Γ α [.ref a0, .int a1]) (hp_Qi Γ (fun r β => cw w_X11_loadLines α β ∧ (r = 0 ∨ r = 1))) 0 0 (hp_A Γ) := by
  refine hp_start (by decide) ?_
  intro p e s m below meth c C hr hlk B0 hnm
  have C : hp_C Γ p m c cX11_loadLines 5 s ([.ref a0, .int a1] : List Value).toArray RX11 := C
  have hx := C.1.1
  have hb := C.1.2.1
  have hown := C.1.2.2.2.1
  have hts := C.1.2.2.2.2
  have B : hp_B Γ (cw w_X11_loadLines) s α α s.heap [] := ⟨B0.1, B0.2.1, cw_rf g⟩
  have lit0 : (0 : Int32).toInt = 0 := by decide
  have lit1 : (1 : Int32).toInt = 1 := by decide
  have lit2 : (2 : Int32).toInt = 2 := by decide
  have lit3 : (3 : Int32).toInt = 3 := by decide
  have lit900 : (900 : Int32).toInt = 900 := by decide
  have hl := lv_entry ([.ref a0, .int a1]) (n := 5) (Nat.le_of_ble_eq_true rfl)
  show W p l e (hp_rm 7 0 0) s m ([.ref a0, .int a1] : List Value).toArray below meth c s.heap [] 0 0 (MQ below (hp_Qi Γ (fun r β => cw w_X11_loadLines α β ∧ (r = 0 ∨ r = 1))) ([.ref a0, .int a1] : List Value).toArray s 0 0 (hp_A Γ)) (entryFrame m ([.ref a0, .int a1] : List Value).toArray 5)
  rw [lg_entry_eq]
  generalize (lg_sl ([.ref a0, .int a1]) ++ List.replicate (5 - (lg_sl ([.ref a0, .int a1])).length) Slot.unset).toArray = ls at hl ⊢
  have hl : lv_has ls 5 [(0, .ref a0), (1, .int a1)] := hl
  refine lv_aload_n hx hb dX11_loadLines_0 rfl (lv_at hl 0 rfl) (hp_n (n := 1) rfl ?_)
  refine q_getr (κ := 12) (k := 16) (φ := 616) (pc' := 4) C B (cw_k B.2.2 k0) fl_X11_82 rfl rfl rfl (cw_r B.2.2 k0 rfl rfl (by decide) (by decide)) dX11_loadLines_1 rfl (fun b_1 eb_1 kb_1 => ?_)
  refine lv_aload_n hx hb dX11_loadLines_4 rfl (lv_at hl 0 rfl) (hp_n (n := 5) rfl ?_)
  refine q_getr (κ := 12) (k := 4) (φ := 604) (pc' := 8) C B (cw_k B.2.2 k0) fl_X11_30 rfl rfl rfl (cw_r B.2.2 k0 rfl rfl (by decide) (by decide)) dX11_loadLines_5 rfl (fun b_2 eb_2 kb_2 => ?_)
  refine lv_iload_n hx hb dX11_loadLines_8 rfl (lv_at hl 1 rfl) (hp_n (n := 9) rfl ?_)
  refine q_cv (pc' := 12) B (hp_runV (As := [.ref b_2, .int a1]) (rest := []) C B (t_X3_begin Γ l α B.2.2.1 b_1 (cw_k B.2.2 kb_1) b_2 (cw_k B.2.2 kb_2) a1) lb_X3_begin lv_X3_begin lk_X11_118 (cw_k B.2.2 kb_1) rfl (by decide) rfl hl.1 rfl (Nat.le_of_ble_eq_true rfl) dX11_loadLines_9 ⟨Nat.le_refl _, Nat.le_refl _⟩) (fun _ h => cw_tr B.2.2 h (by decide)) rfl (fun αh_3 Hh_3 Lh_3 ph_3 Bh_3 => ?_)
  refine lv_aload_n hx hb dX11_loadLines_12 rfl (lv_at hl 0 rfl) (hp_n (n := 13) rfl ?_)
  have t_4 : b_1 = hp_R αh_3 616 a0 := by rw [cw_R ph_3 a0 (by decide)]; exact eb_1
  refine q_gets (κ := 12) (k := 16) (φ := 616) (pc' := 16) C Bh_3 (cw_k Bh_3.2.2 k0) fl_X11_82 rfl rfl rfl t_4 dX11_loadLines_13 rfl ?_
  refine lv_aload_n hx hb dX11_loadLines_16 rfl (lv_at hl 0 rfl) (hp_n (n := 17) rfl ?_)
  refine q_getr (κ := 12) (k := 2) (φ := 602) (pc' := 20) C Bh_3 (cw_k Bh_3.2.2 k0) fl_X11_20 rfl rfl rfl (cw_r Bh_3.2.2 k0 rfl rfl (by decide) (by decide)) dX11_loadLines_17 rfl (fun b_5 eb_5 kb_5 => ?_)
  refine q_ci (pc' := 23) Bh_3 (hp_runV (As := [.ref b_5]) (rest := []) C Bh_3 (t_X3_readModulus Γ l αh_3 Bh_3.2.2.1 b_1 (cw_k Bh_3.2.2 kb_1) b_5 (cw_k Bh_3.2.2 kb_5)) lb_X3_readModulus lv_X3_readModulus lk_X11_439 (cw_k Bh_3.2.2 kb_1) rfl (by decide) rfl hl.1 rfl (Nat.le_of_ble_eq_true rfl) dX11_loadLines_20 ⟨Nat.le_refl _, Nat.le_refl _⟩) (fun _ _ h => cw_tr Bh_3.2.2 h.1 (by decide)) rfl (fun rh_6 αh_6 Hh_6 Lh_6 ph_6 Bh_6 => ?_)
  have zh_6 := ph_6.2
  refine lv_if_ne (tgt := 28) hx hb dX11_loadLines_23 (by decide) (fun c_7 => ?_) (fun c_7 => hp_n (n := 26) rfl ?_)
  ·
    have jc_7 := il_ne c_7
    refine lv_iconst (v := 0) hx hb dX11_loadLines_28 (by decide) (hp_n (n := 29) rfl ?_)
    refine lv_istore_n (lv' := [(2, .int 0), (0, .ref a0), (1, .int a1)]) hx hb dX11_loadLines_29 rfl hl (by decide) rfl (fun ls hl => hp_n (n := 30) rfl ?_)
    refine lv_iconst (v := 0) hx hb dX11_loadLines_30 (by decide) (hp_n (n := 31) rfl ?_)
    have J32 : ∀ (nq : Nat) (αh_8 : hp_T) (Hh_8 : Heap) (Lh_8 : List Loc) (Bh_8 : hp_B Γ (cw w_X11_loadLines) s α αh_8 Hh_8 Lh_8) (v2_h_8 : Int32) (v3_h_8 : Int32) (ih_8_0 : 0 ≤ v3_h_8.toInt) (ls : Array Slot) (hl : lv_has ls 5 [(0, .ref a0), (2, .int v2_h_8), (3, .int v3_h_8)]) (hmu32 : (2147483647 - v3_h_8.toInt).toNat = nq), W p l e (hp_rm 7 0 0) s m ([.ref a0, .int a1] : List Value).toArray below meth c Hh_8 Lh_8 0 0 (MQ below (hp_Qi Γ (fun r β => cw w_X11_loadLines α β ∧ (r = 0 ∨ r = 1))) ([.ref a0, .int a1] : List Value).toArray s 0 0 (hp_A Γ)) (F0 m 32 ls []) := by
      intro nq
      induction nq using Nat.strongRecOn with
      | ind nq ih32 =>
      intro αh_8 Hh_8 Lh_8 Bh_8 v2_h_8 v3_h_8 ih_8_0 ls hl hmu32
      have inv32_0 := ih_8_0
      refine lv_iload_n hx hb dX11_loadLines_32 rfl (lv_at hl 2 rfl) (hp_n (n := 33) rfl ?_)
      refine lv_sipush (v := 900) hx hb dX11_loadLines_33 (by decide) (hp_n (n := 36) rfl ?_)
      refine lv_icmp_ge (tgt := 219) hx hb dX11_loadLines_36 (by decide) (fun c_9 => ?_) (fun c_9 => hp_n (n := 39) rfl ?_)
      ·
        have jc_9 := il_le c_9
        refine lv_iconst (v := 1) hx hb dX11_loadLines_219 (by decide) (hp_n (n := 220) rfl ?_)
        exact q_zret C Bh_8 hr hlk (by decide) ⟨Bh_8.2.2, (Or.inr rfl)⟩ dX11_loadLines_220
      ·
        have jc_9 := il_nle c_9
        refine lv_aload_n hx hb dX11_loadLines_39 rfl (lv_at hl 0 rfl) (hp_n (n := 40) rfl ?_)
        refine q_getr (κ := 12) (k := 16) (φ := 616) (pc' := 43) C Bh_8 (cw_k Bh_8.2.2 k0) fl_X11_82 rfl rfl rfl (cw_r Bh_8.2.2 k0 rfl rfl (by decide) (by decide)) dX11_loadLines_40 rfl (fun b_10 eb_10 kb_10 => ?_)
        refine q_ci (pc' := 46) Bh_8 (hp_runV (As := []) (rest := []) C Bh_8 (t_X3_isAtEnd Γ l αh_8 Bh_8.2.2.1 b_10 (cw_k Bh_8.2.2 kb_10)) lb_X3_isAtEnd lv_X3_isAtEnd lk_X11_443 (cw_k Bh_8.2.2 kb_10) rfl (by decide) rfl hl.1 rfl (Nat.le_of_ble_eq_true rfl) dX11_loadLines_43 ⟨Nat.le_refl _, Nat.le_refl _⟩) (fun _ _ h => by rw [h.1]; exact Bh_8.2.2) rfl (fun rh_11 αh_11 Hh_11 Lh_11 ph_11 Bh_11 => ?_)
        rw [ph_11.1] at Bh_11
        have zh_11 := ph_11.2
        refine lv_if_ne (tgt := 219) hx hb dX11_loadLines_46 (by decide) (fun c_12 => ?_) (fun c_12 => hp_n (n := 49) rfl ?_)
        ·
          have jc_12 := il_ne c_12
          refine lv_iconst (v := 1) hx hb dX11_loadLines_219 (by decide) (hp_n (n := 220) rfl ?_)
          exact q_zret C Bh_11 hr hlk (by decide) ⟨Bh_11.2.2, (Or.inr rfl)⟩ dX11_loadLines_220
        ·
          have jc_12 := il_eq c_12
          refine lv_aload_n hx hb dX11_loadLines_49 rfl (lv_at hl 0 rfl) (hp_n (n := 50) rfl ?_)
          refine q_getr (κ := 12) (k := 2) (φ := 602) (pc' := 53) C Bh_11 (cw_k Bh_11.2.2 k0) fl_X11_20 rfl rfl rfl (cw_r Bh_11.2.2 k0 rfl rfl (by decide) (by decide)) dX11_loadLines_50 rfl (fun b_13 eb_13 kb_13 => ?_)
          refine lv_iload_n hx hb dX11_loadLines_53 rfl (lv_at hl 1 rfl) (hp_n (n := 54) rfl ?_)
          refine q_cq (pc' := 57) Bh_11 (hp_runV (As := [.int v2_h_8]) (rest := []) C Bh_11 (t_X10_logAt Γ l αh_8 Bh_11.2.2.1 b_13 (cw_k Bh_11.2.2 kb_13) v2_h_8) lb_X10_logAt lv_X10_logAt lk_X11_163 (cw_k Bh_11.2.2 kb_13) rfl (by decide) rfl hl.1 rfl (Nat.le_of_ble_eq_true rfl) dX11_loadLines_54 ⟨Nat.le_refl _, Nat.le_refl _⟩) (fun _ _ h => by rw [h.1]; exact Bh_11.2.2) rfl (fun rh_14 αh_14 Hh_14 Lh_14 ph_14 Bh_14 => ?_)
          rw [ph_14.1] at Bh_14
          rcases rh_14 with _ | bh_14
          ·
            refine lv_astoreN (lv' := [(4, .null), (0, .ref a0), (2, .int v2_h_8), (3, .int v3_h_8)]) hx hb dX11_loadLines_57 hl (by decide) rfl (fun ls hl => hp_n (n := 59) rfl ?_)
            refine lv_aloadN hx hb dX11_loadLines_59 (lv_at hl 0 rfl) (hp_n (n := 61) rfl ?_)
            refine lv_ifnullN (tgt := 80) hx hb dX11_loadLines_61 (by decide) ?_
            refine lv_iconst (v := 0) hx hb dX11_loadLines_80 (by decide) (hp_n (n := 81) rfl ?_)
            exact q_zret C Bh_14 hr hlk (by decide) ⟨Bh_14.2.2, (Or.inl rfl)⟩ dX11_loadLines_81
          ·
            have kbh_14 : hp_K α bh_14 = 3 := cw_k' Bh_14.2.2 (ph_14.2 bh_14 rfl)
            refine lv_astore (lv' := [(4, .ref bh_14), (0, .ref a0), (2, .int v2_h_8), (3, .int v3_h_8)]) hx hb dX11_loadLines_57 hl (by decide) rfl (fun ls hl => hp_n (n := 59) rfl ?_)
            refine lv_aload hx hb dX11_loadLines_59 (lv_at hl 0 rfl) (hp_n (n := 61) rfl ?_)
            refine lv_ifnull hx hb dX11_loadLines_61 (hp_n (n := 64) rfl ?_)
            refine lv_aload_n hx hb dX11_loadLines_64 rfl (lv_at hl 1 rfl) (hp_n (n := 65) rfl ?_)
            refine q_gets (κ := 12) (k := 16) (φ := 616) (pc' := 68) C Bh_14 (cw_k Bh_14.2.2 k0) fl_X11_82 rfl rfl rfl eb_10 dX11_loadLines_65 rfl ?_
            refine lv_aload_n hx hb dX11_loadLines_68 rfl (lv_at hl 1 rfl) (hp_n (n := 69) rfl ?_)
            refine q_gets (κ := 12) (k := 2) (φ := 602) (pc' := 72) C Bh_14 (cw_k Bh_14.2.2 k0) fl_X11_20 rfl rfl rfl eb_13 dX11_loadLines_69 rfl ?_
            refine lv_aload hx hb dX11_loadLines_72 (lv_at hl 0 rfl) (hp_n (n := 74) rfl ?_)
            refine q_ci (pc' := 77) Bh_14 (hp_runV (As := [.ref b_13, .ref bh_14]) (rest := []) C Bh_14 (t_X3_readLine Γ l αh_8 Bh_14.2.2.1 b_10 (cw_k Bh_14.2.2 kb_10) b_13 (cw_k Bh_14.2.2 kb_13) bh_14 (cw_k Bh_14.2.2 kbh_14)) lb_X3_readLine lv_X3_readLine lk_X11_447 (cw_k Bh_14.2.2 kb_10) rfl (by decide) rfl hl.1 rfl (Nat.le_of_ble_eq_true rfl) dX11_loadLines_74 ⟨Nat.le_refl _, Nat.le_refl _⟩) (fun _ _ h => cw_tr Bh_14.2.2 h.1 (by decide)) rfl (fun rh_15 αh_15 Hh_15 Lh_15 ph_15 Bh_15 => ?_)
            have zh_15 := ph_15.2
            refine lv_if_ne (tgt := 82) hx hb dX11_loadLines_77 (by decide) (fun c_16 => ?_) (fun c_16 => hp_n (n := 80) rfl ?_)
            ·
              have jc_16 := il_ne c_16
              refine lv_aload_n hx hb dX11_loadLines_82 rfl (lv_at hl 1 rfl) (hp_n (n := 83) rfl ?_)
              have t_17 : b_10 = hp_R αh_15 616 a0 := by rw [cw_R ph_15.1 a0 (by decide)]; exact eb_10
              refine q_gets (κ := 12) (k := 16) (φ := 616) (pc' := 86) C Bh_15 (cw_k Bh_15.2.2 k0) fl_X11_82 rfl rfl rfl t_17 dX11_loadLines_83 rfl ?_
              refine q_geti (κ := 4) (k := 6) (φ := 206) (pc' := 89) C Bh_15 (cw_k Bh_15.2.2 kb_10) fl_X11_451 rfl rfl rfl dX11_loadLines_86 rfl (fun x_18 ex_18 => ?_)
              by_cases c_19 : x_18 = 0
              · have jc_19 := il_eq c_19
                refine lv_tableIn (off := 31) (tgt := 120) hx hb dX11_loadLines_89 (by omega) (by omega) (by rw [jc_19, lit0]; rfl) (by decide) ?_
                refine lv_aload_n hx hb dX11_loadLines_120 rfl (lv_at hl 1 rfl) (hp_n (n := 121) rfl ?_)
                have t_20 : b_13 = hp_R αh_15 602 a0 := by rw [cw_R ph_15.1 a0 (by decide)]; exact eb_13
                refine q_gets (κ := 12) (k := 2) (φ := 602) (pc' := 124) C Bh_15 (cw_k Bh_15.2.2 k0) fl_X11_20 rfl rfl rfl t_20 dX11_loadLines_121 rfl ?_
                refine lv_aload hx hb dX11_loadLines_124 (lv_at hl 0 rfl) (hp_n (n := 126) rfl ?_)
                refine lv_aload_n hx hb dX11_loadLines_126 rfl (lv_at hl 1 rfl) (hp_n (n := 127) rfl ?_)
                refine q_gets (κ := 12) (k := 16) (φ := 616) (pc' := 130) C Bh_15 (cw_k Bh_15.2.2 k0) fl_X11_82 rfl rfl rfl t_17 dX11_loadLines_127 rfl ?_
                refine q_getr (κ := 4) (k := 7) (φ := 207) (pc' := 133) C Bh_15 (cw_k Bh_15.2.2 kb_10) fl_X11_454 rfl rfl rfl (cw_r Bh_15.2.2 kb_10 rfl rfl (by decide) (by decide)) dX11_loadLines_130 rfl (fun b_21 eb_21 kb_21 => ?_)
                refine q_cv (pc' := 136) Bh_15 (hp_runV (As := [.ref bh_14, .ref b_21]) (rest := []) C Bh_15 (t_X10_addWord Γ l αh_15 Bh_15.2.2.1 b_13 (cw_k Bh_15.2.2 kb_13) bh_14 (cw_k Bh_15.2.2 kbh_14) b_21 (cw_k Bh_15.2.2 kb_21)) lb_X10_addWord lv_X10_addWord lk_X11_237 (cw_k Bh_15.2.2 kb_13) rfl (by decide) rfl hl.1 rfl (Nat.le_of_ble_eq_true rfl) dX11_loadLines_133 ⟨Nat.le_refl _, Nat.le_refl _⟩) (fun _ h => cw_tr Bh_15.2.2 h (by decide)) rfl (fun αh_22 Hh_22 Lh_22 ph_22 Bh_22 => ?_)
                refine lv_goto (tgt := 213) hx hb dX11_loadLines_136 (by decide) ?_
                obtain ⟨x_23, ex_23⟩ : ∃ y : Int32, y = v3_h_8 + 1 := ⟨_, rfl⟩
                have qx_23 : x_23.toInt = v3_h_8.toInt + 1 := by have qa := ib_lo v3_h_8; rw [ex_23]; exact ii_add (by omega) (by omega)
                refine lv_iinc (v := x_23) (lv' := [(3, .int x_23), (4, .ref bh_14), (0, .ref a0), (2, .int v2_h_8)]) hx hb dX11_loadLines_213 hl (k := 3) rfl (by rw [ex_23]; rfl) (by decide) rfl (fun ls hl => hp_n (n := 216) rfl ?_)
                refine lv_goto (tgt := 32) hx hb dX11_loadLines_216 (by decide) ?_
                exact ih32 _ (by have qa := ib_hi v3_h_8; have qb := ib_lo v3_h_8; have qc : (v3_h_8 + 1).toInt = v3_h_8.toInt + (1 : Int32).toInt := ii_add (by omega) (by omega); rw [ex_23]; omega) αh_22 Hh_22 Lh_22 Bh_22 v2_h_8 x_23 (by omega) ls (lv_sub hl [2, 3, 0] rfl) rfl
              have jc_19 := il_ne c_19
              by_cases c_24 : x_18 = 1
              · have jc_24 := il_eq c_24
                refine lv_tableIn (off := 50) (tgt := 139) hx hb dX11_loadLines_89 (by omega) (by omega) (by rw [jc_24, lit1]; rfl) (by decide) ?_
                refine lv_aload_n hx hb dX11_loadLines_139 rfl (lv_at hl 1 rfl) (hp_n (n := 140) rfl ?_)
                refine q_gets (κ := 12) (k := 16) (φ := 616) (pc' := 143) C Bh_15 (cw_k Bh_15.2.2 k0) fl_X11_82 rfl rfl rfl t_17 dX11_loadLines_140 rfl ?_
                refine q_geti (κ := 4) (k := 9) (φ := 209) (pc' := 146) C Bh_15 (cw_k Bh_15.2.2 kb_10) fl_X11_457 rfl rfl rfl dX11_loadLines_143 rfl (fun x_25 ex_25 => ?_)
                refine lv_istore_n (lv' := [(2, .int x_25), (4, .ref bh_14), (0, .ref a0), (3, .int v3_h_8)]) hx hb dX11_loadLines_146 rfl hl (by decide) rfl (fun ls hl => hp_n (n := 147) rfl ?_)
                refine lv_goto (tgt := 213) hx hb dX11_loadLines_147 (by decide) ?_
                obtain ⟨x_26, ex_26⟩ : ∃ y : Int32, y = v3_h_8 + 1 := ⟨_, rfl⟩
                have qx_26 : x_26.toInt = v3_h_8.toInt + 1 := by have qa := ib_lo v3_h_8; rw [ex_26]; exact ii_add (by omega) (by omega)
                refine lv_iinc (v := x_26) (lv' := [(3, .int x_26), (2, .int x_25), (4, .ref bh_14), (0, .ref a0)]) hx hb dX11_loadLines_213 hl (k := 3) rfl (by rw [ex_26]; rfl) (by decide) rfl (fun ls hl => hp_n (n := 216) rfl ?_)
                refine lv_goto (tgt := 32) hx hb dX11_loadLines_216 (by decide) ?_
                exact ih32 _ (by have qa := ib_hi v3_h_8; have qb := ib_lo v3_h_8; have qc : (v3_h_8 + 1).toInt = v3_h_8.toInt + (1 : Int32).toInt := ii_add (by omega) (by omega); rw [ex_26]; omega) αh_15 Hh_15 Lh_15 Bh_15 x_25 x_26 (by omega) ls (lv_sub hl [3, 1, 0] rfl) rfl
              have jc_24 := il_ne c_24
              by_cases c_27 : x_18 = 2
              · have jc_27 := il_eq c_27
                refine lv_tableIn (off := 61) (tgt := 150) hx hb dX11_loadLines_89 (by omega) (by omega) (by rw [jc_27, lit2]; rfl) (by decide) ?_
                refine lv_aload_n hx hb dX11_loadLines_150 rfl (lv_at hl 1 rfl) (hp_n (n := 151) rfl ?_)
                have t_28 : b_13 = hp_R αh_15 602 a0 := by rw [cw_R ph_15.1 a0 (by decide)]; exact eb_13
                refine q_gets (κ := 12) (k := 2) (φ := 602) (pc' := 154) C Bh_15 (cw_k Bh_15.2.2 k0) fl_X11_20 rfl rfl rfl t_28 dX11_loadLines_151 rfl ?_
                refine lv_aload hx hb dX11_loadLines_154 (lv_at hl 0 rfl) (hp_n (n := 156) rfl ?_)
                refine lv_aload_n hx hb dX11_loadLines_156 rfl (lv_at hl 1 rfl) (hp_n (n := 157) rfl ?_)
                refine q_gets (κ := 12) (k := 16) (φ := 616) (pc' := 160) C Bh_15 (cw_k Bh_15.2.2 k0) fl_X11_82 rfl rfl rfl t_17 dX11_loadLines_157 rfl ?_
                refine q_geti (κ := 4) (k := 9) (φ := 209) (pc' := 163) C Bh_15 (cw_k Bh_15.2.2 kb_10) fl_X11_457 rfl rfl rfl dX11_loadLines_160 rfl (fun x_29 ex_29 => ?_)
                refine q_ci (pc' := 166) Bh_15 (hp_runV (As := [.ref bh_14, .int x_29]) (rest := []) C Bh_15 (t_X10_forkLog Γ l αh_15 Bh_15.2.2.1 b_13 (cw_k Bh_15.2.2 kb_13) bh_14 (cw_k Bh_15.2.2 kbh_14) x_29) lb_X10_forkLog lv_X10_forkLog lk_X11_241 (cw_k Bh_15.2.2 kb_13) rfl (by decide) rfl hl.1 rfl (Nat.le_of_ble_eq_true rfl) dX11_loadLines_163 ⟨Nat.le_refl _, Nat.le_refl _⟩) (fun _ _ h => cw_tr Bh_15.2.2 h (by decide)) rfl (fun rh_30 αh_30 Hh_30 Lh_30 ph_30 Bh_30 => ?_)
                refine lv_istore_n (lv' := [(2, .int rh_30), (4, .ref bh_14), (0, .ref a0), (3, .int v3_h_8)]) hx hb dX11_loadLines_166 rfl hl (by decide) rfl (fun ls hl => hp_n (n := 167) rfl ?_)
                refine lv_goto (tgt := 213) hx hb dX11_loadLines_167 (by decide) ?_
                obtain ⟨x_31, ex_31⟩ : ∃ y : Int32, y = v3_h_8 + 1 := ⟨_, rfl⟩
                have qx_31 : x_31.toInt = v3_h_8.toInt + 1 := by have qa := ib_lo v3_h_8; rw [ex_31]; exact ii_add (by omega) (by omega)
                refine lv_iinc (v := x_31) (lv' := [(3, .int x_31), (2, .int rh_30), (4, .ref bh_14), (0, .ref a0)]) hx hb dX11_loadLines_213 hl (k := 3) rfl (by rw [ex_31]; rfl) (by decide) rfl (fun ls hl => hp_n (n := 216) rfl ?_)
                refine lv_goto (tgt := 32) hx hb dX11_loadLines_216 (by decide) ?_
                exact ih32 _ (by have qa := ib_hi v3_h_8; have qb := ib_lo v3_h_8; have qc : (v3_h_8 + 1).toInt = v3_h_8.toInt + (1 : Int32).toInt := ii_add (by omega) (by omega); rw [ex_31]; omega) αh_30 Hh_30 Lh_30 Bh_30 rh_30 x_31 (by omega) ls (lv_sub hl [3, 1, 0] rfl) rfl
              have jc_27 := il_ne c_27
              by_cases c_32 : x_18 = 3
              · have jc_32 := il_eq c_32
                refine lv_tableIn (off := 81) (tgt := 170) hx hb dX11_loadLines_89 (by omega) (by omega) (by rw [jc_32, lit3]; rfl) (by decide) ?_
                refine lv_aload_n hx hb dX11_loadLines_170 rfl (lv_at hl 1 rfl) (hp_n (n := 171) rfl ?_)
                have t_33 : b_13 = hp_R αh_15 602 a0 := by rw [cw_R ph_15.1 a0 (by decide)]; exact eb_13
                refine q_gets (κ := 12) (k := 2) (φ := 602) (pc' := 174) C Bh_15 (cw_k Bh_15.2.2 k0) fl_X11_20 rfl rfl rfl t_33 dX11_loadLines_171 rfl ?_
                refine lv_iload_n hx hb dX11_loadLines_174 rfl (lv_at hl 2 rfl) (hp_n (n := 175) rfl ?_)
                refine q_ci (pc' := 178) Bh_15 (hp_runV (As := [.int v2_h_8]) (rest := []) C Bh_15 (t_X10_freezeHead Γ l αh_15 Bh_15.2.2.1 b_13 (cw_k Bh_15.2.2 kb_13) v2_h_8) lb_X10_freezeHead lv_X10_freezeHead lk_X11_244 (cw_k Bh_15.2.2 kb_13) rfl (by decide) rfl hl.1 rfl (Nat.le_of_ble_eq_true rfl) dX11_loadLines_175 ⟨Nat.le_refl _, Nat.le_refl _⟩) (fun _ _ h => cw_tr Bh_15.2.2 h (by decide)) rfl (fun rh_34 αh_34 Hh_34 Lh_34 ph_34 Bh_34 => ?_)
                refine lv_pop hx hb dX11_loadLines_178 rfl (hp_n (n := 179) rfl ?_)
                refine lv_goto (tgt := 213) hx hb dX11_loadLines_179 (by decide) ?_
                obtain ⟨x_35, ex_35⟩ : ∃ y : Int32, y = v3_h_8 + 1 := ⟨_, rfl⟩
                have qx_35 : x_35.toInt = v3_h_8.toInt + 1 := by have qa := ib_lo v3_h_8; rw [ex_35]; exact ii_add (by omega) (by omega)
                refine lv_iinc (v := x_35) (lv' := [(3, .int x_35), (4, .ref bh_14), (0, .ref a0), (2, .int v2_h_8)]) hx hb dX11_loadLines_213 hl (k := 3) rfl (by rw [ex_35]; rfl) (by decide) rfl (fun ls hl => hp_n (n := 216) rfl ?_)
                refine lv_goto (tgt := 32) hx hb dX11_loadLines_216 (by decide) ?_
                exact ih32 _ (by have qa := ib_hi v3_h_8; have qb := ib_lo v3_h_8; have qc : (v3_h_8 + 1).toInt = v3_h_8.toInt + (1 : Int32).toInt := ii_add (by omega) (by omega); rw [ex_35]; omega) αh_34 Hh_34 Lh_34 Bh_34 v2_h_8 x_35 (by omega) ls (lv_sub hl [2, 3, 0] rfl) rfl
              have jc_32 := il_ne c_32
              refine lv_tableOut (tgt := 182) hx hb dX11_loadLines_89 (by omega) (by decide) ?_
              refine lv_aload_n hx hb dX11_loadLines_182 rfl (lv_at hl 1 rfl) (hp_n (n := 183) rfl ?_)
              have t_36 : b_13 = hp_R αh_15 602 a0 := by rw [cw_R ph_15.1 a0 (by decide)]; exact eb_13
              refine q_gets (κ := 12) (k := 2) (φ := 602) (pc' := 186) C Bh_15 (cw_k Bh_15.2.2 k0) fl_X11_20 rfl rfl rfl t_36 dX11_loadLines_183 rfl ?_
              refine lv_aload_n hx hb dX11_loadLines_186 rfl (lv_at hl 1 rfl) (hp_n (n := 187) rfl ?_)
              refine q_gets (κ := 12) (k := 2) (φ := 602) (pc' := 190) C Bh_15 (cw_k Bh_15.2.2 k0) fl_X11_20 rfl rfl rfl t_36 dX11_loadLines_187 rfl ?_
              refine lv_aload_n hx hb dX11_loadLines_190 rfl (lv_at hl 1 rfl) (hp_n (n := 191) rfl ?_)
              refine q_gets (κ := 12) (k := 16) (φ := 616) (pc' := 194) C Bh_15 (cw_k Bh_15.2.2 k0) fl_X11_82 rfl rfl rfl t_17 dX11_loadLines_191 rfl ?_
              refine q_geti (κ := 4) (k := 8) (φ := 208) (pc' := 197) C Bh_15 (cw_k Bh_15.2.2 kb_10) fl_X11_460 rfl rfl rfl dX11_loadLines_194 rfl (fun x_37 ex_37 => ?_)
              refine q_cq (pc' := 200) Bh_15 (hp_runV (As := [.int x_37]) (rest := [.ref b_13]) C Bh_15 (t_X10_watcherAt Γ l αh_15 Bh_15.2.2.1 b_13 (cw_k Bh_15.2.2 kb_13) x_37) lb_X10_watcherAt lv_X10_watcherAt lk_X11_220 (cw_k Bh_15.2.2 kb_13) rfl (by decide) rfl hl.1 rfl (Nat.le_of_ble_eq_true rfl) dX11_loadLines_197 ⟨Nat.le_refl _, Nat.le_refl _⟩) (fun _ _ h => by rw [h.1]; exact Bh_15.2.2) rfl (fun rh_38 αh_38 Hh_38 Lh_38 ph_38 Bh_38 => ?_)
              rw [ph_38.1] at Bh_38
              rcases rh_38 with _ | bh_38
              ·
                refine lv_aload hx hb dX11_loadLines_200 (lv_at hl 0 rfl) (hp_n (n := 202) rfl ?_)
                refine lv_aload_n hx hb dX11_loadLines_202 rfl (lv_at hl 1 rfl) (hp_n (n := 203) rfl ?_)
                refine q_gets (κ := 12) (k := 16) (φ := 616) (pc' := 206) C Bh_38 (cw_k Bh_38.2.2 k0) fl_X11_82 rfl rfl rfl t_17 dX11_loadLines_203 rfl ?_
                refine q_geti (κ := 4) (k := 9) (φ := 209) (pc' := 209) C Bh_38 (cw_k Bh_38.2.2 kb_10) fl_X11_457 rfl rfl rfl dX11_loadLines_206 rfl (fun x_39 ex_39 => ?_)
                refine q_ci (pc' := 212) Bh_38 (hp_runV (As := [va_rf none, .ref bh_14, .int x_39]) (rest := []) C Bh_38 (t_X10_showTo Γ l αh_15 Bh_38.2.2.1 b_13 (cw_k Bh_38.2.2 kb_13) none (fun b h => by cases h) bh_14 (cw_k Bh_38.2.2 kbh_14) x_39) lb_X10_showTo lv_X10_showTo lk_X11_247 (cw_k Bh_38.2.2 kb_13) rfl (by decide) rfl hl.1 rfl (Nat.le_of_ble_eq_true rfl) dX11_loadLines_209 ⟨Nat.le_refl _, Nat.le_refl _⟩) (fun _ _ h => cw_tr Bh_38.2.2 h (by decide)) rfl (fun rh_40 αh_40 Hh_40 Lh_40 ph_40 Bh_40 => ?_)
                refine lv_pop hx hb dX11_loadLines_212 rfl (hp_n (n := 213) rfl ?_)
                obtain ⟨x_41, ex_41⟩ : ∃ y : Int32, y = v3_h_8 + 1 := ⟨_, rfl⟩
                have qx_41 : x_41.toInt = v3_h_8.toInt + 1 := by have qa := ib_lo v3_h_8; rw [ex_41]; exact ii_add (by omega) (by omega)
                refine lv_iinc (v := x_41) (lv' := [(3, .int x_41), (4, .ref bh_14), (0, .ref a0), (2, .int v2_h_8)]) hx hb dX11_loadLines_213 hl (k := 3) rfl (by rw [ex_41]; rfl) (by decide) rfl (fun ls hl => hp_n (n := 216) rfl ?_)
                refine lv_goto (tgt := 32) hx hb dX11_loadLines_216 (by decide) ?_
                exact ih32 _ (by have qa := ib_hi v3_h_8; have qb := ib_lo v3_h_8; have qc : (v3_h_8 + 1).toInt = v3_h_8.toInt + (1 : Int32).toInt := ii_add (by omega) (by omega); rw [ex_41]; omega) αh_40 Hh_40 Lh_40 Bh_40 v2_h_8 x_41 (by omega) ls (lv_sub hl [2, 3, 0] rfl) rfl
              ·
                have kbh_38 : hp_K α bh_38 = 8 := cw_k' Bh_38.2.2 (ph_38.2 bh_38 rfl)
                refine lv_aload hx hb dX11_loadLines_200 (lv_at hl 0 rfl) (hp_n (n := 202) rfl ?_)
                refine lv_aload_n hx hb dX11_loadLines_202 rfl (lv_at hl 1 rfl) (hp_n (n := 203) rfl ?_)
                refine q_gets (κ := 12) (k := 16) (φ := 616) (pc' := 206) C Bh_38 (cw_k Bh_38.2.2 k0) fl_X11_82 rfl rfl rfl t_17 dX11_loadLines_203 rfl ?_
                refine q_geti (κ := 4) (k := 9) (φ := 209) (pc' := 209) C Bh_38 (cw_k Bh_38.2.2 kb_10) fl_X11_457 rfl rfl rfl dX11_loadLines_206 rfl (fun x_42 ex_42 => ?_)
                refine q_ci (pc' := 212) Bh_38 (hp_runV (As := [va_rf (some bh_38), .ref bh_14, .int x_42]) (rest := []) C Bh_38 (t_X10_showTo Γ l αh_15 Bh_38.2.2.1 b_13 (cw_k Bh_38.2.2 kb_13) (some bh_38) (fun b h => by cases h; exact (cw_k Bh_38.2.2 kbh_38)) bh_14 (cw_k Bh_38.2.2 kbh_14) x_42) lb_X10_showTo lv_X10_showTo lk_X11_247 (cw_k Bh_38.2.2 kb_13) rfl (by decide) rfl hl.1 rfl (Nat.le_of_ble_eq_true rfl) dX11_loadLines_209 ⟨Nat.le_refl _, Nat.le_refl _⟩) (fun _ _ h => cw_tr Bh_38.2.2 h (by decide)) rfl (fun rh_43 αh_43 Hh_43 Lh_43 ph_43 Bh_43 => ?_)
                refine lv_pop hx hb dX11_loadLines_212 rfl (hp_n (n := 213) rfl ?_)
                obtain ⟨x_44, ex_44⟩ : ∃ y : Int32, y = v3_h_8 + 1 := ⟨_, rfl⟩
                have qx_44 : x_44.toInt = v3_h_8.toInt + 1 := by have qa := ib_lo v3_h_8; rw [ex_44]; exact ii_add (by omega) (by omega)
                refine lv_iinc (v := x_44) (lv' := [(3, .int x_44), (4, .ref bh_14), (0, .ref a0), (2, .int v2_h_8)]) hx hb dX11_loadLines_213 hl (k := 3) rfl (by rw [ex_44]; rfl) (by decide) rfl (fun ls hl => hp_n (n := 216) rfl ?_)
                refine lv_goto (tgt := 32) hx hb dX11_loadLines_216 (by decide) ?_
                exact ih32 _ (by have qa := ib_hi v3_h_8; have qb := ib_lo v3_h_8; have qc : (v3_h_8 + 1).toInt = v3_h_8.toInt + (1 : Int32).toInt := ii_add (by omega) (by omega); rw [ex_44]; omega) αh_43 Hh_43 Lh_43 Bh_43 v2_h_8 x_44 (by omega) ls (lv_sub hl [2, 3, 0] rfl) rfl
            ·
              have jc_16 := il_eq c_16
              refine lv_iconst (v := 0) hx hb dX11_loadLines_80 (by decide) (hp_n (n := 81) rfl ?_)
              exact q_zret C Bh_15 hr hlk (by decide) ⟨Bh_15.2.2, (Or.inl rfl)⟩ dX11_loadLines_81
    refine lv_istore_n (lv' := [(3, .int 0), (2, .int 0), (0, .ref a0), (1, .int a1)]) hx hb dX11_loadLines_31 rfl hl (by decide) rfl (fun ls hl => hp_n (n := 32) rfl ?_)
    exact J32 _ αh_6 Hh_6 Lh_6 Bh_6 0 0 (by omega) ls (lv_sub hl [2, 1, 0] rfl) rfl
  ·
    have jc_7 := il_eq c_7
    refine lv_iconst (v := 0) hx hb dX11_loadLines_26 (by decide) (hp_n (n := 27) rfl ?_)
    exact q_zret C Bh_6 hr hlk (by decide) ⟨Bh_6.2.2, (Or.inl rfl)⟩ dX11_loadLines_27
abbrev w_X11_load : cw_W := ([100, 101, 102, 103, 152, 204, 205, 206, 208, 209, 301, 351, 352, 353, 354, 355, 356, 400, 401, 402, 403, 453, 454, 501, 550, 552, 554, 556, 600, 605], [350, 601, 602], [20, 21, 22, 23, 27, 29, 33], [])
set_option maxRecDepth 100000 in
set_option maxHeartbeats 4000000 in
theorem t_X11_load (Γ : hp_G) (l : Launch) (α : hp_T) (g : GC α) (a0 : Nat) (k0 : hp_K α a0 = 12) (a1 : Int32) : Met l yX11_load (hp_ws yX11_load cX11_load 4 (some .int)) (hp_rm 8 0 0) (hp_Pc Γ α [.ref a0, .int a1]) (hp_Qi Γ (fun r β => cw w_X11_load α β)) 0 0 (hp_A Γ) := by
  refine hp_start (by decide) ?_
  intro p e s m below meth c C hr hlk B0 hnm
  have C : hp_C Γ p m c cX11_load 4 s ([.ref a0, .int a1] : List Value).toArray RX11 := C
  have hx := C.1.1
  have hb := C.1.2.1
  have hown := C.1.2.2.2.1
  have hts := C.1.2.2.2.2
  have B : hp_B Γ (cw w_X11_load) s α α s.heap [] := ⟨B0.1, B0.2.1, cw_rf g⟩
  have lit0 : (0 : Int32).toInt = 0 := by decide
  have lit1 : (1 : Int32).toInt = 1 := by decide
  have lit9 : (9 : Int32).toInt = 9 := by decide
  have hl := lv_entry ([.ref a0, .int a1]) (n := 4) (Nat.le_of_ble_eq_true rfl)
  show W p l e (hp_rm 8 0 0) s m ([.ref a0, .int a1] : List Value).toArray below meth c s.heap [] 0 0 (MQ below (hp_Qi Γ (fun r β => cw w_X11_load α β)) ([.ref a0, .int a1] : List Value).toArray s 0 0 (hp_A Γ)) (entryFrame m ([.ref a0, .int a1] : List Value).toArray 4)
  rw [lg_entry_eq]
  generalize (lg_sl ([.ref a0, .int a1]) ++ List.replicate (4 - (lg_sl ([.ref a0, .int a1])).length) Slot.unset).toArray = ls at hl ⊢
  have hl : lv_has ls 4 [(0, .ref a0), (1, .int a1)] := hl
  refine lv_iload_n hx hb dX11_load_0 rfl (lv_at hl 1 rfl) (hp_n (n := 1) rfl ?_)
  have J12 : ∀ (Hh_1 : Heap) (Lh_1 : List Loc) (Bh_1 : hp_B Γ (cw w_X11_load) s α α Hh_1 Lh_1) (ls : Array Slot) (hl : lv_has ls 4 [(0, .ref a0)]), W p l e (hp_rm 8 0 0) s m ([.ref a0, .int a1] : List Value).toArray below meth c Hh_1 Lh_1 0 0 (MQ below (hp_Qi Γ (fun r β => cw w_X11_load α β)) ([.ref a0, .int a1] : List Value).toArray s 0 0 (hp_A Γ)) (F0 m 12 ls []) := by
    intro Hh_1 Lh_1 Bh_1 ls hl
    refine lv_aload_n hx hb dX11_load_12 rfl (lv_at hl 0 rfl) (hp_n (n := 13) rfl ?_)
    refine lv_iconst (v := 1) hx hb dX11_load_13 (by decide) (hp_n (n := 14) rfl ?_)
    refine q_ci (pc' := 17) Bh_1 (hp_runV (As := [.int 1]) (rest := []) C Bh_1 (t_X11_refuse Γ l α Bh_1.2.2.1 a0 (cw_k Bh_1.2.2 k0) 1) lb_X11_refuse lv_X11_refuse lk_X11_98 (cw_k Bh_1.2.2 k0) rfl (by decide) rfl hl.1 rfl (Nat.le_of_ble_eq_true rfl) dX11_load_14 ⟨Nat.le_refl _, Nat.le_refl _⟩) (fun _ _ h => cw_tr Bh_1.2.2 h (by decide)) rfl (fun rh_2 αh_2 Hh_2 Lh_2 ph_2 Bh_2 => ?_)
    exact q_iret C Bh_2 hr hlk Bh_2.2.2 dX11_load_17
  refine lv_if_lt (tgt := 12) hx hb dX11_load_1 (by decide) (fun c_3 => ?_) (fun c_3 => hp_n (n := 4) rfl ?_)
  ·
    have jc_3 := il_lt c_3
    exact J12 s.heap [] B ls (lv_sub hl [0] rfl)
  ·
    have jc_3 := il_nlt c_3
    refine lv_iload_n hx hb dX11_load_4 rfl (lv_at hl 1 rfl) (hp_n (n := 5) rfl ?_)
    refine lv_aload_n hx hb dX11_load_5 rfl (lv_at hl 0 rfl) (hp_n (n := 6) rfl ?_)
    refine q_geti (κ := 12) (k := 5) (φ := 605) (pc' := 9) C B (cw_k B.2.2 k0) fl_X11_34 rfl rfl rfl dX11_load_6 rfl (fun x_4 ex_4 => ?_)
    refine lv_icmp_le (tgt := 18) hx hb dX11_load_9 (by decide) (fun c_5 => ?_) (fun c_5 => hp_n (n := 12) rfl ?_)
    ·
      have jc_5 := il_le c_5
      refine lv_aload_n hx hb dX11_load_18 rfl (lv_at hl 0 rfl) (hp_n (n := 19) rfl ?_)
      refine q_getr (κ := 12) (k := 2) (φ := 602) (pc' := 22) C B (cw_k B.2.2 k0) fl_X11_20 rfl rfl rfl (cw_r B.2.2 k0 rfl rfl (by decide) (by decide)) dX11_load_19 rfl (fun b_6 eb_6 kb_6 => ?_)
      refine q_cv (pc' := 25) B (hp_runV (As := []) (rest := []) C B (t_X10_renew Γ l α B.2.2.1 b_6 (cw_k B.2.2 kb_6)) lb_X10_renew lv_X10_renew lk_X11_102 (cw_k B.2.2 kb_6) rfl (by decide) rfl hl.1 rfl (Nat.le_of_ble_eq_true rfl) dX11_load_22 ⟨Nat.le_refl _, Nat.le_refl _⟩) (fun _ h => cw_tr B.2.2 h (by decide)) rfl (fun αh_7 Hh_7 Lh_7 ph_7 Bh_7 => ?_)
      refine lv_aload_n hx hb dX11_load_25 rfl (lv_at hl 0 rfl) (hp_n (n := 26) rfl ?_)
      refine lv_iload_n hx hb dX11_load_26 rfl (lv_at hl 1 rfl) (hp_n (n := 27) rfl ?_)
      refine q_ci (pc' := 30) Bh_7 (hp_runV (As := [.int a1]) (rest := []) C Bh_7 (t_X11_loadLines Γ l αh_7 Bh_7.2.2.1 a0 (cw_k Bh_7.2.2 k0) a1) lb_X11_loadLines lv_X11_loadLines lk_X11_105 (cw_k Bh_7.2.2 k0) rfl (by decide) rfl hl.1 rfl (Nat.le_of_ble_eq_true rfl) dX11_load_27 ⟨Nat.le_refl _, Nat.le_refl _⟩) (fun _ _ h => cw_tr Bh_7.2.2 h.1 (by decide)) rfl (fun rh_8 αh_8 Hh_8 Lh_8 ph_8 Bh_8 => ?_)
      have zh_8 := ph_8.2
      refine lv_istore_n (lv' := [(2, .int rh_8), (0, .ref a0), (1, .int a1)]) hx hb dX11_load_30 rfl hl (by decide) rfl (fun ls hl => hp_n (n := 31) rfl ?_)
      refine lv_aload_n hx hb dX11_load_31 rfl (lv_at hl 1 rfl) (hp_n (n := 32) rfl ?_)
      refine lv_iconst (v := 0) hx hb dX11_load_32 (by decide) (hp_n (n := 33) rfl ?_)
      refine q_puti (κ := 12) (k := 5) (φ := 605) (pc' := 36) C Bh_8 (cw_k Bh_8.2.2 k0) fl_X11_34 rfl rfl rfl rfl rfl rfl (cw_sI Bh_8.2.2 (by decide) (fun h => absurd h (by decide))) dX11_load_33 rfl (fun αh_9 Hh_9 Lh_9 eh_9 Bh_9 => ?_)
      refine lv_iload_n hx hb dX11_load_36 rfl (lv_at hl 0 rfl) (hp_n (n := 37) rfl ?_)
      refine lv_if_ne (tgt := 47) hx hb dX11_load_37 (by decide) (fun c_10 => ?_) (fun c_10 => hp_n (n := 40) rfl ?_)
      ·
        have jc_10 := il_ne c_10
        refine lv_aload_n hx hb dX11_load_47 rfl (lv_at hl 1 rfl) (hp_n (n := 48) rfl ?_)
        refine q_getr (κ := 12) (k := 1) (φ := 601) (pc' := 51) C Bh_9 (cw_k Bh_9.2.2 k0) fl_X11_16 rfl rfl rfl (cw_r Bh_9.2.2 k0 rfl rfl (by decide) (by decide)) dX11_load_48 rfl (fun b_11 eb_11 kb_11 => ?_)
        refine lv_astore_n (lv' := [(3, .ref b_11), (2, .int rh_8), (0, .ref a0), (1, .int a1)]) hx hb dX11_load_51 rfl hl (by decide) rfl (fun ls hl => hp_n (n := 52) rfl ?_)
        refine lv_aload_n hx hb dX11_load_52 rfl (lv_at hl 2 rfl) (hp_n (n := 53) rfl ?_)
        refine lv_aload_n hx hb dX11_load_53 rfl (lv_at hl 2 rfl) (hp_n (n := 54) rfl ?_)
        have t_12 : b_6 = hp_R αh_7 602 a0 := by rw [cw_R ph_7 a0 (by decide)]; exact eb_6
        have t_13 : b_6 = hp_R αh_8 602 a0 := by rw [cw_R ph_8.1 a0 (by decide)]; exact t_12
        have t_14 : b_6 = hp_R αh_9 602 a0 := by rw [eh_9]; exact t_13
        refine q_gets (κ := 12) (k := 2) (φ := 602) (pc' := 57) C Bh_9 (cw_k Bh_9.2.2 k0) fl_X11_20 rfl rfl rfl t_14 dX11_load_54 rfl ?_
        refine q_putr (κ := 12) (k := 1) (φ := 601) (pc' := 60) C Bh_9 (cw_k Bh_9.2.2 k0) fl_X11_16 rfl rfl rfl rfl rfl rfl (cw_sR Bh_9.2.2 (by decide) (Or.inl kb_6)) dX11_load_57 rfl (fun αh_15 Hh_15 Lh_15 eh_15 Bh_15 => ?_)
        refine lv_aload_n hx hb dX11_load_60 rfl (lv_at hl 2 rfl) (hp_n (n := 61) rfl ?_)
        refine lv_aload_n hx hb dX11_load_61 rfl (lv_at hl 0 rfl) (hp_n (n := 62) rfl ?_)
        refine q_putr (κ := 12) (k := 2) (φ := 602) (pc' := 65) C Bh_15 (cw_k Bh_15.2.2 k0) fl_X11_20 rfl rfl rfl rfl rfl rfl (cw_sR Bh_15.2.2 (by decide) (Or.inl kb_11)) dX11_load_62 rfl (fun αh_16 Hh_16 Lh_16 eh_16 Bh_16 => ?_)
        refine lv_aload_n hx hb dX11_load_65 rfl (lv_at hl 2 rfl) (hp_n (n := 66) rfl ?_)
        refine q_getr (κ := 12) (k := 3) (φ := 603) (pc' := 69) C Bh_16 (cw_k Bh_16.2.2 k0) fl_X11_26 rfl rfl rfl (cw_r Bh_16.2.2 k0 rfl rfl (by decide) (by decide)) dX11_load_66 rfl (fun b_17 eb_17 kb_17 => ?_)
        refine lv_iconst (v := 0) hx hb dX11_load_69 (by decide) (hp_n (n := 70) rfl ?_)
        refine q_cv (pc' := 73) Bh_16 (hp_runV (As := [.int 0]) (rest := []) C Bh_16 (t_X5_shorten Γ l αh_16 Bh_16.2.2.1 b_17 (cw_k Bh_16.2.2 kb_17) 0) lb_X5_shorten lv_X5_shorten lk_X11_109 (cw_k Bh_16.2.2 kb_17) rfl (by decide) rfl hl.1 rfl (Nat.le_of_ble_eq_true rfl) dX11_load_70 ⟨Nat.le_refl _, Nat.le_refl _⟩) (fun _ h => cw_tr Bh_16.2.2 h (by decide)) rfl (fun αh_18 Hh_18 Lh_18 ph_18 Bh_18 => ?_)
        refine lv_aload_n hx hb dX11_load_73 rfl (lv_at hl 2 rfl) (hp_n (n := 74) rfl ?_)
        refine lv_aload_n hx hb dX11_load_74 rfl (lv_at hl 2 rfl) (hp_n (n := 75) rfl ?_)
        refine q_getr (κ := 12) (k := 1) (φ := 601) (pc' := 78) C Bh_18 (cw_k Bh_18.2.2 k0) fl_X11_16 rfl rfl rfl (cw_r Bh_18.2.2 k0 rfl rfl (by decide) (by decide)) dX11_load_75 rfl (fun b_19 eb_19 kb_19 => ?_)
        refine q_geti (κ := 11) (k := 2) (φ := 552) (pc' := 81) C Bh_18 (cw_k Bh_18.2.2 kb_19) fl_X11_112 rfl rfl rfl dX11_load_78 rfl (fun x_20 ex_20 => ?_)
        refine q_ci (pc' := 84) Bh_18 (hp_runV (As := [.int x_20]) (rest := []) C Bh_18 (t_X11_answer Γ l αh_18 Bh_18.2.2.1 a0 (cw_k Bh_18.2.2 k0) x_20) lb_X11_answer lv_X11_answer lk_X11_115 (cw_k Bh_18.2.2 k0) rfl (by decide) rfl hl.1 rfl (Nat.le_of_ble_eq_true rfl) dX11_load_81 ⟨Nat.le_refl _, Nat.le_refl _⟩) (fun _ _ h => cw_tr Bh_18.2.2 h (by decide)) rfl (fun rh_21 αh_21 Hh_21 Lh_21 ph_21 Bh_21 => ?_)
        exact q_iret C Bh_21 hr hlk Bh_21.2.2 dX11_load_84
      ·
        have jc_10 := il_eq c_10
        refine lv_aload_n hx hb dX11_load_40 rfl (lv_at hl 1 rfl) (hp_n (n := 41) rfl ?_)
        refine lv_bipush (v := 9) hx hb dX11_load_41 (by decide) (hp_n (n := 43) rfl ?_)
        refine q_ci (pc' := 46) Bh_9 (hp_runV (As := [.int 9]) (rest := []) C Bh_9 (t_X11_refuse Γ l αh_9 Bh_9.2.2.1 a0 (cw_k Bh_9.2.2 k0) 9) lb_X11_refuse lv_X11_refuse lk_X11_98 (cw_k Bh_9.2.2 k0) rfl (by decide) rfl hl.1 rfl (Nat.le_of_ble_eq_true rfl) dX11_load_43 ⟨Nat.le_refl _, Nat.le_refl _⟩) (fun _ _ h => cw_tr Bh_9.2.2 h (by decide)) rfl (fun rh_22 αh_22 Hh_22 Lh_22 ph_22 Bh_22 => ?_)
        exact q_iret C Bh_22 hr hlk Bh_22.2.2 dX11_load_46
    ·
      have jc_5 := il_nle c_5
      exact J12 s.heap [] B ls (lv_sub hl [0] rfl)
abbrev w_X11_hear : cw_W := ([203, 204, 205, 209, 301, 351, 352, 353, 354, 355, 356, 453, 454, 600, 605], [350, 608, 609], [20, 21, 22, 23], [])
set_option maxRecDepth 100000 in
set_option maxHeartbeats 4000000 in
theorem t_X11_hear (Γ : hp_G) (l : Launch) (α : hp_T) (g : GC α) (a0 : Nat) (k0 : hp_K α a0 = 12) (a1 : Int32) : Met l yX11_hear (hp_ws yX11_hear cX11_hear 4 (some .int)) (hp_rm 9 0 0) (hp_Pc Γ α [.ref a0, .int a1]) (hp_Qi Γ (fun r β => cw w_X11_hear α β)) 0 0 (hp_A Γ) := by
  refine hp_start (by decide) ?_
  intro p e s m below meth c C hr hlk B0 hnm
  have C : hp_C Γ p m c cX11_hear 4 s ([.ref a0, .int a1] : List Value).toArray RX11 := C
  have hx := C.1.1
  have hb := C.1.2.1
  have hown := C.1.2.2.2.1
  have hts := C.1.2.2.2.2
  have B : hp_B Γ (cw w_X11_hear) s α α s.heap [] := ⟨B0.1, B0.2.1, cw_rf g⟩
  have lit0 : (0 : Int32).toInt = 0 := by decide
  have lit1 : (1 : Int32).toInt = 1 := by decide
  have lit9 : (9 : Int32).toInt = 9 := by decide
  have hl := lv_entry ([.ref a0, .int a1]) (n := 4) (Nat.le_of_ble_eq_true rfl)
  show W p l e (hp_rm 9 0 0) s m ([.ref a0, .int a1] : List Value).toArray below meth c s.heap [] 0 0 (MQ below (hp_Qi Γ (fun r β => cw w_X11_hear α β)) ([.ref a0, .int a1] : List Value).toArray s 0 0 (hp_A Γ)) (entryFrame m ([.ref a0, .int a1] : List Value).toArray 4)
  rw [lg_entry_eq]
  generalize (lg_sl ([.ref a0, .int a1]) ++ List.replicate (4 - (lg_sl ([.ref a0, .int a1])).length) Slot.unset).toArray = ls at hl ⊢
  have hl : lv_has ls 4 [(0, .ref a0), (1, .int a1)] := hl
  refine lv_iload_n hx hb dX11_hear_0 rfl (lv_at hl 1 rfl) (hp_n (n := 1) rfl ?_)
  have J12 : ∀ (Hh_1 : Heap) (Lh_1 : List Loc) (Bh_1 : hp_B Γ (cw w_X11_hear) s α α Hh_1 Lh_1) (ls : Array Slot) (hl : lv_has ls 4 [(0, .ref a0)]), W p l e (hp_rm 9 0 0) s m ([.ref a0, .int a1] : List Value).toArray below meth c Hh_1 Lh_1 0 0 (MQ below (hp_Qi Γ (fun r β => cw w_X11_hear α β)) ([.ref a0, .int a1] : List Value).toArray s 0 0 (hp_A Γ)) (F0 m 12 ls []) := by
    intro Hh_1 Lh_1 Bh_1 ls hl
    refine lv_aload_n hx hb dX11_hear_12 rfl (lv_at hl 0 rfl) (hp_n (n := 13) rfl ?_)
    refine lv_iconst (v := 1) hx hb dX11_hear_13 (by decide) (hp_n (n := 14) rfl ?_)
    refine q_ci (pc' := 17) Bh_1 (hp_runV (As := [.int 1]) (rest := []) C Bh_1 (t_X11_refuse Γ l α Bh_1.2.2.1 a0 (cw_k Bh_1.2.2 k0) 1) lb_X11_refuse lv_X11_refuse lk_X11_98 (cw_k Bh_1.2.2 k0) rfl (by decide) rfl hl.1 rfl (Nat.le_of_ble_eq_true rfl) dX11_hear_14 ⟨Nat.le_refl _, Nat.le_refl _⟩) (fun _ _ h => cw_tr Bh_1.2.2 h (by decide)) rfl (fun rh_2 αh_2 Hh_2 Lh_2 ph_2 Bh_2 => ?_)
    exact q_iret C Bh_2 hr hlk Bh_2.2.2 dX11_hear_17
  refine lv_if_lt (tgt := 12) hx hb dX11_hear_1 (by decide) (fun c_3 => ?_) (fun c_3 => hp_n (n := 4) rfl ?_)
  ·
    have jc_3 := il_lt c_3
    exact J12 s.heap [] B ls (lv_sub hl [0] rfl)
  ·
    have jc_3 := il_nlt c_3
    refine lv_iload_n hx hb dX11_hear_4 rfl (lv_at hl 1 rfl) (hp_n (n := 5) rfl ?_)
    refine lv_aload_n hx hb dX11_hear_5 rfl (lv_at hl 0 rfl) (hp_n (n := 6) rfl ?_)
    refine q_geti (κ := 12) (k := 5) (φ := 605) (pc' := 9) C B (cw_k B.2.2 k0) fl_X11_34 rfl rfl rfl dX11_hear_6 rfl (fun x_4 ex_4 => ?_)
    refine lv_icmp_le (tgt := 18) hx hb dX11_hear_9 (by decide) (fun c_5 => ?_) (fun c_5 => hp_n (n := 12) rfl ?_)
    ·
      have jc_5 := il_le c_5
      refine lv_aload_n hx hb dX11_hear_18 rfl (lv_at hl 0 rfl) (hp_n (n := 19) rfl ?_)
      refine q_getr (κ := 12) (k := 16) (φ := 616) (pc' := 22) C B (cw_k B.2.2 k0) fl_X11_82 rfl rfl rfl (cw_r B.2.2 k0 rfl rfl (by decide) (by decide)) dX11_hear_19 rfl (fun b_6 eb_6 kb_6 => ?_)
      refine lv_aload_n hx hb dX11_hear_22 rfl (lv_at hl 0 rfl) (hp_n (n := 23) rfl ?_)
      refine q_getr (κ := 12) (k := 4) (φ := 604) (pc' := 26) C B (cw_k B.2.2 k0) fl_X11_30 rfl rfl rfl (cw_r B.2.2 k0 rfl rfl (by decide) (by decide)) dX11_hear_23 rfl (fun b_7 eb_7 kb_7 => ?_)
      refine lv_iload_n hx hb dX11_hear_26 rfl (lv_at hl 1 rfl) (hp_n (n := 27) rfl ?_)
      refine q_cv (pc' := 30) B (hp_runV (As := [.ref b_7, .int a1]) (rest := []) C B (t_X3_begin Γ l α B.2.2.1 b_6 (cw_k B.2.2 kb_6) b_7 (cw_k B.2.2 kb_7) a1) lb_X3_begin lv_X3_begin lk_X11_118 (cw_k B.2.2 kb_6) rfl (by decide) rfl hl.1 rfl (Nat.le_of_ble_eq_true rfl) dX11_hear_27 ⟨Nat.le_refl _, Nat.le_refl _⟩) (fun _ h => cw_tr B.2.2 h (by decide)) rfl (fun αh_8 Hh_8 Lh_8 ph_8 Bh_8 => ?_)
      refine lv_aload_n hx hb dX11_hear_30 rfl (lv_at hl 0 rfl) (hp_n (n := 31) rfl ?_)
      have t_9 : b_6 = hp_R αh_8 616 a0 := by rw [cw_R ph_8 a0 (by decide)]; exact eb_6
      refine q_gets (κ := 12) (k := 16) (φ := 616) (pc' := 34) C Bh_8 (cw_k Bh_8.2.2 k0) fl_X11_82 rfl rfl rfl t_9 dX11_hear_31 rfl ?_
      refine lv_aload_n hx hb dX11_hear_34 rfl (lv_at hl 0 rfl) (hp_n (n := 35) rfl ?_)
      refine q_getr (κ := 12) (k := 1) (φ := 601) (pc' := 38) C Bh_8 (cw_k Bh_8.2.2 k0) fl_X11_16 rfl rfl rfl (cw_r Bh_8.2.2 k0 rfl rfl (by decide) (by decide)) dX11_hear_35 rfl (fun b_10 eb_10 kb_10 => ?_)
      refine q_geti (κ := 11) (k := 0) (φ := 550) (pc' := 41) C Bh_8 (cw_k Bh_8.2.2 kb_10) fl_X11_122 rfl rfl rfl dX11_hear_38 rfl (fun x_11 ex_11 => ?_)
      refine lv_aload_n hx hb dX11_hear_41 rfl (lv_at hl 0 rfl) (hp_n (n := 42) rfl ?_)
      refine q_getr (κ := 12) (k := 9) (φ := 609) (pc' := 45) C Bh_8 (cw_k Bh_8.2.2 k0) fl_X11_50 rfl rfl rfl (cw_r Bh_8.2.2 k0 rfl rfl (by decide) (by decide)) dX11_hear_42 rfl (fun b_12 eb_12 kb_12 => ?_)
      refine q_ci (pc' := 48) Bh_8 (hp_runV (As := [.int x_11, .ref b_12]) (rest := []) C Bh_8 (t_X3_readProofs Γ l αh_8 Bh_8.2.2.1 b_6 (cw_k Bh_8.2.2 kb_6) x_11 b_12 (cw_k Bh_8.2.2 kb_12)) lb_X3_readProofs lv_X3_readProofs lk_X11_125 (cw_k Bh_8.2.2 kb_6) rfl (by decide) rfl hl.1 rfl (Nat.le_of_ble_eq_true rfl) dX11_hear_45 ⟨Nat.le_refl _, Nat.le_refl _⟩) (fun _ _ h => cw_tr Bh_8.2.2 h.1 (by decide)) rfl (fun rh_13 αh_13 Hh_13 Lh_13 ph_13 Bh_13 => ?_)
      have zh_13 := ph_13.2
      refine lv_istore_n (lv' := [(2, .int rh_13), (0, .ref a0), (1, .int a1)]) hx hb dX11_hear_48 rfl hl (by decide) rfl (fun ls hl => hp_n (n := 49) rfl ?_)
      refine lv_aload_n hx hb dX11_hear_49 rfl (lv_at hl 1 rfl) (hp_n (n := 50) rfl ?_)
      refine lv_iconst (v := 0) hx hb dX11_hear_50 (by decide) (hp_n (n := 51) rfl ?_)
      refine q_puti (κ := 12) (k := 5) (φ := 605) (pc' := 54) C Bh_13 (cw_k Bh_13.2.2 k0) fl_X11_34 rfl rfl rfl rfl rfl rfl (cw_sI Bh_13.2.2 (by decide) (fun h => absurd h (by decide))) dX11_hear_51 rfl (fun αh_14 Hh_14 Lh_14 eh_14 Bh_14 => ?_)
      refine lv_iload_n hx hb dX11_hear_54 rfl (lv_at hl 0 rfl) (hp_n (n := 55) rfl ?_)
      refine lv_if_ne (tgt := 65) hx hb dX11_hear_55 (by decide) (fun c_15 => ?_) (fun c_15 => hp_n (n := 58) rfl ?_)
      ·
        have jc_15 := il_ne c_15
        refine lv_aload_n hx hb dX11_hear_65 rfl (lv_at hl 1 rfl) (hp_n (n := 66) rfl ?_)
        refine q_getr (κ := 12) (k := 8) (φ := 608) (pc' := 69) C Bh_14 (cw_k Bh_14.2.2 k0) fl_X11_47 rfl rfl rfl (cw_r Bh_14.2.2 k0 rfl rfl (by decide) (by decide)) dX11_hear_66 rfl (fun b_16 eb_16 kb_16 => ?_)
        refine lv_astore_n (lv' := [(3, .ref b_16), (2, .int rh_13), (0, .ref a0), (1, .int a1)]) hx hb dX11_hear_69 rfl hl (by decide) rfl (fun ls hl => hp_n (n := 70) rfl ?_)
        refine lv_aload_n hx hb dX11_hear_70 rfl (lv_at hl 2 rfl) (hp_n (n := 71) rfl ?_)
        refine lv_aload_n hx hb dX11_hear_71 rfl (lv_at hl 2 rfl) (hp_n (n := 72) rfl ?_)
        have t_17 : b_12 = hp_R αh_13 609 a0 := by rw [cw_R ph_13.1 a0 (by decide)]; exact eb_12
        have t_18 : b_12 = hp_R αh_14 609 a0 := by rw [eh_14]; exact t_17
        refine q_gets (κ := 12) (k := 9) (φ := 609) (pc' := 75) C Bh_14 (cw_k Bh_14.2.2 k0) fl_X11_50 rfl rfl rfl t_18 dX11_hear_72 rfl ?_
        refine q_putr (κ := 12) (k := 8) (φ := 608) (pc' := 78) C Bh_14 (cw_k Bh_14.2.2 k0) fl_X11_47 rfl rfl rfl rfl rfl rfl (cw_sR Bh_14.2.2 (by decide) (Or.inl kb_12)) dX11_hear_75 rfl (fun αh_19 Hh_19 Lh_19 eh_19 Bh_19 => ?_)
        refine lv_aload_n hx hb dX11_hear_78 rfl (lv_at hl 2 rfl) (hp_n (n := 79) rfl ?_)
        refine lv_aload_n hx hb dX11_hear_79 rfl (lv_at hl 0 rfl) (hp_n (n := 80) rfl ?_)
        refine q_putr (κ := 12) (k := 9) (φ := 609) (pc' := 83) C Bh_19 (cw_k Bh_19.2.2 k0) fl_X11_50 rfl rfl rfl rfl rfl rfl (cw_sR Bh_19.2.2 (by decide) (Or.inl kb_16)) dX11_hear_80 rfl (fun αh_20 Hh_20 Lh_20 eh_20 Bh_20 => ?_)
        refine lv_aload_n hx hb dX11_hear_83 rfl (lv_at hl 2 rfl) (hp_n (n := 84) rfl ?_)
        refine lv_aload_n hx hb dX11_hear_84 rfl (lv_at hl 2 rfl) (hp_n (n := 85) rfl ?_)
        refine q_getr (κ := 12) (k := 8) (φ := 608) (pc' := 88) C Bh_20 (cw_k Bh_20.2.2 k0) fl_X11_47 rfl rfl rfl (cw_r Bh_20.2.2 k0 rfl rfl (by decide) (by decide)) dX11_hear_85 rfl (fun b_21 eb_21 kb_21 => ?_)
        refine lv_iconst (v := 0) hx hb dX11_hear_88 (by decide) (hp_n (n := 89) rfl ?_)
        refine q_ci (pc' := 92) Bh_20 (hp_runV (As := [.int 0]) (rest := [.ref a0]) C Bh_20 (t_X5_countOf Γ l αh_20 Bh_20.2.2.1 b_21 (cw_k Bh_20.2.2 kb_21) 0) lb_X5_countOf lv_X5_countOf lk_X11_129 (cw_k Bh_20.2.2 kb_21) rfl (by decide) rfl hl.1 rfl (Nat.le_of_ble_eq_true rfl) dX11_hear_89 ⟨Nat.le_refl _, Nat.le_refl _⟩) (fun _ _ h => by rw [h]; exact Bh_20.2.2) rfl (fun rh_22 αh_22 Hh_22 Lh_22 ph_22 Bh_22 => ?_)
        rw [ph_22] at Bh_22
        refine q_ci (pc' := 95) Bh_22 (hp_runV (As := [.int rh_22]) (rest := []) C Bh_22 (t_X11_answer Γ l αh_20 Bh_22.2.2.1 a0 (cw_k Bh_22.2.2 k0) rh_22) lb_X11_answer lv_X11_answer lk_X11_115 (cw_k Bh_22.2.2 k0) rfl (by decide) rfl hl.1 rfl (Nat.le_of_ble_eq_true rfl) dX11_hear_92 ⟨Nat.le_refl _, Nat.le_refl _⟩) (fun _ _ h => cw_tr Bh_22.2.2 h (by decide)) rfl (fun rh_23 αh_23 Hh_23 Lh_23 ph_23 Bh_23 => ?_)
        exact q_iret C Bh_23 hr hlk Bh_23.2.2 dX11_hear_95
      ·
        have jc_15 := il_eq c_15
        refine lv_aload_n hx hb dX11_hear_58 rfl (lv_at hl 1 rfl) (hp_n (n := 59) rfl ?_)
        refine lv_bipush (v := 9) hx hb dX11_hear_59 (by decide) (hp_n (n := 61) rfl ?_)
        refine q_ci (pc' := 64) Bh_14 (hp_runV (As := [.int 9]) (rest := []) C Bh_14 (t_X11_refuse Γ l αh_14 Bh_14.2.2.1 a0 (cw_k Bh_14.2.2 k0) 9) lb_X11_refuse lv_X11_refuse lk_X11_98 (cw_k Bh_14.2.2 k0) rfl (by decide) rfl hl.1 rfl (Nat.le_of_ble_eq_true rfl) dX11_hear_61 ⟨Nat.le_refl _, Nat.le_refl _⟩) (fun _ _ h => cw_tr Bh_14.2.2 h (by decide)) rfl (fun rh_24 αh_24 Hh_24 Lh_24 ph_24 Bh_24 => ?_)
        exact q_iret C Bh_24 hr hlk Bh_24.2.2 dX11_hear_64
    ·
      have jc_5 := il_nle c_5
      exact J12 s.heap [] B ls (lv_sub hl [0] rfl)
abbrev w_X11_heard : cw_W := ([600], [], [], [])
set_option maxRecDepth 100000 in
set_option maxHeartbeats 4000000 in
theorem t_X11_heard (Γ : hp_G) (l : Launch) (α : hp_T) (g : GC α) (a0 : Nat) (k0 : hp_K α a0 = 12) (a1 : Int32) : Met l yX11_heard (hp_ws yX11_heard cX11_heard 2 (some .int)) (hp_rm 1 0 0) (hp_Pc Γ α [.ref a0, .int a1]) (hp_Qi Γ (fun r β => cw w_X11_heard α β)) 0 0 (hp_A Γ) := by
  refine hp_start (by decide) ?_
  intro p e s m below meth c C hr hlk B0 hnm
  have C : hp_C Γ p m c cX11_heard 2 s ([.ref a0, .int a1] : List Value).toArray RX11 := C
  have hx := C.1.1
  have hb := C.1.2.1
  have hown := C.1.2.2.2.1
  have hts := C.1.2.2.2.2
  have B : hp_B Γ (cw w_X11_heard) s α α s.heap [] := ⟨B0.1, B0.2.1, cw_rf g⟩
  have lit0 : (0 : Int32).toInt = 0 := by decide
  have lit1 : (1 : Int32).toInt = 1 := by decide
  have lit5 : (5 : Int32).toInt = 5 := by decide
  have hl := lv_entry ([.ref a0, .int a1]) (n := 2) (Nat.le_of_ble_eq_true rfl)
  show W p l e (hp_rm 1 0 0) s m ([.ref a0, .int a1] : List Value).toArray below meth c s.heap [] 0 0 (MQ below (hp_Qi Γ (fun r β => cw w_X11_heard α β)) ([.ref a0, .int a1] : List Value).toArray s 0 0 (hp_A Γ)) (entryFrame m ([.ref a0, .int a1] : List Value).toArray 2)
  rw [lg_entry_eq]
  generalize (lg_sl ([.ref a0, .int a1]) ++ List.replicate (2 - (lg_sl ([.ref a0, .int a1])).length) Slot.unset).toArray = ls at hl ⊢
  have hl : lv_has ls 2 [(0, .ref a0), (1, .int a1)] := hl
  refine lv_iload_n hx hb dX11_heard_0 rfl (lv_at hl 1 rfl) (hp_n (n := 1) rfl ?_)
  refine lv_if_ge (tgt := 10) hx hb dX11_heard_1 (by decide) (fun c_1 => ?_) (fun c_1 => hp_n (n := 4) rfl ?_)
  ·
    have jc_1 := il_le c_1
    refine lv_iload_n hx hb dX11_heard_10 rfl (lv_at hl 1 rfl) (hp_n (n := 11) rfl ?_)
    refine lv_aload_n hx hb dX11_heard_11 rfl (lv_at hl 0 rfl) (hp_n (n := 12) rfl ?_)
    refine q_getr (κ := 12) (k := 8) (φ := 608) (pc' := 15) C B (cw_k B.2.2 k0) fl_X11_47 rfl rfl rfl (cw_r B.2.2 k0 rfl rfl (by decide) (by decide)) dX11_heard_12 rfl (fun b_2 eb_2 kb_2 => ?_)
    refine q_geti (κ := 6) (k := 1) (φ := 301) (pc' := 18) C B (cw_k B.2.2 kb_2) fl_X11_132 rfl rfl rfl dX11_heard_15 rfl (fun x_3 ex_3 => ?_)
    refine lv_icmp_lt (tgt := 27) hx hb dX11_heard_18 (by decide) (fun c_4 => ?_) (fun c_4 => hp_n (n := 21) rfl ?_)
    ·
      have jc_4 := il_lt c_4
      refine lv_aload_n hx hb dX11_heard_27 rfl (lv_at hl 0 rfl) (hp_n (n := 28) rfl ?_)
      refine lv_aload_n hx hb dX11_heard_28 rfl (lv_at hl 0 rfl) (hp_n (n := 29) rfl ?_)
      refine q_gets (κ := 12) (k := 8) (φ := 608) (pc' := 32) C B (cw_k B.2.2 k0) fl_X11_47 rfl rfl rfl eb_2 dX11_heard_29 rfl ?_
      refine lv_iload_n hx hb dX11_heard_32 rfl (lv_at hl 1 rfl) (hp_n (n := 33) rfl ?_)
      refine q_ci (pc' := 36) B (hp_runV (As := [.int a1]) (rest := [.ref a0]) C B (t_X5_at Γ l α B.2.2.1 b_2 (cw_k B.2.2 kb_2) a1) lb_X5_at lv_X5_at lk_X11_135 (cw_k B.2.2 kb_2) rfl (by decide) rfl hl.1 rfl (Nat.le_of_ble_eq_true rfl) dX11_heard_33 ⟨Nat.le_refl _, Nat.le_refl _⟩) (fun _ _ h => by rw [h]; exact B.2.2) rfl (fun rh_5 αh_5 Hh_5 Lh_5 ph_5 Bh_5 => ?_)
      rw [ph_5] at Bh_5
      refine q_ci (pc' := 39) Bh_5 (hp_runV (As := [.int rh_5]) (rest := []) C Bh_5 (t_X11_answer Γ l α Bh_5.2.2.1 a0 (cw_k Bh_5.2.2 k0) rh_5) lb_X11_answer lv_X11_answer lk_X11_115 (cw_k Bh_5.2.2 k0) rfl (by decide) rfl hl.1 rfl (Nat.le_of_ble_eq_true rfl) dX11_heard_36 ⟨Nat.le_refl _, Nat.le_refl _⟩) (fun _ _ h => cw_tr Bh_5.2.2 h (by decide)) rfl (fun rh_6 αh_6 Hh_6 Lh_6 ph_6 Bh_6 => ?_)
      exact q_iret C Bh_6 hr hlk Bh_6.2.2 dX11_heard_39
    ·
      have jc_4 := il_nlt c_4
      refine lv_aload_n hx hb dX11_heard_21 rfl (lv_at hl 0 rfl) (hp_n (n := 22) rfl ?_)
      refine lv_iconst (v := 5) hx hb dX11_heard_22 (by decide) (hp_n (n := 23) rfl ?_)
      refine q_ci (pc' := 26) B (hp_runV (As := [.int 5]) (rest := []) C B (t_X11_refuse Γ l α B.2.2.1 a0 (cw_k B.2.2 k0) 5) lb_X11_refuse lv_X11_refuse lk_X11_98 (cw_k B.2.2 k0) rfl (by decide) rfl hl.1 rfl (Nat.le_of_ble_eq_true rfl) dX11_heard_23 ⟨Nat.le_refl _, Nat.le_refl _⟩) (fun _ _ h => cw_tr B.2.2 h (by decide)) rfl (fun rh_7 αh_7 Hh_7 Lh_7 ph_7 Bh_7 => ?_)
      exact q_iret C Bh_7 hr hlk Bh_7.2.2 dX11_heard_26
  ·
    have jc_1 := il_nle c_1
    refine lv_aload_n hx hb dX11_heard_4 rfl (lv_at hl 0 rfl) (hp_n (n := 5) rfl ?_)
    refine lv_iconst (v := 1) hx hb dX11_heard_5 (by decide) (hp_n (n := 6) rfl ?_)
    refine q_ci (pc' := 9) B (hp_runV (As := [.int 1]) (rest := []) C B (t_X11_refuse Γ l α B.2.2.1 a0 (cw_k B.2.2 k0) 1) lb_X11_refuse lv_X11_refuse lk_X11_98 (cw_k B.2.2 k0) rfl (by decide) rfl hl.1 rfl (Nat.le_of_ble_eq_true rfl) dX11_heard_6 ⟨Nat.le_refl _, Nat.le_refl _⟩) (fun _ _ h => cw_tr B.2.2 h (by decide)) rfl (fun rh_8 αh_8 Hh_8 Lh_8 ph_8 Bh_8 => ?_)
    exact q_iret C Bh_8 hr hlk Bh_8.2.2 dX11_heard_9
abbrev w_X11_fault : cw_W := ([], [], [], [])
set_option maxRecDepth 100000 in
set_option maxHeartbeats 4000000 in
theorem t_X11_fault (Γ : hp_G) (l : Launch) (α : hp_T) (g : GC α) (a0 : Nat) (k0 : hp_K α a0 = 12) (a1 : Int32) : Met l yX11_fault (hp_ws yX11_fault cX11_fault 2 (some .int)) (hp_rm 0 0 0) (hp_Pc Γ α [.ref a0, .int a1]) (hp_Qi Γ (fun r β => β = α)) 0 0 (hp_A Γ) := by
  refine hp_start (by decide) ?_
  intro p e s m below meth c C hr hlk B0 hnm
  have C : hp_C Γ p m c cX11_fault 2 s ([.ref a0, .int a1] : List Value).toArray RX11 := C
  have hx := C.1.1
  have hb := C.1.2.1
  have hown := C.1.2.2.2.1
  have hts := C.1.2.2.2.2
  have B : hp_B Γ (cw w_X11_fault) s α α s.heap [] := ⟨B0.1, B0.2.1, cw_rf g⟩
  have litm1 : ((-1) : Int32).toInt = (-1) := by decide
  have lit0 : (0 : Int32).toInt = 0 := by decide
  have lit1 : (1 : Int32).toInt = 1 := by decide
  have hl := lv_entry ([.ref a0, .int a1]) (n := 2) (Nat.le_of_ble_eq_true rfl)
  show W p l e (hp_rm 0 0 0) s m ([.ref a0, .int a1] : List Value).toArray below meth c s.heap [] 0 0 (MQ below (hp_Qi Γ (fun r β => β = α)) ([.ref a0, .int a1] : List Value).toArray s 0 0 (hp_A Γ)) (entryFrame m ([.ref a0, .int a1] : List Value).toArray 2)
  rw [lg_entry_eq]
  generalize (lg_sl ([.ref a0, .int a1]) ++ List.replicate (2 - (lg_sl ([.ref a0, .int a1])).length) Slot.unset).toArray = ls at hl ⊢
  have hl : lv_has ls 2 [(0, .ref a0), (1, .int a1)] := hl
  refine lv_iload_n hx hb dX11_fault_0 rfl (lv_at hl 1 rfl) (hp_n (n := 1) rfl ?_)
  refine lv_if_ne (tgt := 12) hx hb dX11_fault_1 (by decide) (fun c_1 => ?_) (fun c_1 => hp_n (n := 4) rfl ?_)
  ·
    have jc_1 := il_ne c_1
    refine lv_iload_n hx hb dX11_fault_12 rfl (lv_at hl 1 rfl) (hp_n (n := 13) rfl ?_)
    refine lv_iconst (v := 1) hx hb dX11_fault_13 (by decide) (hp_n (n := 14) rfl ?_)
    refine lv_icmp_ne (tgt := 27) hx hb dX11_fault_14 (by decide) (fun c_2 => ?_) (fun c_2 => hp_n (n := 17) rfl ?_)
    ·
      have jc_2 := il_ne c_2
      refine lv_iconst (v := (-1)) hx hb dX11_fault_27 (by decide) (hp_n (n := 28) rfl ?_)
      exact q_iret C B hr hlk rfl dX11_fault_28
    ·
      have jc_2 := il_eq c_2
      refine lv_aload_n hx hb dX11_fault_17 rfl (lv_at hl 0 rfl) (hp_n (n := 18) rfl ?_)
      refine q_getr (κ := 12) (k := 16) (φ := 616) (pc' := 21) C B (cw_k B.2.2 k0) fl_X11_82 rfl rfl rfl (cw_r B.2.2 k0 rfl rfl (by decide) (by decide)) dX11_fault_18 rfl (fun b_3 eb_3 kb_3 => ?_)
      refine q_geti (κ := 4) (k := 5) (φ := 205) (pc' := 24) C B (cw_k B.2.2 kb_3) fl_X11_141 rfl rfl rfl dX11_fault_21 rfl (fun x_4 ex_4 => ?_)
      refine lv_goto (tgt := 28) hx hb dX11_fault_24 (by decide) ?_
      exact q_iret C B hr hlk rfl dX11_fault_28
  ·
    have jc_1 := il_eq c_1
    refine lv_aload_n hx hb dX11_fault_4 rfl (lv_at hl 0 rfl) (hp_n (n := 5) rfl ?_)
    refine q_getr (κ := 12) (k := 16) (φ := 616) (pc' := 8) C B (cw_k B.2.2 k0) fl_X11_82 rfl rfl rfl (cw_r B.2.2 k0 rfl rfl (by decide) (by decide)) dX11_fault_5 rfl (fun b_5 eb_5 kb_5 => ?_)
    refine q_geti (κ := 4) (k := 4) (φ := 204) (pc' := 11) C B (cw_k B.2.2 kb_5) fl_X11_138 rfl rfl rfl dX11_fault_8 rfl (fun x_6 ex_6 => ?_)
    exact q_iret C B hr hlk rfl dX11_fault_11
abbrev w_X11_type : cw_W := ([501], [606, 607], [27], [])
abbrev w_X11_many : cw_W := ([600], [], [], [])
set_option maxRecDepth 100000 in
set_option maxHeartbeats 4000000 in
theorem t_X11_many (Γ : hp_G) (l : Launch) (α : hp_T) (g : GC α) (a0 : Nat) (k0 : hp_K α a0 = 12) (a1 : Int32) : Met l yX11_many (hp_ws yX11_many cX11_many 2 (some .int)) (hp_rm 2 0 0) (hp_Pc Γ α [.ref a0, .int a1]) (hp_Qi Γ (fun r β => cw w_X11_many α β)) 0 0 (hp_A Γ) := by
  refine hp_start (by decide) ?_
  intro p e s m below meth c C hr hlk B0 hnm
  have C : hp_C Γ p m c cX11_many 2 s ([.ref a0, .int a1] : List Value).toArray RX11 := C
  have hx := C.1.1
  have hb := C.1.2.1
  have hown := C.1.2.2.2.1
  have hts := C.1.2.2.2.2
  have B : hp_B Γ (cw w_X11_many) s α α s.heap [] := ⟨B0.1, B0.2.1, cw_rf g⟩
  have lit0 : (0 : Int32).toInt = 0 := by decide
  have lit1 : (1 : Int32).toInt = 1 := by decide
  have lit2 : (2 : Int32).toInt = 2 := by decide
  have lit3 : (3 : Int32).toInt = 3 := by decide
  have lit4 : (4 : Int32).toInt = 4 := by decide
  have lit5 : (5 : Int32).toInt = 5 := by decide
  have hl := lv_entry ([.ref a0, .int a1]) (n := 2) (Nat.le_of_ble_eq_true rfl)
  show W p l e (hp_rm 2 0 0) s m ([.ref a0, .int a1] : List Value).toArray below meth c s.heap [] 0 0 (MQ below (hp_Qi Γ (fun r β => cw w_X11_many α β)) ([.ref a0, .int a1] : List Value).toArray s 0 0 (hp_A Γ)) (entryFrame m ([.ref a0, .int a1] : List Value).toArray 2)
  rw [lg_entry_eq]
  generalize (lg_sl ([.ref a0, .int a1]) ++ List.replicate (2 - (lg_sl ([.ref a0, .int a1])).length) Slot.unset).toArray = ls at hl ⊢
  have hl : lv_has ls 2 [(0, .ref a0), (1, .int a1)] := hl
  refine lv_iload_n hx hb dX11_many_0 rfl (lv_at hl 1 rfl) (hp_n (n := 1) rfl ?_)
  by_cases c_1 : a1 = 0
  · have jc_1 := il_eq c_1
    refine lv_tableIn (off := 39) (tgt := 40) hx hb dX11_many_1 (by omega) (by omega) (by rw [jc_1, lit0]; rfl) (by decide) ?_
    refine lv_aload_n hx hb dX11_many_40 rfl (lv_at hl 0 rfl) (hp_n (n := 41) rfl ?_)
    refine lv_aload_n hx hb dX11_many_41 rfl (lv_at hl 0 rfl) (hp_n (n := 42) rfl ?_)
    refine q_getr (κ := 12) (k := 1) (φ := 601) (pc' := 45) C B (cw_k B.2.2 k0) fl_X11_16 rfl rfl rfl (cw_r B.2.2 k0 rfl rfl (by decide) (by decide)) dX11_many_42 rfl (fun b_2 eb_2 kb_2 => ?_)
    refine q_geti (κ := 11) (k := 2) (φ := 552) (pc' := 48) C B (cw_k B.2.2 kb_2) fl_X11_112 rfl rfl rfl dX11_many_45 rfl (fun x_3 ex_3 => ?_)
    refine q_ci (pc' := 51) B (hp_runV (As := [.int x_3]) (rest := []) C B (t_X11_answer Γ l α B.2.2.1 a0 (cw_k B.2.2 k0) x_3) lb_X11_answer lv_X11_answer lk_X11_115 (cw_k B.2.2 k0) rfl (by decide) rfl hl.1 rfl (Nat.le_of_ble_eq_true rfl) dX11_many_48 ⟨Nat.le_refl _, Nat.le_refl _⟩) (fun _ _ h => cw_tr B.2.2 h (by decide)) rfl (fun rh_4 αh_4 Hh_4 Lh_4 ph_4 Bh_4 => ?_)
    exact q_iret C Bh_4 hr hlk Bh_4.2.2 dX11_many_51
  have jc_1 := il_ne c_1
  by_cases c_5 : a1 = 1
  · have jc_5 := il_eq c_5
    refine lv_tableIn (off := 51) (tgt := 52) hx hb dX11_many_1 (by omega) (by omega) (by rw [jc_5, lit1]; rfl) (by decide) ?_
    refine lv_aload_n hx hb dX11_many_52 rfl (lv_at hl 0 rfl) (hp_n (n := 53) rfl ?_)
    refine lv_aload_n hx hb dX11_many_53 rfl (lv_at hl 0 rfl) (hp_n (n := 54) rfl ?_)
    refine q_getr (κ := 12) (k := 1) (φ := 601) (pc' := 57) C B (cw_k B.2.2 k0) fl_X11_16 rfl rfl rfl (cw_r B.2.2 k0 rfl rfl (by decide) (by decide)) dX11_many_54 rfl (fun b_6 eb_6 kb_6 => ?_)
    refine q_geti (κ := 11) (k := 0) (φ := 550) (pc' := 60) C B (cw_k B.2.2 kb_6) fl_X11_122 rfl rfl rfl dX11_many_57 rfl (fun x_7 ex_7 => ?_)
    refine q_ci (pc' := 63) B (hp_runV (As := [.int x_7]) (rest := []) C B (t_X11_answer Γ l α B.2.2.1 a0 (cw_k B.2.2 k0) x_7) lb_X11_answer lv_X11_answer lk_X11_115 (cw_k B.2.2 k0) rfl (by decide) rfl hl.1 rfl (Nat.le_of_ble_eq_true rfl) dX11_many_60 ⟨Nat.le_refl _, Nat.le_refl _⟩) (fun _ _ h => cw_tr B.2.2 h (by decide)) rfl (fun rh_8 αh_8 Hh_8 Lh_8 ph_8 Bh_8 => ?_)
    exact q_iret C Bh_8 hr hlk Bh_8.2.2 dX11_many_63
  have jc_5 := il_ne c_5
  by_cases c_9 : a1 = 2
  · have jc_9 := il_eq c_9
    refine lv_tableIn (off := 63) (tgt := 64) hx hb dX11_many_1 (by omega) (by omega) (by rw [jc_9, lit2]; rfl) (by decide) ?_
    refine lv_aload_n hx hb dX11_many_64 rfl (lv_at hl 0 rfl) (hp_n (n := 65) rfl ?_)
    refine lv_aload_n hx hb dX11_many_65 rfl (lv_at hl 0 rfl) (hp_n (n := 66) rfl ?_)
    refine q_getr (κ := 12) (k := 3) (φ := 603) (pc' := 69) C B (cw_k B.2.2 k0) fl_X11_26 rfl rfl rfl (cw_r B.2.2 k0 rfl rfl (by decide) (by decide)) dX11_many_66 rfl (fun b_10 eb_10 kb_10 => ?_)
    refine q_geti (κ := 6) (k := 1) (φ := 301) (pc' := 72) C B (cw_k B.2.2 kb_10) fl_X11_132 rfl rfl rfl dX11_many_69 rfl (fun x_11 ex_11 => ?_)
    refine q_ci (pc' := 75) B (hp_runV (As := [.int x_11]) (rest := []) C B (t_X11_answer Γ l α B.2.2.1 a0 (cw_k B.2.2 k0) x_11) lb_X11_answer lv_X11_answer lk_X11_115 (cw_k B.2.2 k0) rfl (by decide) rfl hl.1 rfl (Nat.le_of_ble_eq_true rfl) dX11_many_72 ⟨Nat.le_refl _, Nat.le_refl _⟩) (fun _ _ h => cw_tr B.2.2 h (by decide)) rfl (fun rh_12 αh_12 Hh_12 Lh_12 ph_12 Bh_12 => ?_)
    exact q_iret C Bh_12 hr hlk Bh_12.2.2 dX11_many_75
  have jc_9 := il_ne c_9
  by_cases c_13 : a1 = 3
  · have jc_13 := il_eq c_13
    refine lv_tableIn (off := 75) (tgt := 76) hx hb dX11_many_1 (by omega) (by omega) (by rw [jc_13, lit3]; rfl) (by decide) ?_
    refine lv_aload_n hx hb dX11_many_76 rfl (lv_at hl 0 rfl) (hp_n (n := 77) rfl ?_)
    refine lv_aload_n hx hb dX11_many_77 rfl (lv_at hl 0 rfl) (hp_n (n := 78) rfl ?_)
    refine q_getr (κ := 12) (k := 1) (φ := 601) (pc' := 81) C B (cw_k B.2.2 k0) fl_X11_16 rfl rfl rfl (cw_r B.2.2 k0 rfl rfl (by decide) (by decide)) dX11_many_78 rfl (fun b_14 eb_14 kb_14 => ?_)
    refine q_geti (κ := 11) (k := 4) (φ := 554) (pc' := 84) C B (cw_k B.2.2 kb_14) fl_X11_153 rfl rfl rfl dX11_many_81 rfl (fun x_15 ex_15 => ?_)
    refine q_ci (pc' := 87) B (hp_runV (As := [.int x_15]) (rest := []) C B (t_X11_answer Γ l α B.2.2.1 a0 (cw_k B.2.2 k0) x_15) lb_X11_answer lv_X11_answer lk_X11_115 (cw_k B.2.2 k0) rfl (by decide) rfl hl.1 rfl (Nat.le_of_ble_eq_true rfl) dX11_many_84 ⟨Nat.le_refl _, Nat.le_refl _⟩) (fun _ _ h => cw_tr B.2.2 h (by decide)) rfl (fun rh_16 αh_16 Hh_16 Lh_16 ph_16 Bh_16 => ?_)
    exact q_iret C Bh_16 hr hlk Bh_16.2.2 dX11_many_87
  have jc_13 := il_ne c_13
  by_cases c_17 : a1 = 4
  · have jc_17 := il_eq c_17
    refine lv_tableIn (off := 87) (tgt := 88) hx hb dX11_many_1 (by omega) (by omega) (by rw [jc_17, lit4]; rfl) (by decide) ?_
    refine lv_aload_n hx hb dX11_many_88 rfl (lv_at hl 0 rfl) (hp_n (n := 89) rfl ?_)
    refine lv_aload_n hx hb dX11_many_89 rfl (lv_at hl 0 rfl) (hp_n (n := 90) rfl ?_)
    refine q_getr (κ := 12) (k := 1) (φ := 601) (pc' := 93) C B (cw_k B.2.2 k0) fl_X11_16 rfl rfl rfl (cw_r B.2.2 k0 rfl rfl (by decide) (by decide)) dX11_many_90 rfl (fun b_18 eb_18 kb_18 => ?_)
    refine q_geti (κ := 11) (k := 6) (φ := 556) (pc' := 96) C B (cw_k B.2.2 kb_18) fl_X11_156 rfl rfl rfl dX11_many_93 rfl (fun x_19 ex_19 => ?_)
    refine q_ci (pc' := 99) B (hp_runV (As := [.int x_19]) (rest := []) C B (t_X11_answer Γ l α B.2.2.1 a0 (cw_k B.2.2 k0) x_19) lb_X11_answer lv_X11_answer lk_X11_115 (cw_k B.2.2 k0) rfl (by decide) rfl hl.1 rfl (Nat.le_of_ble_eq_true rfl) dX11_many_96 ⟨Nat.le_refl _, Nat.le_refl _⟩) (fun _ _ h => cw_tr B.2.2 h (by decide)) rfl (fun rh_20 αh_20 Hh_20 Lh_20 ph_20 Bh_20 => ?_)
    exact q_iret C Bh_20 hr hlk Bh_20.2.2 dX11_many_99
  have jc_17 := il_ne c_17
  by_cases c_21 : a1 = 5
  · have jc_21 := il_eq c_21
    refine lv_tableIn (off := 99) (tgt := 100) hx hb dX11_many_1 (by omega) (by omega) (by rw [jc_21, lit5]; rfl) (by decide) ?_
    refine lv_aload_n hx hb dX11_many_100 rfl (lv_at hl 0 rfl) (hp_n (n := 101) rfl ?_)
    refine lv_aload_n hx hb dX11_many_101 rfl (lv_at hl 0 rfl) (hp_n (n := 102) rfl ?_)
    refine q_getr (κ := 12) (k := 1) (φ := 601) (pc' := 105) C B (cw_k B.2.2 k0) fl_X11_16 rfl rfl rfl (cw_r B.2.2 k0 rfl rfl (by decide) (by decide)) dX11_many_102 rfl (fun b_22 eb_22 kb_22 => ?_)
    refine q_ci (pc' := 108) B (hp_runV (As := []) (rest := [.ref a0]) C B (t_X10_alarmedBits Γ l α B.2.2.1 b_22 (cw_k B.2.2 kb_22)) lb_X10_alarmedBits lv_X10_alarmedBits lk_X11_159 (cw_k B.2.2 kb_22) rfl (by decide) rfl hl.1 rfl (Nat.le_of_ble_eq_true rfl) dX11_many_105 ⟨Nat.le_refl _, Nat.le_refl _⟩) (fun _ _ h => by rw [h]; exact B.2.2) rfl (fun rh_23 αh_23 Hh_23 Lh_23 ph_23 Bh_23 => ?_)
    rw [ph_23] at Bh_23
    refine q_ci (pc' := 111) Bh_23 (hp_runV (As := [.int rh_23]) (rest := []) C Bh_23 (t_X11_answer Γ l α Bh_23.2.2.1 a0 (cw_k Bh_23.2.2 k0) rh_23) lb_X11_answer lv_X11_answer lk_X11_115 (cw_k Bh_23.2.2 k0) rfl (by decide) rfl hl.1 rfl (Nat.le_of_ble_eq_true rfl) dX11_many_108 ⟨Nat.le_refl _, Nat.le_refl _⟩) (fun _ _ h => cw_tr Bh_23.2.2 h (by decide)) rfl (fun rh_24 αh_24 Hh_24 Lh_24 ph_24 Bh_24 => ?_)
    exact q_iret C Bh_24 hr hlk Bh_24.2.2 dX11_many_111
  have jc_21 := il_ne c_21
  refine lv_tableOut (tgt := 112) hx hb dX11_many_1 (by omega) (by decide) ?_
  refine lv_aload_n hx hb dX11_many_112 rfl (lv_at hl 0 rfl) (hp_n (n := 113) rfl ?_)
  refine lv_iconst (v := 1) hx hb dX11_many_113 (by decide) (hp_n (n := 114) rfl ?_)
  refine q_ci (pc' := 117) B (hp_runV (As := [.int 1]) (rest := []) C B (t_X11_refuse Γ l α B.2.2.1 a0 (cw_k B.2.2 k0) 1) lb_X11_refuse lv_X11_refuse lk_X11_98 (cw_k B.2.2 k0) rfl (by decide) rfl hl.1 rfl (Nat.le_of_ble_eq_true rfl) dX11_many_114 ⟨Nat.le_refl _, Nat.le_refl _⟩) (fun _ _ h => cw_tr B.2.2 h (by decide)) rfl (fun rh_25 αh_25 Hh_25 Lh_25 ph_25 Bh_25 => ?_)
  exact q_iret C Bh_25 hr hlk Bh_25.2.2 dX11_many_117
abbrev w_X11_size : cw_W := ([600], [], [], [])
set_option maxRecDepth 100000 in
set_option maxHeartbeats 4000000 in
theorem t_X11_size (Γ : hp_G) (l : Launch) (α : hp_T) (g : GC α) (a0 : Nat) (k0 : hp_K α a0 = 12) (a1 : Int32) : Met l yX11_size (hp_ws yX11_size cX11_size 3 (some .int)) (hp_rm 1 0 0) (hp_Pc Γ α [.ref a0, .int a1]) (hp_Qi Γ (fun r β => cw w_X11_size α β)) 0 0 (hp_A Γ) := by
  refine hp_start (by decide) ?_
  intro p e s m below meth c C hr hlk B0 hnm
  have C : hp_C Γ p m c cX11_size 3 s ([.ref a0, .int a1] : List Value).toArray RX11 := C
  have hx := C.1.1
  have hb := C.1.2.1
  have hown := C.1.2.2.2.1
  have hts := C.1.2.2.2.2
  have B : hp_B Γ (cw w_X11_size) s α α s.heap [] := ⟨B0.1, B0.2.1, cw_rf g⟩
  have lit2 : (2 : Int32).toInt = 2 := by decide
  have hl := lv_entry ([.ref a0, .int a1]) (n := 3) (Nat.le_of_ble_eq_true rfl)
  show W p l e (hp_rm 1 0 0) s m ([.ref a0, .int a1] : List Value).toArray below meth c s.heap [] 0 0 (MQ below (hp_Qi Γ (fun r β => cw w_X11_size α β)) ([.ref a0, .int a1] : List Value).toArray s 0 0 (hp_A Γ)) (entryFrame m ([.ref a0, .int a1] : List Value).toArray 3)
  rw [lg_entry_eq]
  generalize (lg_sl ([.ref a0, .int a1]) ++ List.replicate (3 - (lg_sl ([.ref a0, .int a1])).length) Slot.unset).toArray = ls at hl ⊢
  have hl : lv_has ls 3 [(0, .ref a0), (1, .int a1)] := hl
  refine lv_aload_n hx hb dX11_size_0 rfl (lv_at hl 0 rfl) (hp_n (n := 1) rfl ?_)
  refine q_getr (κ := 12) (k := 1) (φ := 601) (pc' := 4) C B (cw_k B.2.2 k0) fl_X11_16 rfl rfl rfl (cw_r B.2.2 k0 rfl rfl (by decide) (by decide)) dX11_size_1 rfl (fun b_1 eb_1 kb_1 => ?_)
  refine lv_iload_n hx hb dX11_size_4 rfl (lv_at hl 1 rfl) (hp_n (n := 5) rfl ?_)
  refine q_cq (pc' := 8) B (hp_runV (As := [.int a1]) (rest := []) C B (t_X10_logAt Γ l α B.2.2.1 b_1 (cw_k B.2.2 kb_1) a1) lb_X10_logAt lv_X10_logAt lk_X11_163 (cw_k B.2.2 kb_1) rfl (by decide) rfl hl.1 rfl (Nat.le_of_ble_eq_true rfl) dX11_size_5 ⟨Nat.le_refl _, Nat.le_refl _⟩) (fun _ _ h => by rw [h.1]; exact B.2.2) rfl (fun rh_2 αh_2 Hh_2 Lh_2 ph_2 Bh_2 => ?_)
  rw [ph_2.1] at Bh_2
  rcases rh_2 with _ | bh_2
  ·
    refine lv_astore_nN (lv' := [(2, .null), (0, .ref a0), (1, .int a1)]) hx hb dX11_size_8 rfl hl (by decide) rfl (fun ls hl => hp_n (n := 9) rfl ?_)
    refine lv_aload_nN hx hb dX11_size_9 rfl (lv_at hl 0 rfl) (hp_n (n := 10) rfl ?_)
    refine lv_ifnonnullN hx hb dX11_size_10 (hp_n (n := 13) rfl ?_)
    refine lv_aload_n hx hb dX11_size_13 rfl (lv_at hl 1 rfl) (hp_n (n := 14) rfl ?_)
    refine lv_iconst (v := 2) hx hb dX11_size_14 (by decide) (hp_n (n := 15) rfl ?_)
    refine q_ci (pc' := 18) Bh_2 (hp_runV (As := [.int 2]) (rest := []) C Bh_2 (t_X11_refuse Γ l α Bh_2.2.2.1 a0 (cw_k Bh_2.2.2 k0) 2) lb_X11_refuse lv_X11_refuse lk_X11_98 (cw_k Bh_2.2.2 k0) rfl (by decide) rfl hl.1 rfl (Nat.le_of_ble_eq_true rfl) dX11_size_15 ⟨Nat.le_refl _, Nat.le_refl _⟩) (fun _ _ h => cw_tr Bh_2.2.2 h (by decide)) rfl (fun rh_3 αh_3 Hh_3 Lh_3 ph_3 Bh_3 => ?_)
    refine lv_goto (tgt := 29) hx hb dX11_size_18 (by decide) ?_
    exact q_iret C Bh_3 hr hlk Bh_3.2.2 dX11_size_29
  ·
    have kbh_2 : hp_K α bh_2 = 3 := cw_k' Bh_2.2.2 (ph_2.2 bh_2 rfl)
    refine lv_astore_n (lv' := [(2, .ref bh_2), (0, .ref a0), (1, .int a1)]) hx hb dX11_size_8 rfl hl (by decide) rfl (fun ls hl => hp_n (n := 9) rfl ?_)
    refine lv_aload_n hx hb dX11_size_9 rfl (lv_at hl 0 rfl) (hp_n (n := 10) rfl ?_)
    refine lv_ifnonnull (tgt := 21) hx hb dX11_size_10 (by decide) ?_
    refine lv_aload_n hx hb dX11_size_21 rfl (lv_at hl 1 rfl) (hp_n (n := 22) rfl ?_)
    refine lv_aload_n hx hb dX11_size_22 rfl (lv_at hl 0 rfl) (hp_n (n := 23) rfl ?_)
    refine q_geti (κ := 3) (k := 2) (φ := 152) (pc' := 26) C Bh_2 (cw_k Bh_2.2.2 kbh_2) fl_X11_167 rfl rfl rfl dX11_size_23 rfl (fun x_4 ex_4 => ?_)
    refine q_ci (pc' := 29) Bh_2 (hp_runV (As := [.int x_4]) (rest := []) C Bh_2 (t_X11_answer Γ l α Bh_2.2.2.1 a0 (cw_k Bh_2.2.2 k0) x_4) lb_X11_answer lv_X11_answer lk_X11_115 (cw_k Bh_2.2.2 k0) rfl (by decide) rfl hl.1 rfl (Nat.le_of_ble_eq_true rfl) dX11_size_26 ⟨Nat.le_refl _, Nat.le_refl _⟩) (fun _ _ h => cw_tr Bh_2.2.2 h (by decide)) rfl (fun rh_5 αh_5 Hh_5 Lh_5 ph_5 Bh_5 => ?_)
    exact q_iret C Bh_5 hr hlk Bh_5.2.2 dX11_size_29
abbrev w_X11_entry : cw_W := ([600], [], [], [])
set_option maxRecDepth 100000 in
set_option maxHeartbeats 4000000 in
theorem t_X11_entry (Γ : hp_G) (l : Launch) (α : hp_T) (g : GC α) (a0 : Nat) (k0 : hp_K α a0 = 12) (a1 : Int32) (a2 : Int32) (a3 : Int32) : Met l yX11_entry (hp_ws yX11_entry cX11_entry 6 (some .int)) (hp_rm 1 0 0) (hp_Pc Γ α [.ref a0, .int a1, .int a2, .int a3]) (hp_Qi Γ (fun r β => cw w_X11_entry α β)) 0 0 (hp_A Γ) := by
  refine hp_start (by decide) ?_
  intro p e s m below meth c C hr hlk B0 hnm
  have C : hp_C Γ p m c cX11_entry 6 s ([.ref a0, .int a1, .int a2, .int a3] : List Value).toArray RX11 := C
  have hx := C.1.1
  have hb := C.1.2.1
  have hown := C.1.2.2.2.1
  have hts := C.1.2.2.2.2
  have B : hp_B Γ (cw w_X11_entry) s α α s.heap [] := ⟨B0.1, B0.2.1, cw_rf g⟩
  have lit0 : (0 : Int32).toInt = 0 := by decide
  have lit1 : (1 : Int32).toInt = 1 := by decide
  have lit2 : (2 : Int32).toInt = 2 := by decide
  have lit5 : (5 : Int32).toInt = 5 := by decide
  have hl := lv_entry ([.ref a0, .int a1, .int a2, .int a3]) (n := 6) (Nat.le_of_ble_eq_true rfl)
  show W p l e (hp_rm 1 0 0) s m ([.ref a0, .int a1, .int a2, .int a3] : List Value).toArray below meth c s.heap [] 0 0 (MQ below (hp_Qi Γ (fun r β => cw w_X11_entry α β)) ([.ref a0, .int a1, .int a2, .int a3] : List Value).toArray s 0 0 (hp_A Γ)) (entryFrame m ([.ref a0, .int a1, .int a2, .int a3] : List Value).toArray 6)
  rw [lg_entry_eq]
  generalize (lg_sl ([.ref a0, .int a1, .int a2, .int a3]) ++ List.replicate (6 - (lg_sl ([.ref a0, .int a1, .int a2, .int a3])).length) Slot.unset).toArray = ls at hl ⊢
  have hl : lv_has ls 6 [(0, .ref a0), (1, .int a1), (2, .int a2), (3, .int a3)] := hl
  refine lv_iload_n hx hb dX11_entry_0 rfl (lv_at hl 2 rfl) (hp_n (n := 1) rfl ?_)
  have J8 : ∀ (Hh_1 : Heap) (Lh_1 : List Loc) (Bh_1 : hp_B Γ (cw w_X11_entry) s α α Hh_1 Lh_1) (ls : Array Slot) (hl : lv_has ls 6 [(0, .ref a0)]), W p l e (hp_rm 1 0 0) s m ([.ref a0, .int a1, .int a2, .int a3] : List Value).toArray below meth c Hh_1 Lh_1 0 0 (MQ below (hp_Qi Γ (fun r β => cw w_X11_entry α β)) ([.ref a0, .int a1, .int a2, .int a3] : List Value).toArray s 0 0 (hp_A Γ)) (F0 m 8 ls []) := by
    intro Hh_1 Lh_1 Bh_1 ls hl
    refine lv_aload_n hx hb dX11_entry_8 rfl (lv_at hl 0 rfl) (hp_n (n := 9) rfl ?_)
    refine lv_iconst (v := 1) hx hb dX11_entry_9 (by decide) (hp_n (n := 10) rfl ?_)
    refine q_ci (pc' := 13) Bh_1 (hp_runV (As := [.int 1]) (rest := []) C Bh_1 (t_X11_refuse Γ l α Bh_1.2.2.1 a0 (cw_k Bh_1.2.2 k0) 1) lb_X11_refuse lv_X11_refuse lk_X11_98 (cw_k Bh_1.2.2 k0) rfl (by decide) rfl hl.1 rfl (Nat.le_of_ble_eq_true rfl) dX11_entry_10 ⟨Nat.le_refl _, Nat.le_refl _⟩) (fun _ _ h => cw_tr Bh_1.2.2 h (by decide)) rfl (fun rh_2 αh_2 Hh_2 Lh_2 ph_2 Bh_2 => ?_)
    exact q_iret C Bh_2 hr hlk Bh_2.2.2 dX11_entry_13
  refine lv_if_lt (tgt := 8) hx hb dX11_entry_1 (by decide) (fun c_3 => ?_) (fun c_3 => hp_n (n := 4) rfl ?_)
  ·
    have jc_3 := il_lt c_3
    exact J8 s.heap [] B ls (lv_sub hl [0] rfl)
  ·
    have jc_3 := il_nlt c_3
    refine lv_iload_n hx hb dX11_entry_4 rfl (lv_at hl 3 rfl) (hp_n (n := 5) rfl ?_)
    refine lv_if_ge (tgt := 14) hx hb dX11_entry_5 (by decide) (fun c_4 => ?_) (fun c_4 => hp_n (n := 8) rfl ?_)
    ·
      have jc_4 := il_le c_4
      refine lv_aload_n hx hb dX11_entry_14 rfl (lv_at hl 0 rfl) (hp_n (n := 15) rfl ?_)
      refine q_getr (κ := 12) (k := 1) (φ := 601) (pc' := 18) C B (cw_k B.2.2 k0) fl_X11_16 rfl rfl rfl (cw_r B.2.2 k0 rfl rfl (by decide) (by decide)) dX11_entry_15 rfl (fun b_5 eb_5 kb_5 => ?_)
      refine lv_iload_n hx hb dX11_entry_18 rfl (lv_at hl 1 rfl) (hp_n (n := 19) rfl ?_)
      refine q_cq (pc' := 22) B (hp_runV (As := [.int a1]) (rest := []) C B (t_X10_logAt Γ l α B.2.2.1 b_5 (cw_k B.2.2 kb_5) a1) lb_X10_logAt lv_X10_logAt lk_X11_163 (cw_k B.2.2 kb_5) rfl (by decide) rfl hl.1 rfl (Nat.le_of_ble_eq_true rfl) dX11_entry_19 ⟨Nat.le_refl _, Nat.le_refl _⟩) (fun _ _ h => by rw [h.1]; exact B.2.2) rfl (fun rh_6 αh_6 Hh_6 Lh_6 ph_6 Bh_6 => ?_)
      rw [ph_6.1] at Bh_6
      rcases rh_6 with _ | bh_6
      ·
        refine lv_astoreN (lv' := [(4, .null), (0, .ref a0), (1, .int a1), (2, .int a2), (3, .int a3)]) hx hb dX11_entry_22 hl (by decide) rfl (fun ls hl => hp_n (n := 24) rfl ?_)
        refine lv_aloadN hx hb dX11_entry_24 (lv_at hl 0 rfl) (hp_n (n := 26) rfl ?_)
        refine lv_ifnonnullN hx hb dX11_entry_26 (hp_n (n := 29) rfl ?_)
        refine lv_aload_n hx hb dX11_entry_29 rfl (lv_at hl 1 rfl) (hp_n (n := 30) rfl ?_)
        refine lv_iconst (v := 2) hx hb dX11_entry_30 (by decide) (hp_n (n := 31) rfl ?_)
        refine q_ci (pc' := 34) Bh_6 (hp_runV (As := [.int 2]) (rest := []) C Bh_6 (t_X11_refuse Γ l α Bh_6.2.2.1 a0 (cw_k Bh_6.2.2 k0) 2) lb_X11_refuse lv_X11_refuse lk_X11_98 (cw_k Bh_6.2.2 k0) rfl (by decide) rfl hl.1 rfl (Nat.le_of_ble_eq_true rfl) dX11_entry_31 ⟨Nat.le_refl _, Nat.le_refl _⟩) (fun _ _ h => cw_tr Bh_6.2.2 h (by decide)) rfl (fun rh_7 αh_7 Hh_7 Lh_7 ph_7 Bh_7 => ?_)
        exact q_iret C Bh_7 hr hlk Bh_7.2.2 dX11_entry_34
      ·
        have kbh_6 : hp_K α bh_6 = 3 := cw_k' Bh_6.2.2 (ph_6.2 bh_6 rfl)
        refine lv_astore (lv' := [(4, .ref bh_6), (0, .ref a0), (1, .int a1), (2, .int a2), (3, .int a3)]) hx hb dX11_entry_22 hl (by decide) rfl (fun ls hl => hp_n (n := 24) rfl ?_)
        refine lv_aload hx hb dX11_entry_24 (lv_at hl 0 rfl) (hp_n (n := 26) rfl ?_)
        refine lv_ifnonnull (tgt := 35) hx hb dX11_entry_26 (by decide) ?_
        refine lv_aload hx hb dX11_entry_35 (lv_at hl 0 rfl) (hp_n (n := 37) rfl ?_)
        refine lv_iload_n hx hb dX11_entry_37 rfl (lv_at hl 3 rfl) (hp_n (n := 38) rfl ?_)
        refine q_cq (pc' := 41) Bh_6 (hp_runV (As := [.int a2]) (rest := []) C Bh_6 (t_X2_wordAt Γ l α Bh_6.2.2.1 bh_6 (cw_k Bh_6.2.2 kbh_6) a2) lb_X2_wordAt lv_X2_wordAt lk_X11_170 (cw_k Bh_6.2.2 kbh_6) rfl (by decide) rfl hl.1 rfl (Nat.le_of_ble_eq_true rfl) dX11_entry_38 ⟨Nat.le_refl _, Nat.le_refl _⟩) (fun _ _ h => by rw [h.1]; exact Bh_6.2.2) rfl (fun rh_8 αh_8 Hh_8 Lh_8 ph_8 Bh_8 => ?_)
        rw [ph_8.1] at Bh_8
        rcases rh_8 with _ | bh_8
        ·
          refine lv_astoreN (lv' := [(5, .null), (4, .ref bh_6), (0, .ref a0), (1, .int a1), (2, .int a2), (3, .int a3)]) hx hb dX11_entry_41 hl (by decide) rfl (fun ls hl => hp_n (n := 43) rfl ?_)
          refine lv_aloadN hx hb dX11_entry_43 (lv_at hl 0 rfl) (hp_n (n := 45) rfl ?_)
          refine lv_ifnonnullN hx hb dX11_entry_45 (hp_n (n := 48) rfl ?_)
          refine lv_aload_n hx hb dX11_entry_48 rfl (lv_at hl 2 rfl) (hp_n (n := 49) rfl ?_)
          refine lv_iconst (v := 5) hx hb dX11_entry_49 (by decide) (hp_n (n := 50) rfl ?_)
          refine q_ci (pc' := 53) Bh_8 (hp_runV (As := [.int 5]) (rest := []) C Bh_8 (t_X11_refuse Γ l α Bh_8.2.2.1 a0 (cw_k Bh_8.2.2 k0) 5) lb_X11_refuse lv_X11_refuse lk_X11_98 (cw_k Bh_8.2.2 k0) rfl (by decide) rfl hl.1 rfl (Nat.le_of_ble_eq_true rfl) dX11_entry_50 ⟨Nat.le_refl _, Nat.le_refl _⟩) (fun _ _ h => cw_tr Bh_8.2.2 h (by decide)) rfl (fun rh_9 αh_9 Hh_9 Lh_9 ph_9 Bh_9 => ?_)
          exact q_iret C Bh_9 hr hlk Bh_9.2.2 dX11_entry_53
        ·
          have kbh_8 : hp_K α bh_8 = 10 := cw_k' Bh_8.2.2 (ph_8.2 bh_8 rfl).1
          have nxh_8 := (ph_8.2 bh_8 rfl).2
          refine lv_astore (lv' := [(5, .ref bh_8), (4, .ref bh_6), (0, .ref a0), (1, .int a1), (2, .int a2), (3, .int a3)]) hx hb dX11_entry_41 hl (by decide) rfl (fun ls hl => hp_n (n := 43) rfl ?_)
          refine lv_aload hx hb dX11_entry_43 (lv_at hl 0 rfl) (hp_n (n := 45) rfl ?_)
          refine lv_ifnonnull (tgt := 54) hx hb dX11_entry_45 (by decide) ?_
          refine lv_iload_n hx hb dX11_entry_54 rfl (lv_at hl 5 rfl) (hp_n (n := 55) rfl ?_)
          refine lv_if_ne (tgt := 68) hx hb dX11_entry_55 (by decide) (fun c_10 => ?_) (fun c_10 => hp_n (n := 58) rfl ?_)
          ·
            have jc_10 := il_ne c_10
            refine lv_iload_n hx hb dX11_entry_68 rfl (lv_at hl 5 rfl) (hp_n (n := 69) rfl ?_)
            refine lv_iconst (v := 1) hx hb dX11_entry_69 (by decide) (hp_n (n := 70) rfl ?_)
            refine lv_icmp_ne (tgt := 84) hx hb dX11_entry_70 (by decide) (fun c_11 => ?_) (fun c_11 => hp_n (n := 73) rfl ?_)
            ·
              have jc_11 := il_ne c_11
              refine lv_iload_n hx hb dX11_entry_84 rfl (lv_at hl 5 rfl) (hp_n (n := 85) rfl ?_)
              refine lv_iconst (v := 2) hx hb dX11_entry_85 (by decide) (hp_n (n := 86) rfl ?_)
              refine lv_isub hx hb dX11_entry_86 (hp_n (n := 87) rfl (lv_topi (fun x_12 ex_12 => ?_)))
              refine lv_aload hx hb dX11_entry_87 (lv_at hl 0 rfl) (hp_n (n := 89) rfl ?_)
              refine q_geti (κ := 10) (k := 1) (φ := 501) (pc' := 92) C Bh_8 (cw_k Bh_8.2.2 kbh_8) fl_X11_150 rfl rfl rfl dX11_entry_89 rfl (fun x_13 ex_13 => ?_)
              refine lv_icmp_ge (tgt := 110) hx hb dX11_entry_92 (by decide) (fun c_14 => ?_) (fun c_14 => hp_n (n := 95) rfl ?_)
              ·
                have jc_14 := il_le c_14
                refine lv_aload_n hx hb dX11_entry_110 rfl (lv_at hl 2 rfl) (hp_n (n := 111) rfl ?_)
                refine lv_iconst (v := 5) hx hb dX11_entry_111 (by decide) (hp_n (n := 112) rfl ?_)
                refine q_ci (pc' := 115) Bh_8 (hp_runV (As := [.int 5]) (rest := []) C Bh_8 (t_X11_refuse Γ l α Bh_8.2.2.1 a0 (cw_k Bh_8.2.2 k0) 5) lb_X11_refuse lv_X11_refuse lk_X11_98 (cw_k Bh_8.2.2 k0) rfl (by decide) rfl hl.1 rfl (Nat.le_of_ble_eq_true rfl) dX11_entry_112 ⟨Nat.le_refl _, Nat.le_refl _⟩) (fun _ _ h => cw_tr Bh_8.2.2 h (by decide)) rfl (fun rh_15 αh_15 Hh_15 Lh_15 ph_15 Bh_15 => ?_)
                exact q_iret C Bh_15 hr hlk Bh_15.2.2 dX11_entry_115
              ·
                have jc_14 := il_nle c_14
                refine lv_aload_n hx hb dX11_entry_95 rfl (lv_at hl 2 rfl) (hp_n (n := 96) rfl ?_)
                refine lv_aload hx hb dX11_entry_96 (lv_at hl 0 rfl) (hp_n (n := 98) rfl ?_)
                refine lv_iload_n hx hb dX11_entry_98 rfl (lv_at hl 5 rfl) (hp_n (n := 99) rfl ?_)
                refine lv_iconst (v := 2) hx hb dX11_entry_99 (by decide) (hp_n (n := 100) rfl ?_)
                refine lv_isub hx hb dX11_entry_100 (hp_n (n := 101) rfl (lv_topi (fun x_16 ex_16 => ?_)))
                refine q_ci (pc' := 104) Bh_8 (hp_runV (As := [.int x_16]) (rest := [.ref a0]) C Bh_8 (t_X9_letterAt Γ l α Bh_8.2.2.1 bh_8 (cw_k Bh_8.2.2 kbh_8) x_16) lb_X9_letterAt lv_X9_letterAt lk_X11_177 (cw_k Bh_8.2.2 kbh_8) rfl (by decide) rfl hl.1 rfl (Nat.le_of_ble_eq_true rfl) dX11_entry_101 ⟨Nat.le_refl _, Nat.le_refl _⟩) (fun _ _ h => by rw [h]; exact Bh_8.2.2) rfl (fun rh_17 αh_17 Hh_17 Lh_17 ph_17 Bh_17 => ?_)
                rw [ph_17] at Bh_17
                refine q_ci (pc' := 107) Bh_17 (hp_runV (As := [.int rh_17]) (rest := []) C Bh_17 (t_X11_answer Γ l α Bh_17.2.2.1 a0 (cw_k Bh_17.2.2 k0) rh_17) lb_X11_answer lv_X11_answer lk_X11_115 (cw_k Bh_17.2.2 k0) rfl (by decide) rfl hl.1 rfl (Nat.le_of_ble_eq_true rfl) dX11_entry_104 ⟨Nat.le_refl _, Nat.le_refl _⟩) (fun _ _ h => cw_tr Bh_17.2.2 h (by decide)) rfl (fun rh_18 αh_18 Hh_18 Lh_18 ph_18 Bh_18 => ?_)
                refine lv_goto (tgt := 115) hx hb dX11_entry_107 (by decide) ?_
                exact q_iret C Bh_18 hr hlk Bh_18.2.2 dX11_entry_115
            ·
              have jc_11 := il_eq c_11
              refine lv_aload_n hx hb dX11_entry_73 rfl (lv_at hl 2 rfl) (hp_n (n := 74) rfl ?_)
              refine lv_aload hx hb dX11_entry_74 (lv_at hl 1 rfl) (hp_n (n := 76) rfl ?_)
              refine lv_iload_n hx hb dX11_entry_76 rfl (lv_at hl 4 rfl) (hp_n (n := 77) rfl ?_)
              refine q_ci (pc' := 80) Bh_8 (hp_runV (As := [.int a2]) (rest := [.ref a0]) C Bh_8 (t_X2_markAt Γ l α Bh_8.2.2.1 bh_6 (cw_k Bh_8.2.2 kbh_6) a2) lb_X2_markAt lv_X2_markAt lk_X11_174 (cw_k Bh_8.2.2 kbh_6) rfl (by decide) rfl hl.1 rfl (Nat.le_of_ble_eq_true rfl) dX11_entry_77 ⟨Nat.le_refl _, Nat.le_refl _⟩) (fun _ _ h => by rw [h]; exact Bh_8.2.2) rfl (fun rh_19 αh_19 Hh_19 Lh_19 ph_19 Bh_19 => ?_)
              rw [ph_19] at Bh_19
              refine q_ci (pc' := 83) Bh_19 (hp_runV (As := [.int rh_19]) (rest := []) C Bh_19 (t_X11_answer Γ l α Bh_19.2.2.1 a0 (cw_k Bh_19.2.2 k0) rh_19) lb_X11_answer lv_X11_answer lk_X11_115 (cw_k Bh_19.2.2 k0) rfl (by decide) rfl hl.1 rfl (Nat.le_of_ble_eq_true rfl) dX11_entry_80 ⟨Nat.le_refl _, Nat.le_refl _⟩) (fun _ _ h => cw_tr Bh_19.2.2 h (by decide)) rfl (fun rh_20 αh_20 Hh_20 Lh_20 ph_20 Bh_20 => ?_)
              exact q_iret C Bh_20 hr hlk Bh_20.2.2 dX11_entry_83
          ·
            have jc_10 := il_eq c_10
            refine lv_aload_n hx hb dX11_entry_58 rfl (lv_at hl 2 rfl) (hp_n (n := 59) rfl ?_)
            refine lv_aload hx hb dX11_entry_59 (lv_at hl 0 rfl) (hp_n (n := 61) rfl ?_)
            refine q_geti (κ := 10) (k := 1) (φ := 501) (pc' := 64) C Bh_8 (cw_k Bh_8.2.2 kbh_8) fl_X11_150 rfl rfl rfl dX11_entry_61 rfl (fun x_21 ex_21 => ?_)
            refine q_ci (pc' := 67) Bh_8 (hp_runV (As := [.int x_21]) (rest := []) C Bh_8 (t_X11_answer Γ l α Bh_8.2.2.1 a0 (cw_k Bh_8.2.2 k0) x_21) lb_X11_answer lv_X11_answer lk_X11_115 (cw_k Bh_8.2.2 k0) rfl (by decide) rfl hl.1 rfl (Nat.le_of_ble_eq_true rfl) dX11_entry_64 ⟨Nat.le_refl _, Nat.le_refl _⟩) (fun _ _ h => cw_tr Bh_8.2.2 h (by decide)) rfl (fun rh_22 αh_22 Hh_22 Lh_22 ph_22 Bh_22 => ?_)
            exact q_iret C Bh_22 hr hlk Bh_22.2.2 dX11_entry_67
    ·
      have jc_4 := il_nle c_4
      exact J8 s.heap [] B ls (lv_sub hl [0] rfl)
abbrev w_X11_head : cw_W := ([600], [], [33], [])
set_option maxRecDepth 100000 in
set_option maxHeartbeats 4000000 in
theorem t_X11_head (Γ : hp_G) (l : Launch) (α : hp_T) (g : GC α) (a0 : Nat) (k0 : hp_K α a0 = 12) (a1 : Int32) (a2 : Int32) : Met l yX11_head (hp_ws yX11_head cX11_head 5 (some .int)) (hp_rm 3 0 0) (hp_Pc Γ α [.ref a0, .int a1, .int a2]) (hp_Qi Γ (fun r β => cw w_X11_head α β)) 0 0 (hp_A Γ) := by
  refine hp_start (by decide) ?_
  intro p e s m below meth c C hr hlk B0 hnm
  have C : hp_C Γ p m c cX11_head 5 s ([.ref a0, .int a1, .int a2] : List Value).toArray RX11 := C
  have hx := C.1.1
  have hb := C.1.2.1
  have hown := C.1.2.2.2.1
  have hts := C.1.2.2.2.2
  have B : hp_B Γ (cw w_X11_head) s α α s.heap [] := ⟨B0.1, B0.2.1, cw_rf g⟩
  have lit0 : (0 : Int32).toInt = 0 := by decide
  have hl := lv_entry ([.ref a0, .int a1, .int a2]) (n := 5) (Nat.le_of_ble_eq_true rfl)
  show W p l e (hp_rm 3 0 0) s m ([.ref a0, .int a1, .int a2] : List Value).toArray below meth c s.heap [] 0 0 (MQ below (hp_Qi Γ (fun r β => cw w_X11_head α β)) ([.ref a0, .int a1, .int a2] : List Value).toArray s 0 0 (hp_A Γ)) (entryFrame m ([.ref a0, .int a1, .int a2] : List Value).toArray 5)
  rw [lg_entry_eq]
  generalize (lg_sl ([.ref a0, .int a1, .int a2]) ++ List.replicate (5 - (lg_sl ([.ref a0, .int a1, .int a2])).length) Slot.unset).toArray = ls at hl ⊢
  have hl : lv_has ls 5 [(0, .ref a0), (1, .int a1), (2, .int a2)] := hl
  refine lv_aload_n hx hb dX11_head_0 rfl (lv_at hl 0 rfl) (hp_n (n := 1) rfl ?_)
  refine q_getr (κ := 12) (k := 1) (φ := 601) (pc' := 4) C B (cw_k B.2.2 k0) fl_X11_16 rfl rfl rfl (cw_r B.2.2 k0 rfl rfl (by decide) (by decide)) dX11_head_1 rfl (fun b_1 eb_1 kb_1 => ?_)
  refine lv_iload_n hx hb dX11_head_4 rfl (lv_at hl 1 rfl) (hp_n (n := 5) rfl ?_)
  refine q_cq (pc' := 8) B (hp_runV (As := [.int a1]) (rest := []) C B (t_X10_logAt Γ l α B.2.2.1 b_1 (cw_k B.2.2 kb_1) a1) lb_X10_logAt lv_X10_logAt lk_X11_163 (cw_k B.2.2 kb_1) rfl (by decide) rfl hl.1 rfl (Nat.le_of_ble_eq_true rfl) dX11_head_5 ⟨Nat.le_refl _, Nat.le_refl _⟩) (fun _ _ h => by rw [h.1]; exact B.2.2) rfl (fun rh_2 αh_2 Hh_2 Lh_2 ph_2 Bh_2 => ?_)
  rw [ph_2.1] at Bh_2
  rcases rh_2 with _ | bh_2
  ·
    refine lv_astore_nN (lv' := [(3, .null), (0, .ref a0), (1, .int a1), (2, .int a2)]) hx hb dX11_head_8 rfl hl (by decide) rfl (fun ls hl => hp_n (n := 9) rfl ?_)
    refine lv_aload_nN hx hb dX11_head_9 rfl (lv_at hl 0 rfl) (hp_n (n := 10) rfl ?_)
    refine lv_iconst (v := 0) hx hb dX11_head_10 (by decide) (hp_n (n := 11) rfl ?_)
    refine lv_iload_n hx hb dX11_head_11 rfl (lv_at hl 3 rfl) (hp_n (n := 12) rfl ?_)
    refine q_ci (pc' := 15) Bh_2 (hp_runS (As := [va_rf none, .int 0, .int a2]) (rest := []) C Bh_2 (t_X11_wrongGrowth Γ l α Bh_2.2.2.1 none (fun b h => by cases h) 0 a2) lb_X11_wrongGrowth ls_X11_wrongGrowth lk_X11_180 rfl (by decide) rfl hl.1 rfl (Nat.le_of_ble_eq_true rfl) dX11_head_12 ⟨Nat.le_refl _, Nat.le_refl _⟩) (fun _ _ h => by rw [h]; exact Bh_2.2.2) rfl (fun rh_3 αh_3 Hh_3 Lh_3 ph_3 Bh_3 => ?_)
    rw [ph_3] at Bh_3
    refine lv_istore (lv' := [(4, .int rh_3), (3, .null), (0, .ref a0), (1, .int a1), (2, .int a2)]) hx hb dX11_head_15 hl (by decide) rfl (fun ls hl => hp_n (n := 17) rfl ?_)
    refine lv_iload hx hb dX11_head_17 (lv_at hl 0 rfl) (hp_n (n := 19) rfl ?_)
    refine lv_if_eq (tgt := 31) hx hb dX11_head_19 (by decide) (fun c_4 => ?_) (fun c_4 => hp_n (n := 22) rfl ?_)
    ·
      have jc_4 := il_eq c_4
      refine lv_aload_n hx hb dX11_head_31 rfl (lv_at hl 2 rfl) (hp_n (n := 32) rfl ?_)
      refine lv_aload_n hx hb dX11_head_32 rfl (lv_at hl 2 rfl) (hp_n (n := 33) rfl ?_)
      refine q_gets (κ := 12) (k := 1) (φ := 601) (pc' := 36) C Bh_3 (cw_k Bh_3.2.2 k0) fl_X11_16 rfl rfl rfl eb_1 dX11_head_33 rfl ?_
      refine lv_aload_nN hx hb dX11_head_36 rfl (lv_at hl 1 rfl) (hp_n (n := 37) rfl ?_)
      refine lv_iload_n hx hb dX11_head_37 rfl (lv_at hl 4 rfl) (hp_n (n := 38) rfl ?_)
      refine q_ci (pc' := 41) Bh_3 (hp_runV (As := [va_rf none, .int a2]) (rest := [.ref a0]) C Bh_3 (t_X10_headOf Γ l α Bh_3.2.2.1 b_1 (cw_k Bh_3.2.2 kb_1) none (fun b h => by cases h) a2) lb_X10_headOf lv_X10_headOf lk_X11_184 (cw_k Bh_3.2.2 kb_1) rfl (by decide) rfl hl.1 rfl (Nat.le_of_ble_eq_true rfl) dX11_head_38 ⟨Nat.le_refl _, Nat.le_refl _⟩) (fun _ _ h => cw_tr Bh_3.2.2 h (by decide)) rfl (fun rh_5 αh_5 Hh_5 Lh_5 ph_5 Bh_5 => ?_)
      refine q_ci (pc' := 44) Bh_5 (hp_runV (As := [.int rh_5]) (rest := []) C Bh_5 (t_X11_answer Γ l αh_5 Bh_5.2.2.1 a0 (cw_k Bh_5.2.2 k0) rh_5) lb_X11_answer lv_X11_answer lk_X11_115 (cw_k Bh_5.2.2 k0) rfl (by decide) rfl hl.1 rfl (Nat.le_of_ble_eq_true rfl) dX11_head_41 ⟨Nat.le_refl _, Nat.le_refl _⟩) (fun _ _ h => cw_tr Bh_5.2.2 h (by decide)) rfl (fun rh_6 αh_6 Hh_6 Lh_6 ph_6 Bh_6 => ?_)
      exact q_iret C Bh_6 hr hlk Bh_6.2.2 dX11_head_44
    ·
      have jc_4 := il_ne c_4
      refine lv_aload_n hx hb dX11_head_22 rfl (lv_at hl 2 rfl) (hp_n (n := 23) rfl ?_)
      refine lv_iload hx hb dX11_head_23 (lv_at hl 0 rfl) (hp_n (n := 25) rfl ?_)
      refine q_ci (pc' := 28) Bh_3 (hp_runV (As := [.int rh_3]) (rest := []) C Bh_3 (t_X11_refuse Γ l α Bh_3.2.2.1 a0 (cw_k Bh_3.2.2 k0) rh_3) lb_X11_refuse lv_X11_refuse lk_X11_98 (cw_k Bh_3.2.2 k0) rfl (by decide) rfl hl.1 rfl (Nat.le_of_ble_eq_true rfl) dX11_head_25 ⟨Nat.le_refl _, Nat.le_refl _⟩) (fun _ _ h => cw_tr Bh_3.2.2 h (by decide)) rfl (fun rh_7 αh_7 Hh_7 Lh_7 ph_7 Bh_7 => ?_)
      refine lv_goto (tgt := 44) hx hb dX11_head_28 (by decide) ?_
      exact q_iret C Bh_7 hr hlk Bh_7.2.2 dX11_head_44
  ·
    have kbh_2 : hp_K α bh_2 = 3 := cw_k' Bh_2.2.2 (ph_2.2 bh_2 rfl)
    refine lv_astore_n (lv' := [(3, .ref bh_2), (0, .ref a0), (1, .int a1), (2, .int a2)]) hx hb dX11_head_8 rfl hl (by decide) rfl (fun ls hl => hp_n (n := 9) rfl ?_)
    refine lv_aload_n hx hb dX11_head_9 rfl (lv_at hl 0 rfl) (hp_n (n := 10) rfl ?_)
    refine lv_iconst (v := 0) hx hb dX11_head_10 (by decide) (hp_n (n := 11) rfl ?_)
    refine lv_iload_n hx hb dX11_head_11 rfl (lv_at hl 3 rfl) (hp_n (n := 12) rfl ?_)
    refine q_ci (pc' := 15) Bh_2 (hp_runS (As := [va_rf (some bh_2), .int 0, .int a2]) (rest := []) C Bh_2 (t_X11_wrongGrowth Γ l α Bh_2.2.2.1 (some bh_2) (fun b h => by cases h; exact (cw_k Bh_2.2.2 kbh_2)) 0 a2) lb_X11_wrongGrowth ls_X11_wrongGrowth lk_X11_180 rfl (by decide) rfl hl.1 rfl (Nat.le_of_ble_eq_true rfl) dX11_head_12 ⟨Nat.le_refl _, Nat.le_refl _⟩) (fun _ _ h => by rw [h]; exact Bh_2.2.2) rfl (fun rh_8 αh_8 Hh_8 Lh_8 ph_8 Bh_8 => ?_)
    rw [ph_8] at Bh_8
    refine lv_istore (lv' := [(4, .int rh_8), (3, .ref bh_2), (0, .ref a0), (1, .int a1), (2, .int a2)]) hx hb dX11_head_15 hl (by decide) rfl (fun ls hl => hp_n (n := 17) rfl ?_)
    refine lv_iload hx hb dX11_head_17 (lv_at hl 0 rfl) (hp_n (n := 19) rfl ?_)
    refine lv_if_eq (tgt := 31) hx hb dX11_head_19 (by decide) (fun c_9 => ?_) (fun c_9 => hp_n (n := 22) rfl ?_)
    ·
      have jc_9 := il_eq c_9
      refine lv_aload_n hx hb dX11_head_31 rfl (lv_at hl 2 rfl) (hp_n (n := 32) rfl ?_)
      refine lv_aload_n hx hb dX11_head_32 rfl (lv_at hl 2 rfl) (hp_n (n := 33) rfl ?_)
      refine q_gets (κ := 12) (k := 1) (φ := 601) (pc' := 36) C Bh_8 (cw_k Bh_8.2.2 k0) fl_X11_16 rfl rfl rfl eb_1 dX11_head_33 rfl ?_
      refine lv_aload_n hx hb dX11_head_36 rfl (lv_at hl 1 rfl) (hp_n (n := 37) rfl ?_)
      refine lv_iload_n hx hb dX11_head_37 rfl (lv_at hl 4 rfl) (hp_n (n := 38) rfl ?_)
      refine q_ci (pc' := 41) Bh_8 (hp_runV (As := [va_rf (some bh_2), .int a2]) (rest := [.ref a0]) C Bh_8 (t_X10_headOf Γ l α Bh_8.2.2.1 b_1 (cw_k Bh_8.2.2 kb_1) (some bh_2) (fun b h => by cases h; exact (cw_k Bh_8.2.2 kbh_2)) a2) lb_X10_headOf lv_X10_headOf lk_X11_184 (cw_k Bh_8.2.2 kb_1) rfl (by decide) rfl hl.1 rfl (Nat.le_of_ble_eq_true rfl) dX11_head_38 ⟨Nat.le_refl _, Nat.le_refl _⟩) (fun _ _ h => cw_tr Bh_8.2.2 h (by decide)) rfl (fun rh_10 αh_10 Hh_10 Lh_10 ph_10 Bh_10 => ?_)
      refine q_ci (pc' := 44) Bh_10 (hp_runV (As := [.int rh_10]) (rest := []) C Bh_10 (t_X11_answer Γ l αh_10 Bh_10.2.2.1 a0 (cw_k Bh_10.2.2 k0) rh_10) lb_X11_answer lv_X11_answer lk_X11_115 (cw_k Bh_10.2.2 k0) rfl (by decide) rfl hl.1 rfl (Nat.le_of_ble_eq_true rfl) dX11_head_41 ⟨Nat.le_refl _, Nat.le_refl _⟩) (fun _ _ h => cw_tr Bh_10.2.2 h (by decide)) rfl (fun rh_11 αh_11 Hh_11 Lh_11 ph_11 Bh_11 => ?_)
      exact q_iret C Bh_11 hr hlk Bh_11.2.2 dX11_head_44
    ·
      have jc_9 := il_ne c_9
      refine lv_aload_n hx hb dX11_head_22 rfl (lv_at hl 2 rfl) (hp_n (n := 23) rfl ?_)
      refine lv_iload hx hb dX11_head_23 (lv_at hl 0 rfl) (hp_n (n := 25) rfl ?_)
      refine q_ci (pc' := 28) Bh_8 (hp_runV (As := [.int rh_8]) (rest := []) C Bh_8 (t_X11_refuse Γ l α Bh_8.2.2.1 a0 (cw_k Bh_8.2.2 k0) rh_8) lb_X11_refuse lv_X11_refuse lk_X11_98 (cw_k Bh_8.2.2 k0) rfl (by decide) rfl hl.1 rfl (Nat.le_of_ble_eq_true rfl) dX11_head_25 ⟨Nat.le_refl _, Nat.le_refl _⟩) (fun _ _ h => cw_tr Bh_8.2.2 h (by decide)) rfl (fun rh_12 αh_12 Hh_12 Lh_12 ph_12 Bh_12 => ?_)
      refine lv_goto (tgt := 44) hx hb dX11_head_28 (by decide) ?_
      exact q_iret C Bh_12 hr hlk Bh_12.2.2 dX11_head_44
abbrev w_X11_join : cw_W := ([600], [], [], [])
set_option maxRecDepth 100000 in
set_option maxHeartbeats 4000000 in
theorem t_X11_join (Γ : hp_G) (l : Launch) (α : hp_T) (g : GC α) (a0 : Nat) (k0 : hp_K α a0 = 12) (a1 : Int32) (a2 : Int32) : Met l yX11_join (hp_ws yX11_join cX11_join 3 (some .int)) (hp_rm 1 0 0) (hp_Pc Γ α [.ref a0, .int a1, .int a2]) (hp_Qi Γ (fun r β => cw w_X11_join α β)) 0 0 (hp_A Γ) := by
  refine hp_start (by decide) ?_
  intro p e s m below meth c C hr hlk B0 hnm
  have C : hp_C Γ p m c cX11_join 3 s ([.ref a0, .int a1, .int a2] : List Value).toArray RX11 := C
  have hx := C.1.1
  have hb := C.1.2.1
  have hown := C.1.2.2.2.1
  have hts := C.1.2.2.2.2
  have B : hp_B Γ (cw w_X11_join) s α α s.heap [] := ⟨B0.1, B0.2.1, cw_rf g⟩
  have lit0 : (0 : Int32).toInt = 0 := by decide
  have lit1 : (1 : Int32).toInt = 1 := by decide
  have hl := lv_entry ([.ref a0, .int a1, .int a2]) (n := 3) (Nat.le_of_ble_eq_true rfl)
  show W p l e (hp_rm 1 0 0) s m ([.ref a0, .int a1, .int a2] : List Value).toArray below meth c s.heap [] 0 0 (MQ below (hp_Qi Γ (fun r β => cw w_X11_join α β)) ([.ref a0, .int a1, .int a2] : List Value).toArray s 0 0 (hp_A Γ)) (entryFrame m ([.ref a0, .int a1, .int a2] : List Value).toArray 3)
  rw [lg_entry_eq]
  generalize (lg_sl ([.ref a0, .int a1, .int a2]) ++ List.replicate (3 - (lg_sl ([.ref a0, .int a1, .int a2])).length) Slot.unset).toArray = ls at hl ⊢
  have hl : lv_has ls 3 [(0, .ref a0), (1, .int a1), (2, .int a2)] := hl
  refine lv_aload_n hx hb dX11_join_0 rfl (lv_at hl 0 rfl) (hp_n (n := 1) rfl ?_)
  refine lv_iload_n hx hb dX11_join_1 rfl (lv_at hl 1 rfl) (hp_n (n := 2) rfl ?_)
  refine q_ci (pc' := 5) B (hp_runV (As := [.int a1]) (rest := []) C B (t_X11_isMark Γ l α B.2.2.1 a0 (cw_k B.2.2 k0) a1) lb_X11_isMark lv_X11_isMark lk_X11_188 (cw_k B.2.2 k0) rfl (by decide) rfl hl.1 rfl (Nat.le_of_ble_eq_true rfl) dX11_join_2 ⟨Nat.le_refl _, Nat.le_refl _⟩) (fun _ _ h => by rw [h.1]; exact B.2.2) rfl (fun rh_1 αh_1 Hh_1 Lh_1 ph_1 Bh_1 => ?_)
  rw [ph_1.1] at Bh_1
  have zh_1 := ph_1.2
  have J16 : ∀ (Hh_2 : Heap) (Lh_2 : List Loc) (Bh_2 : hp_B Γ (cw w_X11_join) s α α Hh_2 Lh_2) (ls : Array Slot) (hl : lv_has ls 3 [(0, .ref a0)]), W p l e (hp_rm 1 0 0) s m ([.ref a0, .int a1, .int a2] : List Value).toArray below meth c Hh_2 Lh_2 0 0 (MQ below (hp_Qi Γ (fun r β => cw w_X11_join α β)) ([.ref a0, .int a1, .int a2] : List Value).toArray s 0 0 (hp_A Γ)) (F0 m 16 ls []) := by
    intro Hh_2 Lh_2 Bh_2 ls hl
    refine lv_aload_n hx hb dX11_join_16 rfl (lv_at hl 0 rfl) (hp_n (n := 17) rfl ?_)
    refine lv_iconst (v := 1) hx hb dX11_join_17 (by decide) (hp_n (n := 18) rfl ?_)
    refine q_ci (pc' := 21) Bh_2 (hp_runV (As := [.int 1]) (rest := []) C Bh_2 (t_X11_refuse Γ l α Bh_2.2.2.1 a0 (cw_k Bh_2.2.2 k0) 1) lb_X11_refuse lv_X11_refuse lk_X11_98 (cw_k Bh_2.2.2 k0) rfl (by decide) rfl hl.1 rfl (Nat.le_of_ble_eq_true rfl) dX11_join_18 ⟨Nat.le_refl _, Nat.le_refl _⟩) (fun _ _ h => cw_tr Bh_2.2.2 h (by decide)) rfl (fun rh_3 αh_3 Hh_3 Lh_3 ph_3 Bh_3 => ?_)
    exact q_iret C Bh_3 hr hlk Bh_3.2.2 dX11_join_21
  refine lv_if_eq (tgt := 16) hx hb dX11_join_5 (by decide) (fun c_4 => ?_) (fun c_4 => hp_n (n := 8) rfl ?_)
  ·
    have jc_4 := il_eq c_4
    exact J16 Hh_1 Lh_1 Bh_1 ls (lv_sub hl [0] rfl)
  ·
    have jc_4 := il_ne c_4
    refine lv_aload_n hx hb dX11_join_8 rfl (lv_at hl 0 rfl) (hp_n (n := 9) rfl ?_)
    refine lv_iload_n hx hb dX11_join_9 rfl (lv_at hl 2 rfl) (hp_n (n := 10) rfl ?_)
    refine q_ci (pc' := 13) Bh_1 (hp_runV (As := [.int a2]) (rest := []) C Bh_1 (t_X11_isMark Γ l α Bh_1.2.2.1 a0 (cw_k Bh_1.2.2 k0) a2) lb_X11_isMark lv_X11_isMark lk_X11_188 (cw_k Bh_1.2.2 k0) rfl (by decide) rfl hl.1 rfl (Nat.le_of_ble_eq_true rfl) dX11_join_10 ⟨Nat.le_refl _, Nat.le_refl _⟩) (fun _ _ h => by rw [h.1]; exact Bh_1.2.2) rfl (fun rh_5 αh_5 Hh_5 Lh_5 ph_5 Bh_5 => ?_)
    rw [ph_5.1] at Bh_5
    have zh_5 := ph_5.2
    refine lv_if_ne (tgt := 22) hx hb dX11_join_13 (by decide) (fun c_6 => ?_) (fun c_6 => hp_n (n := 16) rfl ?_)
    ·
      have jc_6 := il_ne c_6
      refine lv_aload_n hx hb dX11_join_22 rfl (lv_at hl 0 rfl) (hp_n (n := 23) rfl ?_)
      refine lv_aload_n hx hb dX11_join_23 rfl (lv_at hl 0 rfl) (hp_n (n := 24) rfl ?_)
      refine q_getr (κ := 12) (k := 1) (φ := 601) (pc' := 27) C Bh_5 (cw_k Bh_5.2.2 k0) fl_X11_16 rfl rfl rfl (cw_r Bh_5.2.2 k0 rfl rfl (by decide) (by decide)) dX11_join_24 rfl (fun b_7 eb_7 kb_7 => ?_)
      refine q_geti (κ := 11) (k := 0) (φ := 550) (pc' := 30) C Bh_5 (cw_k Bh_5.2.2 kb_7) fl_X11_122 rfl rfl rfl dX11_join_27 rfl (fun x_8 ex_8 => ?_)
      refine lv_iload_n hx hb dX11_join_30 rfl (lv_at hl 1 rfl) (hp_n (n := 31) rfl ?_)
      refine lv_iload_n hx hb dX11_join_31 rfl (lv_at hl 2 rfl) (hp_n (n := 32) rfl ?_)
      refine q_ci (pc' := 35) Bh_5 (hp_runS (As := [.int x_8, .int a1, .int a2]) (rest := [.ref a0]) C Bh_5 (t_X11_markOfTwo Γ l α Bh_5.2.2.1 x_8 a1 a2) lb_X11_markOfTwo ls_X11_markOfTwo lk_X11_191 rfl (by decide) rfl hl.1 rfl (Nat.le_of_ble_eq_true rfl) dX11_join_32 ⟨Nat.le_refl _, Nat.le_refl _⟩) (fun _ _ h => by rw [h]; exact Bh_5.2.2) rfl (fun rh_9 αh_9 Hh_9 Lh_9 ph_9 Bh_9 => ?_)
      rw [ph_9] at Bh_9
      refine q_ci (pc' := 38) Bh_9 (hp_runV (As := [.int rh_9]) (rest := []) C Bh_9 (t_X11_answer Γ l α Bh_9.2.2.1 a0 (cw_k Bh_9.2.2 k0) rh_9) lb_X11_answer lv_X11_answer lk_X11_115 (cw_k Bh_9.2.2 k0) rfl (by decide) rfl hl.1 rfl (Nat.le_of_ble_eq_true rfl) dX11_join_35 ⟨Nat.le_refl _, Nat.le_refl _⟩) (fun _ _ h => cw_tr Bh_9.2.2 h (by decide)) rfl (fun rh_10 αh_10 Hh_10 Lh_10 ph_10 Bh_10 => ?_)
      exact q_iret C Bh_10 hr hlk Bh_10.2.2 dX11_join_38
    ·
      have jc_6 := il_eq c_6
      exact J16 Hh_5 Lh_5 Bh_5 ls (lv_sub hl [0] rfl)
abbrev w_X11_mark : cw_W := ([600], [], [], [])
set_option maxRecDepth 100000 in
set_option maxHeartbeats 4000000 in
theorem t_X11_mark (Γ : hp_G) (l : Launch) (α : hp_T) (g : GC α) (a0 : Nat) (k0 : hp_K α a0 = 12) : Met l yX11_mark (hp_ws yX11_mark cX11_mark 1 (some .int)) (hp_rm 2 0 0) (hp_Pc Γ α [.ref a0]) (hp_Qi Γ (fun r β => cw w_X11_mark α β)) 0 0 (hp_A Γ) := by
  refine hp_start (by decide) ?_
  intro p e s m below meth c C hr hlk B0 hnm
  have C : hp_C Γ p m c cX11_mark 1 s ([.ref a0] : List Value).toArray RX11 := C
  have hx := C.1.1
  have hb := C.1.2.1
  have hown := C.1.2.2.2.1
  have hts := C.1.2.2.2.2
  have B : hp_B Γ (cw w_X11_mark) s α α s.heap [] := ⟨B0.1, B0.2.1, cw_rf g⟩
  have hl := lv_entry ([.ref a0]) (n := 1) (Nat.le_of_ble_eq_true rfl)
  show W p l e (hp_rm 2 0 0) s m ([.ref a0] : List Value).toArray below meth c s.heap [] 0 0 (MQ below (hp_Qi Γ (fun r β => cw w_X11_mark α β)) ([.ref a0] : List Value).toArray s 0 0 (hp_A Γ)) (entryFrame m ([.ref a0] : List Value).toArray 1)
  rw [lg_entry_eq]
  generalize (lg_sl ([.ref a0]) ++ List.replicate (1 - (lg_sl ([.ref a0])).length) Slot.unset).toArray = ls at hl ⊢
  have hl : lv_has ls 1 [(0, .ref a0)] := hl
  refine lv_aload_n hx hb dX11_mark_0 rfl (lv_at hl 0 rfl) (hp_n (n := 1) rfl ?_)
  refine lv_aload_n hx hb dX11_mark_1 rfl (lv_at hl 0 rfl) (hp_n (n := 2) rfl ?_)
  refine q_getr (κ := 12) (k := 6) (φ := 606) (pc' := 5) C B (cw_k B.2.2 k0) fl_X11_40 rfl rfl rfl (cw_r B.2.2 k0 rfl rfl (by decide) (by decide)) dX11_mark_2 rfl (fun b_1 eb_1 kb_1 => ?_)
  refine lv_aload_n hx hb dX11_mark_5 rfl (lv_at hl 0 rfl) (hp_n (n := 6) rfl ?_)
  refine q_getr (κ := 12) (k := 1) (φ := 601) (pc' := 9) C B (cw_k B.2.2 k0) fl_X11_16 rfl rfl rfl (cw_r B.2.2 k0 rfl rfl (by decide) (by decide)) dX11_mark_6 rfl (fun b_2 eb_2 kb_2 => ?_)
  refine q_geti (κ := 11) (k := 0) (φ := 550) (pc' := 12) C B (cw_k B.2.2 kb_2) fl_X11_122 rfl rfl rfl dX11_mark_9 rfl (fun x_3 ex_3 => ?_)
  refine q_ci (pc' := 15) B (hp_runV (As := [.int x_3]) (rest := [.ref a0]) C B (t_X9_markBy Γ l α B.2.2.1 b_1 (cw_k B.2.2 kb_1) x_3) lb_X9_markBy lv_X9_markBy lk_X11_195 (cw_k B.2.2 kb_1) rfl (by decide) rfl hl.1 rfl (Nat.le_of_ble_eq_true rfl) dX11_mark_12 ⟨Nat.le_refl _, Nat.le_refl _⟩) (fun _ _ h => by rw [h]; exact B.2.2) rfl (fun rh_4 αh_4 Hh_4 Lh_4 ph_4 Bh_4 => ?_)
  rw [ph_4] at Bh_4
  refine q_ci (pc' := 18) Bh_4 (hp_runV (As := [.int rh_4]) (rest := []) C Bh_4 (t_X11_answer Γ l α Bh_4.2.2.1 a0 (cw_k Bh_4.2.2 k0) rh_4) lb_X11_answer lv_X11_answer lk_X11_115 (cw_k Bh_4.2.2 k0) rfl (by decide) rfl hl.1 rfl (Nat.le_of_ble_eq_true rfl) dX11_mark_15 ⟨Nat.le_refl _, Nat.le_refl _⟩) (fun _ _ h => cw_tr Bh_4.2.2 h (by decide)) rfl (fun rh_5 αh_5 Hh_5 Lh_5 ph_5 Bh_5 => ?_)
  exact q_iret C Bh_5 hr hlk Bh_5.2.2 dX11_mark_18
abbrev w_X11_frozen : cw_W := ([600], [], [33], [])
set_option maxRecDepth 100000 in
set_option maxHeartbeats 4000000 in
theorem t_X11_frozen (Γ : hp_G) (l : Launch) (α : hp_T) (g : GC α) (a0 : Nat) (k0 : hp_K α a0 = 12) (a1 : Int32) (a2 : Int32) : Met l yX11_frozen (hp_ws yX11_frozen cX11_frozen 4 (some .int)) (hp_rm 5 0 0) (hp_Pc Γ α [.ref a0, .int a1, .int a2]) (hp_Qi Γ (fun r β => cw w_X11_frozen α β)) 0 0 (hp_A Γ) := by
  refine hp_start (by decide) ?_
  intro p e s m below meth c C hr hlk B0 hnm
  have C : hp_C Γ p m c cX11_frozen 4 s ([.ref a0, .int a1, .int a2] : List Value).toArray RX11 := C
  have hx := C.1.1
  have hb := C.1.2.1
  have hown := C.1.2.2.2.1
  have hts := C.1.2.2.2.2
  have B : hp_B Γ (cw w_X11_frozen) s α α s.heap [] := ⟨B0.1, B0.2.1, cw_rf g⟩
  have lit0 : (0 : Int32).toInt = 0 := by decide
  have lit1 : (1 : Int32).toInt = 1 := by decide
  have lit2 : (2 : Int32).toInt = 2 := by decide
  have lit3 : (3 : Int32).toInt = 3 := by decide
  have lit4 : (4 : Int32).toInt = 4 := by decide
  have lit5 : (5 : Int32).toInt = 5 := by decide
  have hl := lv_entry ([.ref a0, .int a1, .int a2]) (n := 4) (Nat.le_of_ble_eq_true rfl)
  show W p l e (hp_rm 5 0 0) s m ([.ref a0, .int a1, .int a2] : List Value).toArray below meth c s.heap [] 0 0 (MQ below (hp_Qi Γ (fun r β => cw w_X11_frozen α β)) ([.ref a0, .int a1, .int a2] : List Value).toArray s 0 0 (hp_A Γ)) (entryFrame m ([.ref a0, .int a1, .int a2] : List Value).toArray 4)
  rw [lg_entry_eq]
  generalize (lg_sl ([.ref a0, .int a1, .int a2]) ++ List.replicate (4 - (lg_sl ([.ref a0, .int a1, .int a2])).length) Slot.unset).toArray = ls at hl ⊢
  have hl : lv_has ls 4 [(0, .ref a0), (1, .int a1), (2, .int a2)] := hl
  refine lv_iload_n hx hb dX11_frozen_0 rfl (lv_at hl 1 rfl) (hp_n (n := 1) rfl ?_)
  have J13 : ∀ (Hh_1 : Heap) (Lh_1 : List Loc) (Bh_1 : hp_B Γ (cw w_X11_frozen) s α α Hh_1 Lh_1) (ls : Array Slot) (hl : lv_has ls 4 [(0, .ref a0)]), W p l e (hp_rm 5 0 0) s m ([.ref a0, .int a1, .int a2] : List Value).toArray below meth c Hh_1 Lh_1 0 0 (MQ below (hp_Qi Γ (fun r β => cw w_X11_frozen α β)) ([.ref a0, .int a1, .int a2] : List Value).toArray s 0 0 (hp_A Γ)) (F0 m 13 ls []) := by
    intro Hh_1 Lh_1 Bh_1 ls hl
    refine lv_aload_n hx hb dX11_frozen_13 rfl (lv_at hl 0 rfl) (hp_n (n := 14) rfl ?_)
    refine lv_iconst (v := 1) hx hb dX11_frozen_14 (by decide) (hp_n (n := 15) rfl ?_)
    refine q_ci (pc' := 18) Bh_1 (hp_runV (As := [.int 1]) (rest := []) C Bh_1 (t_X11_refuse Γ l α Bh_1.2.2.1 a0 (cw_k Bh_1.2.2 k0) 1) lb_X11_refuse lv_X11_refuse lk_X11_98 (cw_k Bh_1.2.2 k0) rfl (by decide) rfl hl.1 rfl (Nat.le_of_ble_eq_true rfl) dX11_frozen_15 ⟨Nat.le_refl _, Nat.le_refl _⟩) (fun _ _ h => cw_tr Bh_1.2.2 h (by decide)) rfl (fun rh_2 αh_2 Hh_2 Lh_2 ph_2 Bh_2 => ?_)
    exact q_iret C Bh_2 hr hlk Bh_2.2.2 dX11_frozen_18
  refine lv_if_lt (tgt := 13) hx hb dX11_frozen_1 (by decide) (fun c_3 => ?_) (fun c_3 => hp_n (n := 4) rfl ?_)
  ·
    have jc_3 := il_lt c_3
    exact J13 s.heap [] B ls (lv_sub hl [0] rfl)
  ·
    have jc_3 := il_nlt c_3
    refine lv_iload_n hx hb dX11_frozen_4 rfl (lv_at hl 2 rfl) (hp_n (n := 5) rfl ?_)
    refine lv_if_lt (tgt := 13) hx hb dX11_frozen_5 (by decide) (fun c_4 => ?_) (fun c_4 => hp_n (n := 8) rfl ?_)
    ·
      have jc_4 := il_lt c_4
      exact J13 s.heap [] B ls (lv_sub hl [0] rfl)
    ·
      have jc_4 := il_nlt c_4
      refine lv_iload_n hx hb dX11_frozen_8 rfl (lv_at hl 2 rfl) (hp_n (n := 9) rfl ?_)
      refine lv_iconst (v := 4) hx hb dX11_frozen_9 (by decide) (hp_n (n := 10) rfl ?_)
      refine lv_icmp_le (tgt := 19) hx hb dX11_frozen_10 (by decide) (fun c_5 => ?_) (fun c_5 => hp_n (n := 13) rfl ?_)
      ·
        have jc_5 := il_le c_5
        refine lv_aload_n hx hb dX11_frozen_19 rfl (lv_at hl 0 rfl) (hp_n (n := 20) rfl ?_)
        refine q_getr (κ := 12) (k := 1) (φ := 601) (pc' := 23) C B (cw_k B.2.2 k0) fl_X11_16 rfl rfl rfl (cw_r B.2.2 k0 rfl rfl (by decide) (by decide)) dX11_frozen_20 rfl (fun b_6 eb_6 kb_6 => ?_)
        refine lv_iload_n hx hb dX11_frozen_23 rfl (lv_at hl 1 rfl) (hp_n (n := 24) rfl ?_)
        refine q_cq (pc' := 27) B (hp_runV (As := [.int a1]) (rest := []) C B (t_X10_frozenAt Γ l α B.2.2.1 b_6 (cw_k B.2.2 kb_6) a1) lb_X10_frozenAt lv_X10_frozenAt lk_X11_198 (cw_k B.2.2 kb_6) rfl (by decide) rfl hl.1 rfl (Nat.le_of_ble_eq_true rfl) dX11_frozen_24 ⟨Nat.le_refl _, Nat.le_refl _⟩) (fun _ _ h => by rw [h.1]; exact B.2.2) rfl (fun rh_7 αh_7 Hh_7 Lh_7 ph_7 Bh_7 => ?_)
        rw [ph_7.1] at Bh_7
        rcases rh_7 with _ | bh_7
        ·
          refine lv_astore_nN (lv' := [(3, .null), (0, .ref a0), (1, .int a1), (2, .int a2)]) hx hb dX11_frozen_27 rfl hl (by decide) rfl (fun ls hl => hp_n (n := 28) rfl ?_)
          refine lv_aload_nN hx hb dX11_frozen_28 rfl (lv_at hl 0 rfl) (hp_n (n := 29) rfl ?_)
          refine lv_ifnonnullN hx hb dX11_frozen_29 (hp_n (n := 32) rfl ?_)
          refine lv_aload_n hx hb dX11_frozen_32 rfl (lv_at hl 1 rfl) (hp_n (n := 33) rfl ?_)
          refine lv_iconst (v := 5) hx hb dX11_frozen_33 (by decide) (hp_n (n := 34) rfl ?_)
          refine q_ci (pc' := 37) Bh_7 (hp_runV (As := [.int 5]) (rest := []) C Bh_7 (t_X11_refuse Γ l α Bh_7.2.2.1 a0 (cw_k Bh_7.2.2 k0) 5) lb_X11_refuse lv_X11_refuse lk_X11_98 (cw_k Bh_7.2.2 k0) rfl (by decide) rfl hl.1 rfl (Nat.le_of_ble_eq_true rfl) dX11_frozen_34 ⟨Nat.le_refl _, Nat.le_refl _⟩) (fun _ _ h => cw_tr Bh_7.2.2 h (by decide)) rfl (fun rh_8 αh_8 Hh_8 Lh_8 ph_8 Bh_8 => ?_)
          exact q_iret C Bh_8 hr hlk Bh_8.2.2 dX11_frozen_37
        ·
          have kbh_7 : hp_K α bh_7 = 2 := cw_k' Bh_7.2.2 (ph_7.2 bh_7 rfl)
          refine lv_astore_n (lv' := [(3, .ref bh_7), (0, .ref a0), (1, .int a1), (2, .int a2)]) hx hb dX11_frozen_27 rfl hl (by decide) rfl (fun ls hl => hp_n (n := 28) rfl ?_)
          refine lv_aload_n hx hb dX11_frozen_28 rfl (lv_at hl 0 rfl) (hp_n (n := 29) rfl ?_)
          refine lv_ifnonnull (tgt := 38) hx hb dX11_frozen_29 (by decide) ?_
          refine lv_iload_n hx hb dX11_frozen_38 rfl (lv_at hl 3 rfl) (hp_n (n := 39) rfl ?_)
          by_cases c_9 : a2 = 0
          · have jc_9 := il_eq c_9
            refine lv_tableIn (off := 29) (tgt := 68) hx hb dX11_frozen_39 (by omega) (by omega) (by rw [jc_9, lit0]; rfl) (by decide) ?_
            refine lv_aload_n hx hb dX11_frozen_68 rfl (lv_at hl 1 rfl) (hp_n (n := 69) rfl ?_)
            refine lv_aload_n hx hb dX11_frozen_69 rfl (lv_at hl 0 rfl) (hp_n (n := 70) rfl ?_)
            refine q_geti (κ := 2) (k := 0) (φ := 100) (pc' := 73) C Bh_7 (cw_k Bh_7.2.2 kbh_7) fl_X11_202 rfl rfl rfl dX11_frozen_70 rfl (fun x_10 ex_10 => ?_)
            refine q_ci (pc' := 76) Bh_7 (hp_runV (As := [.int x_10]) (rest := []) C Bh_7 (t_X11_answer Γ l α Bh_7.2.2.1 a0 (cw_k Bh_7.2.2 k0) x_10) lb_X11_answer lv_X11_answer lk_X11_115 (cw_k Bh_7.2.2 k0) rfl (by decide) rfl hl.1 rfl (Nat.le_of_ble_eq_true rfl) dX11_frozen_73 ⟨Nat.le_refl _, Nat.le_refl _⟩) (fun _ _ h => cw_tr Bh_7.2.2 h (by decide)) rfl (fun rh_11 αh_11 Hh_11 Lh_11 ph_11 Bh_11 => ?_)
            exact q_iret C Bh_11 hr hlk Bh_11.2.2 dX11_frozen_76
          have jc_9 := il_ne c_9
          by_cases c_12 : a2 = 1
          · have jc_12 := il_eq c_12
            refine lv_tableIn (off := 38) (tgt := 77) hx hb dX11_frozen_39 (by omega) (by omega) (by rw [jc_12, lit1]; rfl) (by decide) ?_
            refine lv_aload_n hx hb dX11_frozen_77 rfl (lv_at hl 1 rfl) (hp_n (n := 78) rfl ?_)
            refine lv_aload_n hx hb dX11_frozen_78 rfl (lv_at hl 0 rfl) (hp_n (n := 79) rfl ?_)
            refine q_geti (κ := 2) (k := 1) (φ := 101) (pc' := 82) C Bh_7 (cw_k Bh_7.2.2 kbh_7) fl_X11_207 rfl rfl rfl dX11_frozen_79 rfl (fun x_13 ex_13 => ?_)
            refine q_ci (pc' := 85) Bh_7 (hp_runV (As := [.int x_13]) (rest := []) C Bh_7 (t_X11_answer Γ l α Bh_7.2.2.1 a0 (cw_k Bh_7.2.2 k0) x_13) lb_X11_answer lv_X11_answer lk_X11_115 (cw_k Bh_7.2.2 k0) rfl (by decide) rfl hl.1 rfl (Nat.le_of_ble_eq_true rfl) dX11_frozen_82 ⟨Nat.le_refl _, Nat.le_refl _⟩) (fun _ _ h => cw_tr Bh_7.2.2 h (by decide)) rfl (fun rh_14 αh_14 Hh_14 Lh_14 ph_14 Bh_14 => ?_)
            exact q_iret C Bh_14 hr hlk Bh_14.2.2 dX11_frozen_85
          have jc_12 := il_ne c_12
          by_cases c_15 : a2 = 2
          · have jc_15 := il_eq c_15
            refine lv_tableIn (off := 47) (tgt := 86) hx hb dX11_frozen_39 (by omega) (by omega) (by rw [jc_15, lit2]; rfl) (by decide) ?_
            refine lv_aload_n hx hb dX11_frozen_86 rfl (lv_at hl 1 rfl) (hp_n (n := 87) rfl ?_)
            refine lv_aload_n hx hb dX11_frozen_87 rfl (lv_at hl 0 rfl) (hp_n (n := 88) rfl ?_)
            refine q_geti (κ := 2) (k := 2) (φ := 102) (pc' := 91) C Bh_7 (cw_k Bh_7.2.2 kbh_7) fl_X11_210 rfl rfl rfl dX11_frozen_88 rfl (fun x_16 ex_16 => ?_)
            refine q_ci (pc' := 94) Bh_7 (hp_runV (As := [.int x_16]) (rest := []) C Bh_7 (t_X11_answer Γ l α Bh_7.2.2.1 a0 (cw_k Bh_7.2.2 k0) x_16) lb_X11_answer lv_X11_answer lk_X11_115 (cw_k Bh_7.2.2 k0) rfl (by decide) rfl hl.1 rfl (Nat.le_of_ble_eq_true rfl) dX11_frozen_91 ⟨Nat.le_refl _, Nat.le_refl _⟩) (fun _ _ h => cw_tr Bh_7.2.2 h (by decide)) rfl (fun rh_17 αh_17 Hh_17 Lh_17 ph_17 Bh_17 => ?_)
            exact q_iret C Bh_17 hr hlk Bh_17.2.2 dX11_frozen_94
          have jc_15 := il_ne c_15
          by_cases c_18 : a2 = 3
          · have jc_18 := il_eq c_18
            refine lv_tableIn (off := 56) (tgt := 95) hx hb dX11_frozen_39 (by omega) (by omega) (by rw [jc_18, lit3]; rfl) (by decide) ?_
            refine lv_aload_n hx hb dX11_frozen_95 rfl (lv_at hl 1 rfl) (hp_n (n := 96) rfl ?_)
            refine lv_aload_n hx hb dX11_frozen_96 rfl (lv_at hl 0 rfl) (hp_n (n := 97) rfl ?_)
            refine q_geti (κ := 2) (k := 3) (φ := 103) (pc' := 100) C Bh_7 (cw_k Bh_7.2.2 kbh_7) fl_X11_213 rfl rfl rfl dX11_frozen_97 rfl (fun x_19 ex_19 => ?_)
            refine q_ci (pc' := 103) Bh_7 (hp_runV (As := [.int x_19]) (rest := []) C Bh_7 (t_X11_answer Γ l α Bh_7.2.2.1 a0 (cw_k Bh_7.2.2 k0) x_19) lb_X11_answer lv_X11_answer lk_X11_115 (cw_k Bh_7.2.2 k0) rfl (by decide) rfl hl.1 rfl (Nat.le_of_ble_eq_true rfl) dX11_frozen_100 ⟨Nat.le_refl _, Nat.le_refl _⟩) (fun _ _ h => cw_tr Bh_7.2.2 h (by decide)) rfl (fun rh_20 αh_20 Hh_20 Lh_20 ph_20 Bh_20 => ?_)
            exact q_iret C Bh_20 hr hlk Bh_20.2.2 dX11_frozen_103
          have jc_18 := il_ne c_18
          refine lv_tableOut (tgt := 104) hx hb dX11_frozen_39 (by omega) (by decide) ?_
          refine lv_aload_n hx hb dX11_frozen_104 rfl (lv_at hl 1 rfl) (hp_n (n := 105) rfl ?_)
          refine lv_aload_n hx hb dX11_frozen_105 rfl (lv_at hl 1 rfl) (hp_n (n := 106) rfl ?_)
          refine q_gets (κ := 12) (k := 1) (φ := 601) (pc' := 109) C Bh_7 (cw_k Bh_7.2.2 k0) fl_X11_16 rfl rfl rfl eb_6 dX11_frozen_106 rfl ?_
          refine lv_aload_n hx hb dX11_frozen_109 rfl (lv_at hl 0 rfl) (hp_n (n := 110) rfl ?_)
          refine q_ci (pc' := 113) Bh_7 (hp_runV (As := [.ref bh_7]) (rest := [.ref a0]) C Bh_7 (t_X10_isSound Γ l α Bh_7.2.2.1 b_6 (cw_k Bh_7.2.2 kb_6) bh_7 (cw_k Bh_7.2.2 kbh_7)) lb_X10_isSound lv_X10_isSound lk_X11_216 (cw_k Bh_7.2.2 kb_6) rfl (by decide) rfl hl.1 rfl (Nat.le_of_ble_eq_true rfl) dX11_frozen_110 ⟨Nat.le_refl _, Nat.le_refl _⟩) (fun _ _ h => cw_tr Bh_7.2.2 h.1 (by decide)) rfl (fun rh_21 αh_21 Hh_21 Lh_21 ph_21 Bh_21 => ?_)
          have zh_21 := ph_21.2
          refine lv_if_eq (tgt := 120) hx hb dX11_frozen_113 (by decide) (fun c_22 => ?_) (fun c_22 => hp_n (n := 116) rfl ?_)
          ·
            have jc_22 := il_eq c_22
            refine lv_iconst (v := 0) hx hb dX11_frozen_120 (by decide) (hp_n (n := 121) rfl ?_)
            refine q_ci (pc' := 124) Bh_21 (hp_runV (As := [.int 0]) (rest := []) C Bh_21 (t_X11_answer Γ l αh_21 Bh_21.2.2.1 a0 (cw_k Bh_21.2.2 k0) 0) lb_X11_answer lv_X11_answer lk_X11_115 (cw_k Bh_21.2.2 k0) rfl (by decide) rfl hl.1 rfl (Nat.le_of_ble_eq_true rfl) dX11_frozen_121 ⟨Nat.le_refl _, Nat.le_refl _⟩) (fun _ _ h => cw_tr Bh_21.2.2 h (by decide)) rfl (fun rh_23 αh_23 Hh_23 Lh_23 ph_23 Bh_23 => ?_)
            exact q_iret C Bh_23 hr hlk Bh_23.2.2 dX11_frozen_124
          ·
            have jc_22 := il_ne c_22
            refine lv_iconst (v := 1) hx hb dX11_frozen_116 (by decide) (hp_n (n := 117) rfl ?_)
            refine lv_goto (tgt := 121) hx hb dX11_frozen_117 (by decide) ?_
            refine q_ci (pc' := 124) Bh_21 (hp_runV (As := [.int 1]) (rest := []) C Bh_21 (t_X11_answer Γ l αh_21 Bh_21.2.2.1 a0 (cw_k Bh_21.2.2 k0) 1) lb_X11_answer lv_X11_answer lk_X11_115 (cw_k Bh_21.2.2 k0) rfl (by decide) rfl hl.1 rfl (Nat.le_of_ble_eq_true rfl) dX11_frozen_121 ⟨Nat.le_refl _, Nat.le_refl _⟩) (fun _ _ h => cw_tr Bh_21.2.2 h (by decide)) rfl (fun rh_24 αh_24 Hh_24 Lh_24 ph_24 Bh_24 => ?_)
            exact q_iret C Bh_24 hr hlk Bh_24.2.2 dX11_frozen_124
      ·
        have jc_5 := il_nle c_5
        exact J13 s.heap [] B ls (lv_sub hl [0] rfl)
abbrev w_X11_watcher : cw_W := ([600], [], [], [])
set_option maxRecDepth 100000 in
set_option maxHeartbeats 4000000 in
theorem t_X11_watcher (Γ : hp_G) (l : Launch) (α : hp_T) (g : GC α) (a0 : Nat) (k0 : hp_K α a0 = 12) (a1 : Int32) (a2 : Int32) : Met l yX11_watcher (hp_ws yX11_watcher cX11_watcher 4 (some .int)) (hp_rm 1 0 0) (hp_Pc Γ α [.ref a0, .int a1, .int a2]) (hp_Qi Γ (fun r β => cw w_X11_watcher α β)) 0 0 (hp_A Γ) := by
  refine hp_start (by decide) ?_
  intro p e s m below meth c C hr hlk B0 hnm
  have C : hp_C Γ p m c cX11_watcher 4 s ([.ref a0, .int a1, .int a2] : List Value).toArray RX11 := C
  have hx := C.1.1
  have hb := C.1.2.1
  have hown := C.1.2.2.2.1
  have hts := C.1.2.2.2.2
  have B : hp_B Γ (cw w_X11_watcher) s α α s.heap [] := ⟨B0.1, B0.2.1, cw_rf g⟩
  have lit0 : (0 : Int32).toInt = 0 := by decide
  have lit1 : (1 : Int32).toInt = 1 := by decide
  have lit2 : (2 : Int32).toInt = 2 := by decide
  have lit3 : (3 : Int32).toInt = 3 := by decide
  have hl := lv_entry ([.ref a0, .int a1, .int a2]) (n := 4) (Nat.le_of_ble_eq_true rfl)
  show W p l e (hp_rm 1 0 0) s m ([.ref a0, .int a1, .int a2] : List Value).toArray below meth c s.heap [] 0 0 (MQ below (hp_Qi Γ (fun r β => cw w_X11_watcher α β)) ([.ref a0, .int a1, .int a2] : List Value).toArray s 0 0 (hp_A Γ)) (entryFrame m ([.ref a0, .int a1, .int a2] : List Value).toArray 4)
  rw [lg_entry_eq]
  generalize (lg_sl ([.ref a0, .int a1, .int a2]) ++ List.replicate (4 - (lg_sl ([.ref a0, .int a1, .int a2])).length) Slot.unset).toArray = ls at hl ⊢
  have hl : lv_has ls 4 [(0, .ref a0), (1, .int a1), (2, .int a2)] := hl
  refine lv_iload_n hx hb dX11_watcher_0 rfl (lv_at hl 2 rfl) (hp_n (n := 1) rfl ?_)
  have J9 : ∀ (Hh_1 : Heap) (Lh_1 : List Loc) (Bh_1 : hp_B Γ (cw w_X11_watcher) s α α Hh_1 Lh_1) (ls : Array Slot) (hl : lv_has ls 4 [(0, .ref a0)]), W p l e (hp_rm 1 0 0) s m ([.ref a0, .int a1, .int a2] : List Value).toArray below meth c Hh_1 Lh_1 0 0 (MQ below (hp_Qi Γ (fun r β => cw w_X11_watcher α β)) ([.ref a0, .int a1, .int a2] : List Value).toArray s 0 0 (hp_A Γ)) (F0 m 9 ls []) := by
    intro Hh_1 Lh_1 Bh_1 ls hl
    refine lv_aload_n hx hb dX11_watcher_9 rfl (lv_at hl 0 rfl) (hp_n (n := 10) rfl ?_)
    refine lv_iconst (v := 1) hx hb dX11_watcher_10 (by decide) (hp_n (n := 11) rfl ?_)
    refine q_ci (pc' := 14) Bh_1 (hp_runV (As := [.int 1]) (rest := []) C Bh_1 (t_X11_refuse Γ l α Bh_1.2.2.1 a0 (cw_k Bh_1.2.2 k0) 1) lb_X11_refuse lv_X11_refuse lk_X11_98 (cw_k Bh_1.2.2 k0) rfl (by decide) rfl hl.1 rfl (Nat.le_of_ble_eq_true rfl) dX11_watcher_11 ⟨Nat.le_refl _, Nat.le_refl _⟩) (fun _ _ h => cw_tr Bh_1.2.2 h (by decide)) rfl (fun rh_2 αh_2 Hh_2 Lh_2 ph_2 Bh_2 => ?_)
    exact q_iret C Bh_2 hr hlk Bh_2.2.2 dX11_watcher_14
  refine lv_if_lt (tgt := 9) hx hb dX11_watcher_1 (by decide) (fun c_3 => ?_) (fun c_3 => hp_n (n := 4) rfl ?_)
  ·
    have jc_3 := il_lt c_3
    exact J9 s.heap [] B ls (lv_sub hl [0] rfl)
  ·
    have jc_3 := il_nlt c_3
    refine lv_iload_n hx hb dX11_watcher_4 rfl (lv_at hl 2 rfl) (hp_n (n := 5) rfl ?_)
    refine lv_iconst (v := 3) hx hb dX11_watcher_5 (by decide) (hp_n (n := 6) rfl ?_)
    refine lv_icmp_le (tgt := 15) hx hb dX11_watcher_6 (by decide) (fun c_4 => ?_) (fun c_4 => hp_n (n := 9) rfl ?_)
    ·
      have jc_4 := il_le c_4
      refine lv_aload_n hx hb dX11_watcher_15 rfl (lv_at hl 0 rfl) (hp_n (n := 16) rfl ?_)
      refine q_getr (κ := 12) (k := 1) (φ := 601) (pc' := 19) C B (cw_k B.2.2 k0) fl_X11_16 rfl rfl rfl (cw_r B.2.2 k0 rfl rfl (by decide) (by decide)) dX11_watcher_16 rfl (fun b_5 eb_5 kb_5 => ?_)
      refine lv_iload_n hx hb dX11_watcher_19 rfl (lv_at hl 1 rfl) (hp_n (n := 20) rfl ?_)
      refine q_cq (pc' := 23) B (hp_runV (As := [.int a1]) (rest := []) C B (t_X10_watcherAt Γ l α B.2.2.1 b_5 (cw_k B.2.2 kb_5) a1) lb_X10_watcherAt lv_X10_watcherAt lk_X11_220 (cw_k B.2.2 kb_5) rfl (by decide) rfl hl.1 rfl (Nat.le_of_ble_eq_true rfl) dX11_watcher_20 ⟨Nat.le_refl _, Nat.le_refl _⟩) (fun _ _ h => by rw [h.1]; exact B.2.2) rfl (fun rh_6 αh_6 Hh_6 Lh_6 ph_6 Bh_6 => ?_)
      rw [ph_6.1] at Bh_6
      rcases rh_6 with _ | bh_6
      ·
        refine lv_astore_nN (lv' := [(3, .null), (0, .ref a0), (1, .int a1), (2, .int a2)]) hx hb dX11_watcher_23 rfl hl (by decide) rfl (fun ls hl => hp_n (n := 24) rfl ?_)
        refine lv_aload_nN hx hb dX11_watcher_24 rfl (lv_at hl 0 rfl) (hp_n (n := 25) rfl ?_)
        refine lv_ifnonnullN hx hb dX11_watcher_25 (hp_n (n := 28) rfl ?_)
        refine lv_aload_n hx hb dX11_watcher_28 rfl (lv_at hl 1 rfl) (hp_n (n := 29) rfl ?_)
        refine lv_iconst (v := 2) hx hb dX11_watcher_29 (by decide) (hp_n (n := 30) rfl ?_)
        refine q_ci (pc' := 33) Bh_6 (hp_runV (As := [.int 2]) (rest := []) C Bh_6 (t_X11_refuse Γ l α Bh_6.2.2.1 a0 (cw_k Bh_6.2.2 k0) 2) lb_X11_refuse lv_X11_refuse lk_X11_98 (cw_k Bh_6.2.2 k0) rfl (by decide) rfl hl.1 rfl (Nat.le_of_ble_eq_true rfl) dX11_watcher_30 ⟨Nat.le_refl _, Nat.le_refl _⟩) (fun _ _ h => cw_tr Bh_6.2.2 h (by decide)) rfl (fun rh_7 αh_7 Hh_7 Lh_7 ph_7 Bh_7 => ?_)
        exact q_iret C Bh_7 hr hlk Bh_7.2.2 dX11_watcher_33
      ·
        have kbh_6 : hp_K α bh_6 = 8 := cw_k' Bh_6.2.2 (ph_6.2 bh_6 rfl)
        refine lv_astore_n (lv' := [(3, .ref bh_6), (0, .ref a0), (1, .int a1), (2, .int a2)]) hx hb dX11_watcher_23 rfl hl (by decide) rfl (fun ls hl => hp_n (n := 24) rfl ?_)
        refine lv_aload_n hx hb dX11_watcher_24 rfl (lv_at hl 0 rfl) (hp_n (n := 25) rfl ?_)
        refine lv_ifnonnull (tgt := 34) hx hb dX11_watcher_25 (by decide) ?_
        refine lv_iload_n hx hb dX11_watcher_34 rfl (lv_at hl 3 rfl) (hp_n (n := 35) rfl ?_)
        by_cases c_8 : a2 = 0
        · have jc_8 := il_eq c_8
          refine lv_tableIn (off := 25) (tgt := 60) hx hb dX11_watcher_35 (by omega) (by omega) (by rw [jc_8, lit0]; rfl) (by decide) ?_
          refine lv_aload_n hx hb dX11_watcher_60 rfl (lv_at hl 1 rfl) (hp_n (n := 61) rfl ?_)
          refine lv_aload_n hx hb dX11_watcher_61 rfl (lv_at hl 0 rfl) (hp_n (n := 62) rfl ?_)
          refine q_geti (κ := 8) (k := 0) (φ := 400) (pc' := 65) C Bh_6 (cw_k Bh_6.2.2 kbh_6) fl_X11_224 rfl rfl rfl dX11_watcher_62 rfl (fun x_9 ex_9 => ?_)
          refine q_ci (pc' := 68) Bh_6 (hp_runV (As := [.int x_9]) (rest := []) C Bh_6 (t_X11_answer Γ l α Bh_6.2.2.1 a0 (cw_k Bh_6.2.2 k0) x_9) lb_X11_answer lv_X11_answer lk_X11_115 (cw_k Bh_6.2.2 k0) rfl (by decide) rfl hl.1 rfl (Nat.le_of_ble_eq_true rfl) dX11_watcher_65 ⟨Nat.le_refl _, Nat.le_refl _⟩) (fun _ _ h => cw_tr Bh_6.2.2 h (by decide)) rfl (fun rh_10 αh_10 Hh_10 Lh_10 ph_10 Bh_10 => ?_)
          exact q_iret C Bh_10 hr hlk Bh_10.2.2 dX11_watcher_68
        have jc_8 := il_ne c_8
        by_cases c_11 : a2 = 1
        · have jc_11 := il_eq c_11
          refine lv_tableIn (off := 34) (tgt := 69) hx hb dX11_watcher_35 (by omega) (by omega) (by rw [jc_11, lit1]; rfl) (by decide) ?_
          refine lv_aload_n hx hb dX11_watcher_69 rfl (lv_at hl 1 rfl) (hp_n (n := 70) rfl ?_)
          refine lv_aload_n hx hb dX11_watcher_70 rfl (lv_at hl 0 rfl) (hp_n (n := 71) rfl ?_)
          refine q_geti (κ := 8) (k := 1) (φ := 401) (pc' := 74) C Bh_6 (cw_k Bh_6.2.2 kbh_6) fl_X11_227 rfl rfl rfl dX11_watcher_71 rfl (fun x_12 ex_12 => ?_)
          refine q_ci (pc' := 77) Bh_6 (hp_runV (As := [.int x_12]) (rest := []) C Bh_6 (t_X11_answer Γ l α Bh_6.2.2.1 a0 (cw_k Bh_6.2.2 k0) x_12) lb_X11_answer lv_X11_answer lk_X11_115 (cw_k Bh_6.2.2 k0) rfl (by decide) rfl hl.1 rfl (Nat.le_of_ble_eq_true rfl) dX11_watcher_74 ⟨Nat.le_refl _, Nat.le_refl _⟩) (fun _ _ h => cw_tr Bh_6.2.2 h (by decide)) rfl (fun rh_13 αh_13 Hh_13 Lh_13 ph_13 Bh_13 => ?_)
          exact q_iret C Bh_13 hr hlk Bh_13.2.2 dX11_watcher_77
        have jc_11 := il_ne c_11
        by_cases c_14 : a2 = 2
        · have jc_14 := il_eq c_14
          refine lv_tableIn (off := 43) (tgt := 78) hx hb dX11_watcher_35 (by omega) (by omega) (by rw [jc_14, lit2]; rfl) (by decide) ?_
          refine lv_aload_n hx hb dX11_watcher_78 rfl (lv_at hl 1 rfl) (hp_n (n := 79) rfl ?_)
          refine lv_aload_n hx hb dX11_watcher_79 rfl (lv_at hl 0 rfl) (hp_n (n := 80) rfl ?_)
          refine q_geti (κ := 8) (k := 3) (φ := 403) (pc' := 83) C Bh_6 (cw_k Bh_6.2.2 kbh_6) fl_X11_230 rfl rfl rfl dX11_watcher_80 rfl (fun x_15 ex_15 => ?_)
          refine lv_if_eq (tgt := 90) hx hb dX11_watcher_83 (by decide) (fun c_16 => ?_) (fun c_16 => hp_n (n := 86) rfl ?_)
          ·
            have jc_16 := il_eq c_16
            refine lv_iconst (v := 0) hx hb dX11_watcher_90 (by decide) (hp_n (n := 91) rfl ?_)
            refine q_ci (pc' := 94) Bh_6 (hp_runV (As := [.int 0]) (rest := []) C Bh_6 (t_X11_answer Γ l α Bh_6.2.2.1 a0 (cw_k Bh_6.2.2 k0) 0) lb_X11_answer lv_X11_answer lk_X11_115 (cw_k Bh_6.2.2 k0) rfl (by decide) rfl hl.1 rfl (Nat.le_of_ble_eq_true rfl) dX11_watcher_91 ⟨Nat.le_refl _, Nat.le_refl _⟩) (fun _ _ h => cw_tr Bh_6.2.2 h (by decide)) rfl (fun rh_17 αh_17 Hh_17 Lh_17 ph_17 Bh_17 => ?_)
            exact q_iret C Bh_17 hr hlk Bh_17.2.2 dX11_watcher_94
          ·
            have jc_16 := il_ne c_16
            refine lv_iconst (v := 1) hx hb dX11_watcher_86 (by decide) (hp_n (n := 87) rfl ?_)
            refine lv_goto (tgt := 91) hx hb dX11_watcher_87 (by decide) ?_
            refine q_ci (pc' := 94) Bh_6 (hp_runV (As := [.int 1]) (rest := []) C Bh_6 (t_X11_answer Γ l α Bh_6.2.2.1 a0 (cw_k Bh_6.2.2 k0) 1) lb_X11_answer lv_X11_answer lk_X11_115 (cw_k Bh_6.2.2 k0) rfl (by decide) rfl hl.1 rfl (Nat.le_of_ble_eq_true rfl) dX11_watcher_91 ⟨Nat.le_refl _, Nat.le_refl _⟩) (fun _ _ h => cw_tr Bh_6.2.2 h (by decide)) rfl (fun rh_18 αh_18 Hh_18 Lh_18 ph_18 Bh_18 => ?_)
            exact q_iret C Bh_18 hr hlk Bh_18.2.2 dX11_watcher_94
        have jc_14 := il_ne c_14
        refine lv_tableOut (tgt := 95) hx hb dX11_watcher_35 (by omega) (by decide) ?_
        refine lv_aload_n hx hb dX11_watcher_95 rfl (lv_at hl 1 rfl) (hp_n (n := 96) rfl ?_)
        refine lv_aload_n hx hb dX11_watcher_96 rfl (lv_at hl 0 rfl) (hp_n (n := 97) rfl ?_)
        refine q_geti (κ := 8) (k := 2) (φ := 402) (pc' := 100) C Bh_6 (cw_k Bh_6.2.2 kbh_6) fl_X11_234 rfl rfl rfl dX11_watcher_97 rfl (fun x_19 ex_19 => ?_)
        refine q_ci (pc' := 103) Bh_6 (hp_runV (As := [.int x_19]) (rest := []) C Bh_6 (t_X11_answer Γ l α Bh_6.2.2.1 a0 (cw_k Bh_6.2.2 k0) x_19) lb_X11_answer lv_X11_answer lk_X11_115 (cw_k Bh_6.2.2 k0) rfl (by decide) rfl hl.1 rfl (Nat.le_of_ble_eq_true rfl) dX11_watcher_100 ⟨Nat.le_refl _, Nat.le_refl _⟩) (fun _ _ h => cw_tr Bh_6.2.2 h (by decide)) rfl (fun rh_20 αh_20 Hh_20 Lh_20 ph_20 Bh_20 => ?_)
        exact q_iret C Bh_20 hr hlk Bh_20.2.2 dX11_watcher_103
    ·
      have jc_4 := il_nle c_4
      exact J9 s.heap [] B ls (lv_sub hl [0] rfl)
end JN4_0
section JN4_1
abbrev w_X11_add : cw_W := ([152, 501, 556, 600], [], [27, 29], [])
set_option maxRecDepth 100000 in
set_option maxHeartbeats 4000000 in
theorem t_X11_add (Γ : hp_G) (l : Launch) (α : hp_T) (g : GC α) (a0 : Nat) (k0 : hp_K α a0 = 12) (a1 : Int32) : Met l yX11_add (hp_ws yX11_add cX11_add 3 (some .int)) (hp_rm 4 0 0) (hp_Pc Γ α [.ref a0, .int a1]) (hp_Qi Γ (fun r β => cw w_X11_add α β)) 0 0 (hp_A Γ) := by
  refine hp_start (by decide) ?_
  intro p e s m below meth c C hr hlk B0 hnm
  have C : hp_C Γ p m c cX11_add 3 s ([.ref a0, .int a1] : List Value).toArray RX11 := C
  have hx := C.1.1
  have hb := C.1.2.1
  have hown := C.1.2.2.2.1
  have hts := C.1.2.2.2.2
  have B : hp_B Γ (cw w_X11_add) s α α s.heap [] := ⟨B0.1, B0.2.1, cw_rf g⟩
  have lit1 : (1 : Int32).toInt = 1 := by decide
  have lit2 : (2 : Int32).toInt = 2 := by decide
  have lit3 : (3 : Int32).toInt = 3 := by decide
  have lit48 : (48 : Int32).toInt = 48 := by decide
  have hl := lv_entry ([.ref a0, .int a1]) (n := 3) (Nat.le_of_ble_eq_true rfl)
  show W p l e (hp_rm 4 0 0) s m ([.ref a0, .int a1] : List Value).toArray below meth c s.heap [] 0 0 (MQ below (hp_Qi Γ (fun r β => cw w_X11_add α β)) ([.ref a0, .int a1] : List Value).toArray s 0 0 (hp_A Γ)) (entryFrame m ([.ref a0, .int a1] : List Value).toArray 3)
  rw [lg_entry_eq]
  generalize (lg_sl ([.ref a0, .int a1]) ++ List.replicate (3 - (lg_sl ([.ref a0, .int a1])).length) Slot.unset).toArray = ls at hl ⊢
  have hl : lv_has ls 3 [(0, .ref a0), (1, .int a1)] := hl
  refine lv_aload_n hx hb dX11_add_0 rfl (lv_at hl 0 rfl) (hp_n (n := 1) rfl ?_)
  refine q_getr (κ := 12) (k := 1) (φ := 601) (pc' := 4) C B (cw_k B.2.2 k0) fl_X11_16 rfl rfl rfl (cw_r B.2.2 k0 rfl rfl (by decide) (by decide)) dX11_add_1 rfl (fun b_1 eb_1 kb_1 => ?_)
  refine lv_iload_n hx hb dX11_add_4 rfl (lv_at hl 1 rfl) (hp_n (n := 5) rfl ?_)
  refine q_cq (pc' := 8) B (hp_runV (As := [.int a1]) (rest := []) C B (t_X10_logAt Γ l α B.2.2.1 b_1 (cw_k B.2.2 kb_1) a1) lb_X10_logAt lv_X10_logAt lk_X11_163 (cw_k B.2.2 kb_1) rfl (by decide) rfl hl.1 rfl (Nat.le_of_ble_eq_true rfl) dX11_add_5 ⟨Nat.le_refl _, Nat.le_refl _⟩) (fun _ _ h => by rw [h.1]; exact B.2.2) rfl (fun rh_2 αh_2 Hh_2 Lh_2 ph_2 Bh_2 => ?_)
  rw [ph_2.1] at Bh_2
  rcases rh_2 with _ | bh_2
  ·
    refine lv_astore_nN (lv' := [(2, .null), (0, .ref a0), (1, .int a1)]) hx hb dX11_add_8 rfl hl (by decide) rfl (fun ls hl => hp_n (n := 9) rfl ?_)
    refine lv_aload_nN hx hb dX11_add_9 rfl (lv_at hl 0 rfl) (hp_n (n := 10) rfl ?_)
    refine lv_ifnonnullN hx hb dX11_add_10 (hp_n (n := 13) rfl ?_)
    refine lv_aload_n hx hb dX11_add_13 rfl (lv_at hl 1 rfl) (hp_n (n := 14) rfl ?_)
    refine lv_iconst (v := 2) hx hb dX11_add_14 (by decide) (hp_n (n := 15) rfl ?_)
    refine q_ci (pc' := 18) Bh_2 (hp_runV (As := [.int 2]) (rest := []) C Bh_2 (t_X11_refuse Γ l α Bh_2.2.2.1 a0 (cw_k Bh_2.2.2 k0) 2) lb_X11_refuse lv_X11_refuse lk_X11_98 (cw_k Bh_2.2.2 k0) rfl (by decide) rfl hl.1 rfl (Nat.le_of_ble_eq_true rfl) dX11_add_15 ⟨Nat.le_refl _, Nat.le_refl _⟩) (fun _ _ h => cw_tr Bh_2.2.2 h (by decide)) rfl (fun rh_3 αh_3 Hh_3 Lh_3 ph_3 Bh_3 => ?_)
    exact q_iret C Bh_3 hr hlk Bh_3.2.2 dX11_add_18
  ·
    have kbh_2 : hp_K α bh_2 = 3 := cw_k' Bh_2.2.2 (ph_2.2 bh_2 rfl)
    refine lv_astore_n (lv' := [(2, .ref bh_2), (0, .ref a0), (1, .int a1)]) hx hb dX11_add_8 rfl hl (by decide) rfl (fun ls hl => hp_n (n := 9) rfl ?_)
    refine lv_aload_n hx hb dX11_add_9 rfl (lv_at hl 0 rfl) (hp_n (n := 10) rfl ?_)
    refine lv_ifnonnull (tgt := 19) hx hb dX11_add_10 (by decide) ?_
    refine lv_aload_n hx hb dX11_add_19 rfl (lv_at hl 0 rfl) (hp_n (n := 20) rfl ?_)
    refine q_geti (κ := 3) (k := 2) (φ := 152) (pc' := 23) C Bh_2 (cw_k Bh_2.2.2 kbh_2) fl_X11_167 rfl rfl rfl dX11_add_20 rfl (fun x_4 ex_4 => ?_)
    refine lv_bipush (v := 48) hx hb dX11_add_23 (by decide) (hp_n (n := 25) rfl ?_)
    refine lv_icmp_lt (tgt := 34) hx hb dX11_add_25 (by decide) (fun c_5 => ?_) (fun c_5 => hp_n (n := 28) rfl ?_)
    ·
      have jc_5 := il_lt c_5
      refine lv_aload_n hx hb dX11_add_34 rfl (lv_at hl 1 rfl) (hp_n (n := 35) rfl ?_)
      refine q_gets (κ := 12) (k := 1) (φ := 601) (pc' := 38) C Bh_2 (cw_k Bh_2.2.2 k0) fl_X11_16 rfl rfl rfl eb_1 dX11_add_35 rfl ?_
      refine lv_aload_n hx hb dX11_add_38 rfl (lv_at hl 0 rfl) (hp_n (n := 39) rfl ?_)
      refine lv_aload_n hx hb dX11_add_39 rfl (lv_at hl 1 rfl) (hp_n (n := 40) rfl ?_)
      refine q_getr (κ := 12) (k := 6) (φ := 606) (pc' := 43) C Bh_2 (cw_k Bh_2.2.2 k0) fl_X11_40 rfl rfl rfl (cw_r Bh_2.2.2 k0 rfl rfl (by decide) (by decide)) dX11_add_40 rfl (fun b_6 eb_6 kb_6 => ?_)
      refine q_cv (pc' := 46) Bh_2 (hp_runV (As := [.ref bh_2, .ref b_6]) (rest := []) C Bh_2 (t_X10_addWord Γ l α Bh_2.2.2.1 b_1 (cw_k Bh_2.2.2 kb_1) bh_2 (cw_k Bh_2.2.2 kbh_2) b_6 (cw_k Bh_2.2.2 kb_6)) lb_X10_addWord lv_X10_addWord lk_X11_237 (cw_k Bh_2.2.2 kb_1) rfl (by decide) rfl hl.1 rfl (Nat.le_of_ble_eq_true rfl) dX11_add_43 ⟨Nat.le_refl _, Nat.le_refl _⟩) (fun _ h => cw_tr Bh_2.2.2 h (by decide)) rfl (fun αh_7 Hh_7 Lh_7 ph_7 Bh_7 => ?_)
      refine lv_aload_n hx hb dX11_add_46 rfl (lv_at hl 1 rfl) (hp_n (n := 47) rfl ?_)
      refine lv_aload_n hx hb dX11_add_47 rfl (lv_at hl 0 rfl) (hp_n (n := 48) rfl ?_)
      refine q_geti (κ := 3) (k := 2) (φ := 152) (pc' := 51) C Bh_7 (cw_k Bh_7.2.2 kbh_2) fl_X11_167 rfl rfl rfl dX11_add_48 rfl (fun x_8 ex_8 => ?_)
      refine lv_iconst (v := 1) hx hb dX11_add_51 (by decide) (hp_n (n := 52) rfl ?_)
      refine lv_isub hx hb dX11_add_52 (hp_n (n := 53) rfl (lv_topi (fun x_9 ex_9 => ?_)))
      refine q_ci (pc' := 56) Bh_7 (hp_runV (As := [.int x_9]) (rest := []) C Bh_7 (t_X11_answer Γ l αh_7 Bh_7.2.2.1 a0 (cw_k Bh_7.2.2 k0) x_9) lb_X11_answer lv_X11_answer lk_X11_115 (cw_k Bh_7.2.2 k0) rfl (by decide) rfl hl.1 rfl (Nat.le_of_ble_eq_true rfl) dX11_add_53 ⟨Nat.le_refl _, Nat.le_refl _⟩) (fun _ _ h => cw_tr Bh_7.2.2 h (by decide)) rfl (fun rh_10 αh_10 Hh_10 Lh_10 ph_10 Bh_10 => ?_)
      exact q_iret C Bh_10 hr hlk Bh_10.2.2 dX11_add_56
    ·
      have jc_5 := il_nlt c_5
      refine lv_aload_n hx hb dX11_add_28 rfl (lv_at hl 1 rfl) (hp_n (n := 29) rfl ?_)
      refine lv_iconst (v := 3) hx hb dX11_add_29 (by decide) (hp_n (n := 30) rfl ?_)
      refine q_ci (pc' := 33) Bh_2 (hp_runV (As := [.int 3]) (rest := []) C Bh_2 (t_X11_refuse Γ l α Bh_2.2.2.1 a0 (cw_k Bh_2.2.2 k0) 3) lb_X11_refuse lv_X11_refuse lk_X11_98 (cw_k Bh_2.2.2 k0) rfl (by decide) rfl hl.1 rfl (Nat.le_of_ble_eq_true rfl) dX11_add_30 ⟨Nat.le_refl _, Nat.le_refl _⟩) (fun _ _ h => cw_tr Bh_2.2.2 h (by decide)) rfl (fun rh_11 αh_11 Hh_11 Lh_11 ph_11 Bh_11 => ?_)
      exact q_iret C Bh_11 hr hlk Bh_11.2.2 dX11_add_33
abbrev w_X11_fork : cw_W := ([152, 501, 552, 556, 600], [], [27, 29], [])
set_option maxRecDepth 100000 in
set_option maxHeartbeats 4000000 in
theorem t_X11_fork (Γ : hp_G) (l : Launch) (α : hp_T) (g : GC α) (a0 : Nat) (k0 : hp_K α a0 = 12) (a1 : Int32) (a2 : Int32) : Met l yX11_fork (hp_ws yX11_fork cX11_fork 4 (some .int)) (hp_rm 4 0 0) (hp_Pc Γ α [.ref a0, .int a1, .int a2]) (hp_Qi Γ (fun r β => cw w_X11_fork α β)) 0 0 (hp_A Γ) := by
  refine hp_start (by decide) ?_
  intro p e s m below meth c C hr hlk B0 hnm
  have C : hp_C Γ p m c cX11_fork 4 s ([.ref a0, .int a1, .int a2] : List Value).toArray RX11 := C
  have hx := C.1.1
  have hb := C.1.2.1
  have hown := C.1.2.2.2.1
  have hts := C.1.2.2.2.2
  have B : hp_B Γ (cw w_X11_fork) s α α s.heap [] := ⟨B0.1, B0.2.1, cw_rf g⟩
  have lit0 : (0 : Int32).toInt = 0 := by decide
  have lit1 : (1 : Int32).toInt = 1 := by decide
  have lit2 : (2 : Int32).toInt = 2 := by decide
  have lit3 : (3 : Int32).toInt = 3 := by decide
  have lit4 : (4 : Int32).toInt = 4 := by decide
  have lit5 : (5 : Int32).toInt = 5 := by decide
  have hl := lv_entry ([.ref a0, .int a1, .int a2]) (n := 4) (Nat.le_of_ble_eq_true rfl)
  show W p l e (hp_rm 4 0 0) s m ([.ref a0, .int a1, .int a2] : List Value).toArray below meth c s.heap [] 0 0 (MQ below (hp_Qi Γ (fun r β => cw w_X11_fork α β)) ([.ref a0, .int a1, .int a2] : List Value).toArray s 0 0 (hp_A Γ)) (entryFrame m ([.ref a0, .int a1, .int a2] : List Value).toArray 4)
  rw [lg_entry_eq]
  generalize (lg_sl ([.ref a0, .int a1, .int a2]) ++ List.replicate (4 - (lg_sl ([.ref a0, .int a1, .int a2])).length) Slot.unset).toArray = ls at hl ⊢
  have hl : lv_has ls 4 [(0, .ref a0), (1, .int a1), (2, .int a2)] := hl
  refine lv_iload_n hx hb dX11_fork_0 rfl (lv_at hl 2 rfl) (hp_n (n := 1) rfl ?_)
  refine lv_if_ge (tgt := 10) hx hb dX11_fork_1 (by decide) (fun c_1 => ?_) (fun c_1 => hp_n (n := 4) rfl ?_)
  ·
    have jc_1 := il_le c_1
    refine lv_aload_n hx hb dX11_fork_10 rfl (lv_at hl 0 rfl) (hp_n (n := 11) rfl ?_)
    refine q_getr (κ := 12) (k := 1) (φ := 601) (pc' := 14) C B (cw_k B.2.2 k0) fl_X11_16 rfl rfl rfl (cw_r B.2.2 k0 rfl rfl (by decide) (by decide)) dX11_fork_11 rfl (fun b_2 eb_2 kb_2 => ?_)
    refine lv_iload_n hx hb dX11_fork_14 rfl (lv_at hl 1 rfl) (hp_n (n := 15) rfl ?_)
    refine q_cq (pc' := 18) B (hp_runV (As := [.int a1]) (rest := []) C B (t_X10_logAt Γ l α B.2.2.1 b_2 (cw_k B.2.2 kb_2) a1) lb_X10_logAt lv_X10_logAt lk_X11_163 (cw_k B.2.2 kb_2) rfl (by decide) rfl hl.1 rfl (Nat.le_of_ble_eq_true rfl) dX11_fork_15 ⟨Nat.le_refl _, Nat.le_refl _⟩) (fun _ _ h => by rw [h.1]; exact B.2.2) rfl (fun rh_3 αh_3 Hh_3 Lh_3 ph_3 Bh_3 => ?_)
    rw [ph_3.1] at Bh_3
    rcases rh_3 with _ | bh_3
    ·
      refine lv_astore_nN (lv' := [(3, .null), (0, .ref a0), (1, .int a1), (2, .int a2)]) hx hb dX11_fork_18 rfl hl (by decide) rfl (fun ls hl => hp_n (n := 19) rfl ?_)
      refine lv_aload_nN hx hb dX11_fork_19 rfl (lv_at hl 0 rfl) (hp_n (n := 20) rfl ?_)
      refine lv_ifnonnullN hx hb dX11_fork_20 (hp_n (n := 23) rfl ?_)
      refine lv_aload_n hx hb dX11_fork_23 rfl (lv_at hl 1 rfl) (hp_n (n := 24) rfl ?_)
      refine lv_iconst (v := 2) hx hb dX11_fork_24 (by decide) (hp_n (n := 25) rfl ?_)
      refine q_ci (pc' := 28) Bh_3 (hp_runV (As := [.int 2]) (rest := []) C Bh_3 (t_X11_refuse Γ l α Bh_3.2.2.1 a0 (cw_k Bh_3.2.2 k0) 2) lb_X11_refuse lv_X11_refuse lk_X11_98 (cw_k Bh_3.2.2 k0) rfl (by decide) rfl hl.1 rfl (Nat.le_of_ble_eq_true rfl) dX11_fork_25 ⟨Nat.le_refl _, Nat.le_refl _⟩) (fun _ _ h => cw_tr Bh_3.2.2 h (by decide)) rfl (fun rh_4 αh_4 Hh_4 Lh_4 ph_4 Bh_4 => ?_)
      exact q_iret C Bh_4 hr hlk Bh_4.2.2 dX11_fork_28
    ·
      have kbh_3 : hp_K α bh_3 = 3 := cw_k' Bh_3.2.2 (ph_3.2 bh_3 rfl)
      refine lv_astore_n (lv' := [(3, .ref bh_3), (0, .ref a0), (1, .int a1), (2, .int a2)]) hx hb dX11_fork_18 rfl hl (by decide) rfl (fun ls hl => hp_n (n := 19) rfl ?_)
      refine lv_aload_n hx hb dX11_fork_19 rfl (lv_at hl 0 rfl) (hp_n (n := 20) rfl ?_)
      refine lv_ifnonnull (tgt := 29) hx hb dX11_fork_20 (by decide) ?_
      refine lv_aload_n hx hb dX11_fork_29 rfl (lv_at hl 1 rfl) (hp_n (n := 30) rfl ?_)
      refine q_gets (κ := 12) (k := 1) (φ := 601) (pc' := 33) C Bh_3 (cw_k Bh_3.2.2 k0) fl_X11_16 rfl rfl rfl eb_2 dX11_fork_30 rfl ?_
      refine q_geti (κ := 11) (k := 2) (φ := 552) (pc' := 36) C Bh_3 (cw_k Bh_3.2.2 kb_2) fl_X11_112 rfl rfl rfl dX11_fork_33 rfl (fun x_5 ex_5 => ?_)
      refine lv_iconst (v := 4) hx hb dX11_fork_36 (by decide) (hp_n (n := 37) rfl ?_)
      refine lv_icmp_lt (tgt := 46) hx hb dX11_fork_37 (by decide) (fun c_6 => ?_) (fun c_6 => hp_n (n := 40) rfl ?_)
      ·
        have jc_6 := il_lt c_6
        refine lv_iload_n hx hb dX11_fork_46 rfl (lv_at hl 3 rfl) (hp_n (n := 47) rfl ?_)
        refine lv_aload_n hx hb dX11_fork_47 rfl (lv_at hl 0 rfl) (hp_n (n := 48) rfl ?_)
        refine q_geti (κ := 3) (k := 2) (φ := 152) (pc' := 51) C Bh_3 (cw_k Bh_3.2.2 kbh_3) fl_X11_167 rfl rfl rfl dX11_fork_48 rfl (fun x_7 ex_7 => ?_)
        refine lv_icmp_le (tgt := 60) hx hb dX11_fork_51 (by decide) (fun c_8 => ?_) (fun c_8 => hp_n (n := 54) rfl ?_)
        ·
          have jc_8 := il_le c_8
          refine lv_aload_n hx hb dX11_fork_60 rfl (lv_at hl 1 rfl) (hp_n (n := 61) rfl ?_)
          refine lv_aload_n hx hb dX11_fork_61 rfl (lv_at hl 1 rfl) (hp_n (n := 62) rfl ?_)
          refine q_gets (κ := 12) (k := 1) (φ := 601) (pc' := 65) C Bh_3 (cw_k Bh_3.2.2 k0) fl_X11_16 rfl rfl rfl eb_2 dX11_fork_62 rfl ?_
          refine lv_aload_n hx hb dX11_fork_65 rfl (lv_at hl 0 rfl) (hp_n (n := 66) rfl ?_)
          refine lv_iload_n hx hb dX11_fork_66 rfl (lv_at hl 3 rfl) (hp_n (n := 67) rfl ?_)
          refine q_ci (pc' := 70) Bh_3 (hp_runV (As := [.ref bh_3, .int a2]) (rest := [.ref a0]) C Bh_3 (t_X10_forkLog Γ l α Bh_3.2.2.1 b_2 (cw_k Bh_3.2.2 kb_2) bh_3 (cw_k Bh_3.2.2 kbh_3) a2) lb_X10_forkLog lv_X10_forkLog lk_X11_241 (cw_k Bh_3.2.2 kb_2) rfl (by decide) rfl hl.1 rfl (Nat.le_of_ble_eq_true rfl) dX11_fork_67 ⟨Nat.le_refl _, Nat.le_refl _⟩) (fun _ _ h => cw_tr Bh_3.2.2 h (by decide)) rfl (fun rh_9 αh_9 Hh_9 Lh_9 ph_9 Bh_9 => ?_)
          refine q_ci (pc' := 73) Bh_9 (hp_runV (As := [.int rh_9]) (rest := []) C Bh_9 (t_X11_answer Γ l αh_9 Bh_9.2.2.1 a0 (cw_k Bh_9.2.2 k0) rh_9) lb_X11_answer lv_X11_answer lk_X11_115 (cw_k Bh_9.2.2 k0) rfl (by decide) rfl hl.1 rfl (Nat.le_of_ble_eq_true rfl) dX11_fork_70 ⟨Nat.le_refl _, Nat.le_refl _⟩) (fun _ _ h => cw_tr Bh_9.2.2 h (by decide)) rfl (fun rh_10 αh_10 Hh_10 Lh_10 ph_10 Bh_10 => ?_)
          exact q_iret C Bh_10 hr hlk Bh_10.2.2 dX11_fork_73
        ·
          have jc_8 := il_nle c_8
          refine lv_aload_n hx hb dX11_fork_54 rfl (lv_at hl 1 rfl) (hp_n (n := 55) rfl ?_)
          refine lv_iconst (v := 5) hx hb dX11_fork_55 (by decide) (hp_n (n := 56) rfl ?_)
          refine q_ci (pc' := 59) Bh_3 (hp_runV (As := [.int 5]) (rest := []) C Bh_3 (t_X11_refuse Γ l α Bh_3.2.2.1 a0 (cw_k Bh_3.2.2 k0) 5) lb_X11_refuse lv_X11_refuse lk_X11_98 (cw_k Bh_3.2.2 k0) rfl (by decide) rfl hl.1 rfl (Nat.le_of_ble_eq_true rfl) dX11_fork_56 ⟨Nat.le_refl _, Nat.le_refl _⟩) (fun _ _ h => cw_tr Bh_3.2.2 h (by decide)) rfl (fun rh_11 αh_11 Hh_11 Lh_11 ph_11 Bh_11 => ?_)
          exact q_iret C Bh_11 hr hlk Bh_11.2.2 dX11_fork_59
      ·
        have jc_6 := il_nlt c_6
        refine lv_aload_n hx hb dX11_fork_40 rfl (lv_at hl 1 rfl) (hp_n (n := 41) rfl ?_)
        refine lv_iconst (v := 3) hx hb dX11_fork_41 (by decide) (hp_n (n := 42) rfl ?_)
        refine q_ci (pc' := 45) Bh_3 (hp_runV (As := [.int 3]) (rest := []) C Bh_3 (t_X11_refuse Γ l α Bh_3.2.2.1 a0 (cw_k Bh_3.2.2 k0) 3) lb_X11_refuse lv_X11_refuse lk_X11_98 (cw_k Bh_3.2.2 k0) rfl (by decide) rfl hl.1 rfl (Nat.le_of_ble_eq_true rfl) dX11_fork_42 ⟨Nat.le_refl _, Nat.le_refl _⟩) (fun _ _ h => cw_tr Bh_3.2.2 h (by decide)) rfl (fun rh_12 αh_12 Hh_12 Lh_12 ph_12 Bh_12 => ?_)
        exact q_iret C Bh_12 hr hlk Bh_12.2.2 dX11_fork_45
  ·
    have jc_1 := il_nle c_1
    refine lv_aload_n hx hb dX11_fork_4 rfl (lv_at hl 0 rfl) (hp_n (n := 5) rfl ?_)
    refine lv_iconst (v := 1) hx hb dX11_fork_5 (by decide) (hp_n (n := 6) rfl ?_)
    refine q_ci (pc' := 9) B (hp_runV (As := [.int 1]) (rest := []) C B (t_X11_refuse Γ l α B.2.2.1 a0 (cw_k B.2.2 k0) 1) lb_X11_refuse lv_X11_refuse lk_X11_98 (cw_k B.2.2 k0) rfl (by decide) rfl hl.1 rfl (Nat.le_of_ble_eq_true rfl) dX11_fork_6 ⟨Nat.le_refl _, Nat.le_refl _⟩) (fun _ _ h => cw_tr B.2.2 h (by decide)) rfl (fun rh_13 αh_13 Hh_13 Lh_13 ph_13 Bh_13 => ?_)
    exact q_iret C Bh_13 hr hlk Bh_13.2.2 dX11_fork_9
abbrev w_X11_freeze : cw_W := ([100, 101, 102, 103, 301, 554, 556, 600], [], [20, 33], [])
set_option maxRecDepth 100000 in
set_option maxHeartbeats 4000000 in
theorem t_X11_freeze (Γ : hp_G) (l : Launch) (α : hp_T) (g : GC α) (a0 : Nat) (k0 : hp_K α a0 = 12) (a1 : Int32) : Met l yX11_freeze (hp_ws yX11_freeze cX11_freeze 2 (some .int)) (hp_rm 4 0 0) (hp_Pc Γ α [.ref a0, .int a1]) (hp_Qi Γ (fun r β => cw w_X11_freeze α β)) 0 0 (hp_A Γ) := by
  refine hp_start (by decide) ?_
  intro p e s m below meth c C hr hlk B0 hnm
  have C : hp_C Γ p m c cX11_freeze 2 s ([.ref a0, .int a1] : List Value).toArray RX11 := C
  have hx := C.1.1
  have hb := C.1.2.1
  have hown := C.1.2.2.2.1
  have hts := C.1.2.2.2.2
  have B : hp_B Γ (cw w_X11_freeze) s α α s.heap [] := ⟨B0.1, B0.2.1, cw_rf g⟩
  have lit2 : (2 : Int32).toInt = 2 := by decide
  have lit3 : (3 : Int32).toInt = 3 := by decide
  have lit16 : (16 : Int32).toInt = 16 := by decide
  have hl := lv_entry ([.ref a0, .int a1]) (n := 2) (Nat.le_of_ble_eq_true rfl)
  show W p l e (hp_rm 4 0 0) s m ([.ref a0, .int a1] : List Value).toArray below meth c s.heap [] 0 0 (MQ below (hp_Qi Γ (fun r β => cw w_X11_freeze α β)) ([.ref a0, .int a1] : List Value).toArray s 0 0 (hp_A Γ)) (entryFrame m ([.ref a0, .int a1] : List Value).toArray 2)
  rw [lg_entry_eq]
  generalize (lg_sl ([.ref a0, .int a1]) ++ List.replicate (2 - (lg_sl ([.ref a0, .int a1])).length) Slot.unset).toArray = ls at hl ⊢
  have hl : lv_has ls 2 [(0, .ref a0), (1, .int a1)] := hl
  refine lv_aload_n hx hb dX11_freeze_0 rfl (lv_at hl 0 rfl) (hp_n (n := 1) rfl ?_)
  refine q_getr (κ := 12) (k := 1) (φ := 601) (pc' := 4) C B (cw_k B.2.2 k0) fl_X11_16 rfl rfl rfl (cw_r B.2.2 k0 rfl rfl (by decide) (by decide)) dX11_freeze_1 rfl (fun b_1 eb_1 kb_1 => ?_)
  refine lv_iload_n hx hb dX11_freeze_4 rfl (lv_at hl 1 rfl) (hp_n (n := 5) rfl ?_)
  refine q_cq (pc' := 8) B (hp_runV (As := [.int a1]) (rest := []) C B (t_X10_logAt Γ l α B.2.2.1 b_1 (cw_k B.2.2 kb_1) a1) lb_X10_logAt lv_X10_logAt lk_X11_163 (cw_k B.2.2 kb_1) rfl (by decide) rfl hl.1 rfl (Nat.le_of_ble_eq_true rfl) dX11_freeze_5 ⟨Nat.le_refl _, Nat.le_refl _⟩) (fun _ _ h => by rw [h.1]; exact B.2.2) rfl (fun rh_2 αh_2 Hh_2 Lh_2 ph_2 Bh_2 => ?_)
  rw [ph_2.1] at Bh_2
  rcases rh_2 with _ | bh_2
  ·
    refine lv_ifnonnullN hx hb dX11_freeze_8 (hp_n (n := 11) rfl ?_)
    refine lv_aload_n hx hb dX11_freeze_11 rfl (lv_at hl 0 rfl) (hp_n (n := 12) rfl ?_)
    refine lv_iconst (v := 2) hx hb dX11_freeze_12 (by decide) (hp_n (n := 13) rfl ?_)
    refine q_ci (pc' := 16) Bh_2 (hp_runV (As := [.int 2]) (rest := []) C Bh_2 (t_X11_refuse Γ l α Bh_2.2.2.1 a0 (cw_k Bh_2.2.2 k0) 2) lb_X11_refuse lv_X11_refuse lk_X11_98 (cw_k Bh_2.2.2 k0) rfl (by decide) rfl hl.1 rfl (Nat.le_of_ble_eq_true rfl) dX11_freeze_13 ⟨Nat.le_refl _, Nat.le_refl _⟩) (fun _ _ h => cw_tr Bh_2.2.2 h (by decide)) rfl (fun rh_3 αh_3 Hh_3 Lh_3 ph_3 Bh_3 => ?_)
    exact q_iret C Bh_3 hr hlk Bh_3.2.2 dX11_freeze_16
  ·
    have kbh_2 : hp_K α bh_2 = 3 := cw_k' Bh_2.2.2 (ph_2.2 bh_2 rfl)
    refine lv_ifnonnull (tgt := 17) hx hb dX11_freeze_8 (by decide) ?_
    refine lv_aload_n hx hb dX11_freeze_17 rfl (lv_at hl 0 rfl) (hp_n (n := 18) rfl ?_)
    refine q_gets (κ := 12) (k := 1) (φ := 601) (pc' := 21) C Bh_2 (cw_k Bh_2.2.2 k0) fl_X11_16 rfl rfl rfl eb_1 dX11_freeze_18 rfl ?_
    refine q_geti (κ := 11) (k := 4) (φ := 554) (pc' := 24) C Bh_2 (cw_k Bh_2.2.2 kb_1) fl_X11_153 rfl rfl rfl dX11_freeze_21 rfl (fun x_4 ex_4 => ?_)
    refine lv_bipush (v := 16) hx hb dX11_freeze_24 (by decide) (hp_n (n := 26) rfl ?_)
    refine lv_icmp_lt (tgt := 35) hx hb dX11_freeze_26 (by decide) (fun c_5 => ?_) (fun c_5 => hp_n (n := 29) rfl ?_)
    ·
      have jc_5 := il_lt c_5
      refine lv_aload_n hx hb dX11_freeze_35 rfl (lv_at hl 0 rfl) (hp_n (n := 36) rfl ?_)
      refine lv_aload_n hx hb dX11_freeze_36 rfl (lv_at hl 0 rfl) (hp_n (n := 37) rfl ?_)
      refine q_gets (κ := 12) (k := 1) (φ := 601) (pc' := 40) C Bh_2 (cw_k Bh_2.2.2 k0) fl_X11_16 rfl rfl rfl eb_1 dX11_freeze_37 rfl ?_
      refine lv_iload_n hx hb dX11_freeze_40 rfl (lv_at hl 1 rfl) (hp_n (n := 41) rfl ?_)
      refine q_ci (pc' := 44) Bh_2 (hp_runV (As := [.int a1]) (rest := [.ref a0]) C Bh_2 (t_X10_freezeHead Γ l α Bh_2.2.2.1 b_1 (cw_k Bh_2.2.2 kb_1) a1) lb_X10_freezeHead lv_X10_freezeHead lk_X11_244 (cw_k Bh_2.2.2 kb_1) rfl (by decide) rfl hl.1 rfl (Nat.le_of_ble_eq_true rfl) dX11_freeze_41 ⟨Nat.le_refl _, Nat.le_refl _⟩) (fun _ _ h => cw_tr Bh_2.2.2 h (by decide)) rfl (fun rh_6 αh_6 Hh_6 Lh_6 ph_6 Bh_6 => ?_)
      refine q_ci (pc' := 47) Bh_6 (hp_runV (As := [.int rh_6]) (rest := []) C Bh_6 (t_X11_answer Γ l αh_6 Bh_6.2.2.1 a0 (cw_k Bh_6.2.2 k0) rh_6) lb_X11_answer lv_X11_answer lk_X11_115 (cw_k Bh_6.2.2 k0) rfl (by decide) rfl hl.1 rfl (Nat.le_of_ble_eq_true rfl) dX11_freeze_44 ⟨Nat.le_refl _, Nat.le_refl _⟩) (fun _ _ h => cw_tr Bh_6.2.2 h (by decide)) rfl (fun rh_7 αh_7 Hh_7 Lh_7 ph_7 Bh_7 => ?_)
      exact q_iret C Bh_7 hr hlk Bh_7.2.2 dX11_freeze_47
    ·
      have jc_5 := il_nlt c_5
      refine lv_aload_n hx hb dX11_freeze_29 rfl (lv_at hl 0 rfl) (hp_n (n := 30) rfl ?_)
      refine lv_iconst (v := 3) hx hb dX11_freeze_30 (by decide) (hp_n (n := 31) rfl ?_)
      refine q_ci (pc' := 34) Bh_2 (hp_runV (As := [.int 3]) (rest := []) C Bh_2 (t_X11_refuse Γ l α Bh_2.2.2.1 a0 (cw_k Bh_2.2.2 k0) 3) lb_X11_refuse lv_X11_refuse lk_X11_98 (cw_k Bh_2.2.2 k0) rfl (by decide) rfl hl.1 rfl (Nat.le_of_ble_eq_true rfl) dX11_freeze_31 ⟨Nat.le_refl _, Nat.le_refl _⟩) (fun _ _ h => cw_tr Bh_2.2.2 h (by decide)) rfl (fun rh_8 αh_8 Hh_8 Lh_8 ph_8 Bh_8 => ?_)
      exact q_iret C Bh_8 hr hlk Bh_8.2.2 dX11_freeze_34
abbrev w_X11_show : cw_W := ([301, 400, 401, 402, 403, 453, 454, 556, 600], [], [20, 21, 22, 23, 33], [])
set_option maxRecDepth 100000 in
set_option maxHeartbeats 4000000 in
theorem t_X11_show (Γ : hp_G) (l : Launch) (α : hp_T) (g : GC α) (a0 : Nat) (k0 : hp_K α a0 = 12) (a1 : Int32) (a2 : Int32) (a3 : Int32) : Met l yX11_show (hp_ws yX11_show cX11_show 6 (some .int)) (hp_rm 7 0 0) (hp_Pc Γ α [.ref a0, .int a1, .int a2, .int a3]) (hp_Qi Γ (fun r β => cw w_X11_show α β)) 0 0 (hp_A Γ) := by
  refine hp_start (by decide) ?_
  intro p e s m below meth c C hr hlk B0 hnm
  have C : hp_C Γ p m c cX11_show 6 s ([.ref a0, .int a1, .int a2, .int a3] : List Value).toArray RX11 := C
  have hx := C.1.1
  have hb := C.1.2.1
  have hown := C.1.2.2.2.1
  have hts := C.1.2.2.2.2
  have B : hp_B Γ (cw w_X11_show) s α α s.heap [] := ⟨B0.1, B0.2.1, cw_rf g⟩
  have lit0 : (0 : Int32).toInt = 0 := by decide
  have lit1 : (1 : Int32).toInt = 1 := by decide
  have lit2 : (2 : Int32).toInt = 2 := by decide
  have lit5 : (5 : Int32).toInt = 5 := by decide
  have hl := lv_entry ([.ref a0, .int a1, .int a2, .int a3]) (n := 6) (Nat.le_of_ble_eq_true rfl)
  show W p l e (hp_rm 7 0 0) s m ([.ref a0, .int a1, .int a2, .int a3] : List Value).toArray below meth c s.heap [] 0 0 (MQ below (hp_Qi Γ (fun r β => cw w_X11_show α β)) ([.ref a0, .int a1, .int a2, .int a3] : List Value).toArray s 0 0 (hp_A Γ)) (entryFrame m ([.ref a0, .int a1, .int a2, .int a3] : List Value).toArray 6)
  rw [lg_entry_eq]
  generalize (lg_sl ([.ref a0, .int a1, .int a2, .int a3]) ++ List.replicate (6 - (lg_sl ([.ref a0, .int a1, .int a2, .int a3])).length) Slot.unset).toArray = ls at hl ⊢
  have hl : lv_has ls 6 [(0, .ref a0), (1, .int a1), (2, .int a2), (3, .int a3)] := hl
  refine lv_iload_n hx hb dX11_show_0 rfl (lv_at hl 3 rfl) (hp_n (n := 1) rfl ?_)
  refine lv_if_ge (tgt := 10) hx hb dX11_show_1 (by decide) (fun c_1 => ?_) (fun c_1 => hp_n (n := 4) rfl ?_)
  ·
    have jc_1 := il_le c_1
    refine lv_aload_n hx hb dX11_show_10 rfl (lv_at hl 0 rfl) (hp_n (n := 11) rfl ?_)
    refine q_getr (κ := 12) (k := 1) (φ := 601) (pc' := 14) C B (cw_k B.2.2 k0) fl_X11_16 rfl rfl rfl (cw_r B.2.2 k0 rfl rfl (by decide) (by decide)) dX11_show_11 rfl (fun b_2 eb_2 kb_2 => ?_)
    refine lv_iload_n hx hb dX11_show_14 rfl (lv_at hl 1 rfl) (hp_n (n := 15) rfl ?_)
    refine q_cq (pc' := 18) B (hp_runV (As := [.int a1]) (rest := []) C B (t_X10_watcherAt Γ l α B.2.2.1 b_2 (cw_k B.2.2 kb_2) a1) lb_X10_watcherAt lv_X10_watcherAt lk_X11_220 (cw_k B.2.2 kb_2) rfl (by decide) rfl hl.1 rfl (Nat.le_of_ble_eq_true rfl) dX11_show_15 ⟨Nat.le_refl _, Nat.le_refl _⟩) (fun _ _ h => by rw [h.1]; exact B.2.2) rfl (fun rh_3 αh_3 Hh_3 Lh_3 ph_3 Bh_3 => ?_)
    rw [ph_3.1] at Bh_3
    rcases rh_3 with _ | bh_3
    ·
      refine lv_astoreN (lv' := [(4, .null), (0, .ref a0), (1, .int a1), (2, .int a2), (3, .int a3)]) hx hb dX11_show_18 hl (by decide) rfl (fun ls hl => hp_n (n := 20) rfl ?_)
      refine lv_aload_n hx hb dX11_show_20 rfl (lv_at hl 1 rfl) (hp_n (n := 21) rfl ?_)
      refine q_gets (κ := 12) (k := 1) (φ := 601) (pc' := 24) C Bh_3 (cw_k Bh_3.2.2 k0) fl_X11_16 rfl rfl rfl eb_2 dX11_show_21 rfl ?_
      refine lv_iload_n hx hb dX11_show_24 rfl (lv_at hl 3 rfl) (hp_n (n := 25) rfl ?_)
      refine q_cq (pc' := 28) Bh_3 (hp_runV (As := [.int a2]) (rest := []) C Bh_3 (t_X10_logAt Γ l α Bh_3.2.2.1 b_2 (cw_k Bh_3.2.2 kb_2) a2) lb_X10_logAt lv_X10_logAt lk_X11_163 (cw_k Bh_3.2.2 kb_2) rfl (by decide) rfl hl.1 rfl (Nat.le_of_ble_eq_true rfl) dX11_show_25 ⟨Nat.le_refl _, Nat.le_refl _⟩) (fun _ _ h => by rw [h.1]; exact Bh_3.2.2) rfl (fun rh_4 αh_4 Hh_4 Lh_4 ph_4 Bh_4 => ?_)
      rw [ph_4.1] at Bh_4
      rcases rh_4 with _ | bh_4
      ·
        refine lv_astoreN (lv' := [(5, .null), (4, .null), (0, .ref a0), (1, .int a1), (2, .int a2), (3, .int a3)]) hx hb dX11_show_28 hl (by decide) rfl (fun ls hl => hp_n (n := 30) rfl ?_)
        refine lv_aloadN hx hb dX11_show_30 (lv_at hl 1 rfl) (hp_n (n := 32) rfl ?_)
        have J40 : ∀ (Hh_5 : Heap) (Lh_5 : List Loc) (Bh_5 : hp_B Γ (cw w_X11_show) s α α Hh_5 Lh_5) (ls : Array Slot) (hl : lv_has ls 6 [(0, .ref a0)]), W p l e (hp_rm 7 0 0) s m ([.ref a0, .int a1, .int a2, .int a3] : List Value).toArray below meth c Hh_5 Lh_5 0 0 (MQ below (hp_Qi Γ (fun r β => cw w_X11_show α β)) ([.ref a0, .int a1, .int a2, .int a3] : List Value).toArray s 0 0 (hp_A Γ)) (F0 m 40 ls []) := by
          intro Hh_5 Lh_5 Bh_5 ls hl
          refine lv_aload_n hx hb dX11_show_40 rfl (lv_at hl 0 rfl) (hp_n (n := 41) rfl ?_)
          refine lv_iconst (v := 2) hx hb dX11_show_41 (by decide) (hp_n (n := 42) rfl ?_)
          refine q_ci (pc' := 45) Bh_5 (hp_runV (As := [.int 2]) (rest := []) C Bh_5 (t_X11_refuse Γ l α Bh_5.2.2.1 a0 (cw_k Bh_5.2.2 k0) 2) lb_X11_refuse lv_X11_refuse lk_X11_98 (cw_k Bh_5.2.2 k0) rfl (by decide) rfl hl.1 rfl (Nat.le_of_ble_eq_true rfl) dX11_show_42 ⟨Nat.le_refl _, Nat.le_refl _⟩) (fun _ _ h => cw_tr Bh_5.2.2 h (by decide)) rfl (fun rh_6 αh_6 Hh_6 Lh_6 ph_6 Bh_6 => ?_)
          exact q_iret C Bh_6 hr hlk Bh_6.2.2 dX11_show_45
        refine lv_ifnullN (tgt := 40) hx hb dX11_show_32 (by decide) ?_
        exact J40 Hh_4 Lh_4 Bh_4 ls (lv_sub hl [2] rfl)
      ·
        have kbh_4 : hp_K α bh_4 = 3 := cw_k' Bh_4.2.2 (ph_4.2 bh_4 rfl)
        refine lv_astore (lv' := [(5, .ref bh_4), (4, .null), (0, .ref a0), (1, .int a1), (2, .int a2), (3, .int a3)]) hx hb dX11_show_28 hl (by decide) rfl (fun ls hl => hp_n (n := 30) rfl ?_)
        refine lv_aloadN hx hb dX11_show_30 (lv_at hl 1 rfl) (hp_n (n := 32) rfl ?_)
        have J40 : ∀ (Hh_7 : Heap) (Lh_7 : List Loc) (Bh_7 : hp_B Γ (cw w_X11_show) s α α Hh_7 Lh_7) (ls : Array Slot) (hl : lv_has ls 6 [(0, .ref a0)]), W p l e (hp_rm 7 0 0) s m ([.ref a0, .int a1, .int a2, .int a3] : List Value).toArray below meth c Hh_7 Lh_7 0 0 (MQ below (hp_Qi Γ (fun r β => cw w_X11_show α β)) ([.ref a0, .int a1, .int a2, .int a3] : List Value).toArray s 0 0 (hp_A Γ)) (F0 m 40 ls []) := by
          intro Hh_7 Lh_7 Bh_7 ls hl
          refine lv_aload_n hx hb dX11_show_40 rfl (lv_at hl 0 rfl) (hp_n (n := 41) rfl ?_)
          refine lv_iconst (v := 2) hx hb dX11_show_41 (by decide) (hp_n (n := 42) rfl ?_)
          refine q_ci (pc' := 45) Bh_7 (hp_runV (As := [.int 2]) (rest := []) C Bh_7 (t_X11_refuse Γ l α Bh_7.2.2.1 a0 (cw_k Bh_7.2.2 k0) 2) lb_X11_refuse lv_X11_refuse lk_X11_98 (cw_k Bh_7.2.2 k0) rfl (by decide) rfl hl.1 rfl (Nat.le_of_ble_eq_true rfl) dX11_show_42 ⟨Nat.le_refl _, Nat.le_refl _⟩) (fun _ _ h => cw_tr Bh_7.2.2 h (by decide)) rfl (fun rh_8 αh_8 Hh_8 Lh_8 ph_8 Bh_8 => ?_)
          exact q_iret C Bh_8 hr hlk Bh_8.2.2 dX11_show_45
        refine lv_ifnullN (tgt := 40) hx hb dX11_show_32 (by decide) ?_
        exact J40 Hh_4 Lh_4 Bh_4 ls (lv_sub hl [2] rfl)
    ·
      have kbh_3 : hp_K α bh_3 = 8 := cw_k' Bh_3.2.2 (ph_3.2 bh_3 rfl)
      refine lv_astore (lv' := [(4, .ref bh_3), (0, .ref a0), (1, .int a1), (2, .int a2), (3, .int a3)]) hx hb dX11_show_18 hl (by decide) rfl (fun ls hl => hp_n (n := 20) rfl ?_)
      refine lv_aload_n hx hb dX11_show_20 rfl (lv_at hl 1 rfl) (hp_n (n := 21) rfl ?_)
      refine q_gets (κ := 12) (k := 1) (φ := 601) (pc' := 24) C Bh_3 (cw_k Bh_3.2.2 k0) fl_X11_16 rfl rfl rfl eb_2 dX11_show_21 rfl ?_
      refine lv_iload_n hx hb dX11_show_24 rfl (lv_at hl 3 rfl) (hp_n (n := 25) rfl ?_)
      refine q_cq (pc' := 28) Bh_3 (hp_runV (As := [.int a2]) (rest := []) C Bh_3 (t_X10_logAt Γ l α Bh_3.2.2.1 b_2 (cw_k Bh_3.2.2 kb_2) a2) lb_X10_logAt lv_X10_logAt lk_X11_163 (cw_k Bh_3.2.2 kb_2) rfl (by decide) rfl hl.1 rfl (Nat.le_of_ble_eq_true rfl) dX11_show_25 ⟨Nat.le_refl _, Nat.le_refl _⟩) (fun _ _ h => by rw [h.1]; exact Bh_3.2.2) rfl (fun rh_9 αh_9 Hh_9 Lh_9 ph_9 Bh_9 => ?_)
      rw [ph_9.1] at Bh_9
      rcases rh_9 with _ | bh_9
      ·
        refine lv_astoreN (lv' := [(5, .null), (4, .ref bh_3), (0, .ref a0), (1, .int a1), (2, .int a2), (3, .int a3)]) hx hb dX11_show_28 hl (by decide) rfl (fun ls hl => hp_n (n := 30) rfl ?_)
        refine lv_aload hx hb dX11_show_30 (lv_at hl 1 rfl) (hp_n (n := 32) rfl ?_)
        have J40 : ∀ (Hh_10 : Heap) (Lh_10 : List Loc) (Bh_10 : hp_B Γ (cw w_X11_show) s α α Hh_10 Lh_10) (ls : Array Slot) (hl : lv_has ls 6 [(0, .ref a0)]), W p l e (hp_rm 7 0 0) s m ([.ref a0, .int a1, .int a2, .int a3] : List Value).toArray below meth c Hh_10 Lh_10 0 0 (MQ below (hp_Qi Γ (fun r β => cw w_X11_show α β)) ([.ref a0, .int a1, .int a2, .int a3] : List Value).toArray s 0 0 (hp_A Γ)) (F0 m 40 ls []) := by
          intro Hh_10 Lh_10 Bh_10 ls hl
          refine lv_aload_n hx hb dX11_show_40 rfl (lv_at hl 0 rfl) (hp_n (n := 41) rfl ?_)
          refine lv_iconst (v := 2) hx hb dX11_show_41 (by decide) (hp_n (n := 42) rfl ?_)
          refine q_ci (pc' := 45) Bh_10 (hp_runV (As := [.int 2]) (rest := []) C Bh_10 (t_X11_refuse Γ l α Bh_10.2.2.1 a0 (cw_k Bh_10.2.2 k0) 2) lb_X11_refuse lv_X11_refuse lk_X11_98 (cw_k Bh_10.2.2 k0) rfl (by decide) rfl hl.1 rfl (Nat.le_of_ble_eq_true rfl) dX11_show_42 ⟨Nat.le_refl _, Nat.le_refl _⟩) (fun _ _ h => cw_tr Bh_10.2.2 h (by decide)) rfl (fun rh_11 αh_11 Hh_11 Lh_11 ph_11 Bh_11 => ?_)
          exact q_iret C Bh_11 hr hlk Bh_11.2.2 dX11_show_45
        refine lv_ifnull hx hb dX11_show_32 (hp_n (n := 35) rfl ?_)
        refine lv_aloadN hx hb dX11_show_35 (lv_at hl 0 rfl) (hp_n (n := 37) rfl ?_)
        refine lv_ifnonnullN hx hb dX11_show_37 (hp_n (n := 40) rfl ?_)
        exact J40 Hh_9 Lh_9 Bh_9 ls (lv_sub hl [2] rfl)
      ·
        have kbh_9 : hp_K α bh_9 = 3 := cw_k' Bh_9.2.2 (ph_9.2 bh_9 rfl)
        refine lv_astore (lv' := [(5, .ref bh_9), (4, .ref bh_3), (0, .ref a0), (1, .int a1), (2, .int a2), (3, .int a3)]) hx hb dX11_show_28 hl (by decide) rfl (fun ls hl => hp_n (n := 30) rfl ?_)
        refine lv_aload hx hb dX11_show_30 (lv_at hl 1 rfl) (hp_n (n := 32) rfl ?_)
        have J40 : ∀ (Hh_12 : Heap) (Lh_12 : List Loc) (Bh_12 : hp_B Γ (cw w_X11_show) s α α Hh_12 Lh_12) (ls : Array Slot) (hl : lv_has ls 6 [(0, .ref a0)]), W p l e (hp_rm 7 0 0) s m ([.ref a0, .int a1, .int a2, .int a3] : List Value).toArray below meth c Hh_12 Lh_12 0 0 (MQ below (hp_Qi Γ (fun r β => cw w_X11_show α β)) ([.ref a0, .int a1, .int a2, .int a3] : List Value).toArray s 0 0 (hp_A Γ)) (F0 m 40 ls []) := by
          intro Hh_12 Lh_12 Bh_12 ls hl
          refine lv_aload_n hx hb dX11_show_40 rfl (lv_at hl 0 rfl) (hp_n (n := 41) rfl ?_)
          refine lv_iconst (v := 2) hx hb dX11_show_41 (by decide) (hp_n (n := 42) rfl ?_)
          refine q_ci (pc' := 45) Bh_12 (hp_runV (As := [.int 2]) (rest := []) C Bh_12 (t_X11_refuse Γ l α Bh_12.2.2.1 a0 (cw_k Bh_12.2.2 k0) 2) lb_X11_refuse lv_X11_refuse lk_X11_98 (cw_k Bh_12.2.2 k0) rfl (by decide) rfl hl.1 rfl (Nat.le_of_ble_eq_true rfl) dX11_show_42 ⟨Nat.le_refl _, Nat.le_refl _⟩) (fun _ _ h => cw_tr Bh_12.2.2 h (by decide)) rfl (fun rh_13 αh_13 Hh_13 Lh_13 ph_13 Bh_13 => ?_)
          exact q_iret C Bh_13 hr hlk Bh_13.2.2 dX11_show_45
        refine lv_ifnull hx hb dX11_show_32 (hp_n (n := 35) rfl ?_)
        refine lv_aload hx hb dX11_show_35 (lv_at hl 0 rfl) (hp_n (n := 37) rfl ?_)
        refine lv_ifnonnull (tgt := 46) hx hb dX11_show_37 (by decide) ?_
        refine lv_iload_n hx hb dX11_show_46 rfl (lv_at hl 5 rfl) (hp_n (n := 47) rfl ?_)
        refine lv_aload hx hb dX11_show_47 (lv_at hl 0 rfl) (hp_n (n := 49) rfl ?_)
        refine q_geti (κ := 3) (k := 2) (φ := 152) (pc' := 52) C Bh_9 (cw_k Bh_9.2.2 kbh_9) fl_X11_167 rfl rfl rfl dX11_show_49 rfl (fun x_14 ex_14 => ?_)
        refine lv_icmp_le (tgt := 61) hx hb dX11_show_52 (by decide) (fun c_15 => ?_) (fun c_15 => hp_n (n := 55) rfl ?_)
        ·
          have jc_15 := il_le c_15
          refine lv_aload_n hx hb dX11_show_61 rfl (lv_at hl 2 rfl) (hp_n (n := 62) rfl ?_)
          refine lv_aload_n hx hb dX11_show_62 rfl (lv_at hl 2 rfl) (hp_n (n := 63) rfl ?_)
          refine q_gets (κ := 12) (k := 1) (φ := 601) (pc' := 66) C Bh_9 (cw_k Bh_9.2.2 k0) fl_X11_16 rfl rfl rfl eb_2 dX11_show_63 rfl ?_
          refine lv_aload hx hb dX11_show_66 (lv_at hl 1 rfl) (hp_n (n := 68) rfl ?_)
          refine lv_aload hx hb dX11_show_68 (lv_at hl 0 rfl) (hp_n (n := 70) rfl ?_)
          refine lv_iload_n hx hb dX11_show_70 rfl (lv_at hl 5 rfl) (hp_n (n := 71) rfl ?_)
          refine q_ci (pc' := 74) Bh_9 (hp_runV (As := [va_rf (some bh_3), .ref bh_9, .int a3]) (rest := [.ref a0]) C Bh_9 (t_X10_showTo Γ l α Bh_9.2.2.1 b_2 (cw_k Bh_9.2.2 kb_2) (some bh_3) (fun b h => by cases h; exact (cw_k Bh_9.2.2 kbh_3)) bh_9 (cw_k Bh_9.2.2 kbh_9) a3) lb_X10_showTo lv_X10_showTo lk_X11_247 (cw_k Bh_9.2.2 kb_2) rfl (by decide) rfl hl.1 rfl (Nat.le_of_ble_eq_true rfl) dX11_show_71 ⟨Nat.le_refl _, Nat.le_refl _⟩) (fun _ _ h => cw_tr Bh_9.2.2 h (by decide)) rfl (fun rh_16 αh_16 Hh_16 Lh_16 ph_16 Bh_16 => ?_)
          refine q_ci (pc' := 77) Bh_16 (hp_runV (As := [.int rh_16]) (rest := []) C Bh_16 (t_X11_answer Γ l αh_16 Bh_16.2.2.1 a0 (cw_k Bh_16.2.2 k0) rh_16) lb_X11_answer lv_X11_answer lk_X11_115 (cw_k Bh_16.2.2 k0) rfl (by decide) rfl hl.1 rfl (Nat.le_of_ble_eq_true rfl) dX11_show_74 ⟨Nat.le_refl _, Nat.le_refl _⟩) (fun _ _ h => cw_tr Bh_16.2.2 h (by decide)) rfl (fun rh_17 αh_17 Hh_17 Lh_17 ph_17 Bh_17 => ?_)
          exact q_iret C Bh_17 hr hlk Bh_17.2.2 dX11_show_77
        ·
          have jc_15 := il_nle c_15
          refine lv_aload_n hx hb dX11_show_55 rfl (lv_at hl 2 rfl) (hp_n (n := 56) rfl ?_)
          refine lv_iconst (v := 5) hx hb dX11_show_56 (by decide) (hp_n (n := 57) rfl ?_)
          refine q_ci (pc' := 60) Bh_9 (hp_runV (As := [.int 5]) (rest := []) C Bh_9 (t_X11_refuse Γ l α Bh_9.2.2.1 a0 (cw_k Bh_9.2.2 k0) 5) lb_X11_refuse lv_X11_refuse lk_X11_98 (cw_k Bh_9.2.2 k0) rfl (by decide) rfl hl.1 rfl (Nat.le_of_ble_eq_true rfl) dX11_show_57 ⟨Nat.le_refl _, Nat.le_refl _⟩) (fun _ _ h => cw_tr Bh_9.2.2 h (by decide)) rfl (fun rh_18 αh_18 Hh_18 Lh_18 ph_18 Bh_18 => ?_)
          exact q_iret C Bh_18 hr hlk Bh_18.2.2 dX11_show_60
  ·
    have jc_1 := il_nle c_1
    refine lv_aload_n hx hb dX11_show_4 rfl (lv_at hl 0 rfl) (hp_n (n := 5) rfl ?_)
    refine lv_iconst (v := 1) hx hb dX11_show_5 (by decide) (hp_n (n := 6) rfl ?_)
    refine q_ci (pc' := 9) B (hp_runV (As := [.int 1]) (rest := []) C B (t_X11_refuse Γ l α B.2.2.1 a0 (cw_k B.2.2 k0) 1) lb_X11_refuse lv_X11_refuse lk_X11_98 (cw_k B.2.2 k0) rfl (by decide) rfl hl.1 rfl (Nat.le_of_ble_eq_true rfl) dX11_show_6 ⟨Nat.le_refl _, Nat.le_refl _⟩) (fun _ _ h => cw_tr B.2.2 h (by decide)) rfl (fun rh_19 αh_19 Hh_19 Lh_19 ph_19 Bh_19 => ?_)
    exact q_iret C Bh_19 hr hlk Bh_19.2.2 dX11_show_9
abbrev w_X11_meet : cw_W := ([301, 400, 401, 403, 453, 454, 556, 600], [], [20, 21, 22, 23, 33], [])
set_option maxRecDepth 100000 in
set_option maxHeartbeats 4000000 in
theorem t_X11_meet (Γ : hp_G) (l : Launch) (α : hp_T) (g : GC α) (a0 : Nat) (k0 : hp_K α a0 = 12) (a1 : Int32) (a2 : Int32) (a3 : Int32) : Met l yX11_meet (hp_ws yX11_meet cX11_meet 7 (some .int)) (hp_rm 7 0 0) (hp_Pc Γ α [.ref a0, .int a1, .int a2, .int a3]) (hp_Qi Γ (fun r β => cw w_X11_meet α β)) 0 0 (hp_A Γ) := by
  refine hp_start (by decide) ?_
  intro p e s m below meth c C hr hlk B0 hnm
  have C : hp_C Γ p m c cX11_meet 7 s ([.ref a0, .int a1, .int a2, .int a3] : List Value).toArray RX11 := C
  have hx := C.1.1
  have hb := C.1.2.1
  have hown := C.1.2.2.2.1
  have hts := C.1.2.2.2.2
  have B : hp_B Γ (cw w_X11_meet) s α α s.heap [] := ⟨B0.1, B0.2.1, cw_rf g⟩
  have lit2 : (2 : Int32).toInt = 2 := by decide
  have hl := lv_entry ([.ref a0, .int a1, .int a2, .int a3]) (n := 7) (Nat.le_of_ble_eq_true rfl)
  show W p l e (hp_rm 7 0 0) s m ([.ref a0, .int a1, .int a2, .int a3] : List Value).toArray below meth c s.heap [] 0 0 (MQ below (hp_Qi Γ (fun r β => cw w_X11_meet α β)) ([.ref a0, .int a1, .int a2, .int a3] : List Value).toArray s 0 0 (hp_A Γ)) (entryFrame m ([.ref a0, .int a1, .int a2, .int a3] : List Value).toArray 7)
  rw [lg_entry_eq]
  generalize (lg_sl ([.ref a0, .int a1, .int a2, .int a3]) ++ List.replicate (7 - (lg_sl ([.ref a0, .int a1, .int a2, .int a3])).length) Slot.unset).toArray = ls at hl ⊢
  have hl : lv_has ls 7 [(0, .ref a0), (1, .int a1), (2, .int a2), (3, .int a3)] := hl
  refine lv_aload_n hx hb dX11_meet_0 rfl (lv_at hl 0 rfl) (hp_n (n := 1) rfl ?_)
  refine q_getr (κ := 12) (k := 1) (φ := 601) (pc' := 4) C B (cw_k B.2.2 k0) fl_X11_16 rfl rfl rfl (cw_r B.2.2 k0 rfl rfl (by decide) (by decide)) dX11_meet_1 rfl (fun b_1 eb_1 kb_1 => ?_)
  refine lv_iload_n hx hb dX11_meet_4 rfl (lv_at hl 1 rfl) (hp_n (n := 5) rfl ?_)
  refine q_cq (pc' := 8) B (hp_runV (As := [.int a1]) (rest := []) C B (t_X10_watcherAt Γ l α B.2.2.1 b_1 (cw_k B.2.2 kb_1) a1) lb_X10_watcherAt lv_X10_watcherAt lk_X11_220 (cw_k B.2.2 kb_1) rfl (by decide) rfl hl.1 rfl (Nat.le_of_ble_eq_true rfl) dX11_meet_5 ⟨Nat.le_refl _, Nat.le_refl _⟩) (fun _ _ h => by rw [h.1]; exact B.2.2) rfl (fun rh_2 αh_2 Hh_2 Lh_2 ph_2 Bh_2 => ?_)
  rw [ph_2.1] at Bh_2
  rcases rh_2 with _ | bh_2
  ·
    refine lv_astoreN (lv' := [(4, .null), (0, .ref a0), (1, .int a1), (2, .int a2), (3, .int a3)]) hx hb dX11_meet_8 hl (by decide) rfl (fun ls hl => hp_n (n := 10) rfl ?_)
    refine lv_aload_n hx hb dX11_meet_10 rfl (lv_at hl 1 rfl) (hp_n (n := 11) rfl ?_)
    refine q_gets (κ := 12) (k := 1) (φ := 601) (pc' := 14) C Bh_2 (cw_k Bh_2.2.2 k0) fl_X11_16 rfl rfl rfl eb_1 dX11_meet_11 rfl ?_
    refine lv_iload_n hx hb dX11_meet_14 rfl (lv_at hl 3 rfl) (hp_n (n := 15) rfl ?_)
    refine q_cq (pc' := 18) Bh_2 (hp_runV (As := [.int a2]) (rest := []) C Bh_2 (t_X10_watcherAt Γ l α Bh_2.2.2.1 b_1 (cw_k Bh_2.2.2 kb_1) a2) lb_X10_watcherAt lv_X10_watcherAt lk_X11_220 (cw_k Bh_2.2.2 kb_1) rfl (by decide) rfl hl.1 rfl (Nat.le_of_ble_eq_true rfl) dX11_meet_15 ⟨Nat.le_refl _, Nat.le_refl _⟩) (fun _ _ h => by rw [h.1]; exact Bh_2.2.2) rfl (fun rh_3 αh_3 Hh_3 Lh_3 ph_3 Bh_3 => ?_)
    rw [ph_3.1] at Bh_3
    rcases rh_3 with _ | bh_3
    ·
      refine lv_astoreN (lv' := [(5, .null), (4, .null), (0, .ref a0), (1, .int a1), (2, .int a2), (3, .int a3)]) hx hb dX11_meet_18 hl (by decide) rfl (fun ls hl => hp_n (n := 20) rfl ?_)
      refine lv_aload_n hx hb dX11_meet_20 rfl (lv_at hl 2 rfl) (hp_n (n := 21) rfl ?_)
      refine q_gets (κ := 12) (k := 1) (φ := 601) (pc' := 24) C Bh_3 (cw_k Bh_3.2.2 k0) fl_X11_16 rfl rfl rfl eb_1 dX11_meet_21 rfl ?_
      refine lv_iload_n hx hb dX11_meet_24 rfl (lv_at hl 5 rfl) (hp_n (n := 25) rfl ?_)
      refine q_cq (pc' := 28) Bh_3 (hp_runV (As := [.int a3]) (rest := []) C Bh_3 (t_X10_logAt Γ l α Bh_3.2.2.1 b_1 (cw_k Bh_3.2.2 kb_1) a3) lb_X10_logAt lv_X10_logAt lk_X11_163 (cw_k Bh_3.2.2 kb_1) rfl (by decide) rfl hl.1 rfl (Nat.le_of_ble_eq_true rfl) dX11_meet_25 ⟨Nat.le_refl _, Nat.le_refl _⟩) (fun _ _ h => by rw [h.1]; exact Bh_3.2.2) rfl (fun rh_4 αh_4 Hh_4 Lh_4 ph_4 Bh_4 => ?_)
      rw [ph_4.1] at Bh_4
      rcases rh_4 with _ | bh_4
      ·
        refine lv_astoreN (lv' := [(6, .null), (5, .null), (4, .null), (0, .ref a0), (1, .int a1), (2, .int a2), (3, .int a3)]) hx hb dX11_meet_28 hl (by decide) rfl (fun ls hl => hp_n (n := 30) rfl ?_)
        refine lv_aloadN hx hb dX11_meet_30 (lv_at hl 2 rfl) (hp_n (n := 32) rfl ?_)
        have J45 : ∀ (Hh_5 : Heap) (Lh_5 : List Loc) (Bh_5 : hp_B Γ (cw w_X11_meet) s α α Hh_5 Lh_5) (ls : Array Slot) (hl : lv_has ls 7 [(0, .ref a0)]), W p l e (hp_rm 7 0 0) s m ([.ref a0, .int a1, .int a2, .int a3] : List Value).toArray below meth c Hh_5 Lh_5 0 0 (MQ below (hp_Qi Γ (fun r β => cw w_X11_meet α β)) ([.ref a0, .int a1, .int a2, .int a3] : List Value).toArray s 0 0 (hp_A Γ)) (F0 m 45 ls []) := by
          intro Hh_5 Lh_5 Bh_5 ls hl
          refine lv_aload_n hx hb dX11_meet_45 rfl (lv_at hl 0 rfl) (hp_n (n := 46) rfl ?_)
          refine lv_iconst (v := 2) hx hb dX11_meet_46 (by decide) (hp_n (n := 47) rfl ?_)
          refine q_ci (pc' := 50) Bh_5 (hp_runV (As := [.int 2]) (rest := []) C Bh_5 (t_X11_refuse Γ l α Bh_5.2.2.1 a0 (cw_k Bh_5.2.2 k0) 2) lb_X11_refuse lv_X11_refuse lk_X11_98 (cw_k Bh_5.2.2 k0) rfl (by decide) rfl hl.1 rfl (Nat.le_of_ble_eq_true rfl) dX11_meet_47 ⟨Nat.le_refl _, Nat.le_refl _⟩) (fun _ _ h => cw_tr Bh_5.2.2 h (by decide)) rfl (fun rh_6 αh_6 Hh_6 Lh_6 ph_6 Bh_6 => ?_)
          exact q_iret C Bh_6 hr hlk Bh_6.2.2 dX11_meet_50
        refine lv_ifnullN (tgt := 45) hx hb dX11_meet_32 (by decide) ?_
        exact J45 Hh_4 Lh_4 Bh_4 ls (lv_sub hl [3] rfl)
      ·
        have kbh_4 : hp_K α bh_4 = 3 := cw_k' Bh_4.2.2 (ph_4.2 bh_4 rfl)
        refine lv_astore (lv' := [(6, .ref bh_4), (5, .null), (4, .null), (0, .ref a0), (1, .int a1), (2, .int a2), (3, .int a3)]) hx hb dX11_meet_28 hl (by decide) rfl (fun ls hl => hp_n (n := 30) rfl ?_)
        refine lv_aloadN hx hb dX11_meet_30 (lv_at hl 2 rfl) (hp_n (n := 32) rfl ?_)
        have J45 : ∀ (Hh_7 : Heap) (Lh_7 : List Loc) (Bh_7 : hp_B Γ (cw w_X11_meet) s α α Hh_7 Lh_7) (ls : Array Slot) (hl : lv_has ls 7 [(0, .ref a0)]), W p l e (hp_rm 7 0 0) s m ([.ref a0, .int a1, .int a2, .int a3] : List Value).toArray below meth c Hh_7 Lh_7 0 0 (MQ below (hp_Qi Γ (fun r β => cw w_X11_meet α β)) ([.ref a0, .int a1, .int a2, .int a3] : List Value).toArray s 0 0 (hp_A Γ)) (F0 m 45 ls []) := by
          intro Hh_7 Lh_7 Bh_7 ls hl
          refine lv_aload_n hx hb dX11_meet_45 rfl (lv_at hl 0 rfl) (hp_n (n := 46) rfl ?_)
          refine lv_iconst (v := 2) hx hb dX11_meet_46 (by decide) (hp_n (n := 47) rfl ?_)
          refine q_ci (pc' := 50) Bh_7 (hp_runV (As := [.int 2]) (rest := []) C Bh_7 (t_X11_refuse Γ l α Bh_7.2.2.1 a0 (cw_k Bh_7.2.2 k0) 2) lb_X11_refuse lv_X11_refuse lk_X11_98 (cw_k Bh_7.2.2 k0) rfl (by decide) rfl hl.1 rfl (Nat.le_of_ble_eq_true rfl) dX11_meet_47 ⟨Nat.le_refl _, Nat.le_refl _⟩) (fun _ _ h => cw_tr Bh_7.2.2 h (by decide)) rfl (fun rh_8 αh_8 Hh_8 Lh_8 ph_8 Bh_8 => ?_)
          exact q_iret C Bh_8 hr hlk Bh_8.2.2 dX11_meet_50
        refine lv_ifnullN (tgt := 45) hx hb dX11_meet_32 (by decide) ?_
        exact J45 Hh_4 Lh_4 Bh_4 ls (lv_sub hl [3] rfl)
    ·
      have kbh_3 : hp_K α bh_3 = 8 := cw_k' Bh_3.2.2 (ph_3.2 bh_3 rfl)
      refine lv_astore (lv' := [(5, .ref bh_3), (4, .null), (0, .ref a0), (1, .int a1), (2, .int a2), (3, .int a3)]) hx hb dX11_meet_18 hl (by decide) rfl (fun ls hl => hp_n (n := 20) rfl ?_)
      refine lv_aload_n hx hb dX11_meet_20 rfl (lv_at hl 2 rfl) (hp_n (n := 21) rfl ?_)
      refine q_gets (κ := 12) (k := 1) (φ := 601) (pc' := 24) C Bh_3 (cw_k Bh_3.2.2 k0) fl_X11_16 rfl rfl rfl eb_1 dX11_meet_21 rfl ?_
      refine lv_iload_n hx hb dX11_meet_24 rfl (lv_at hl 5 rfl) (hp_n (n := 25) rfl ?_)
      refine q_cq (pc' := 28) Bh_3 (hp_runV (As := [.int a3]) (rest := []) C Bh_3 (t_X10_logAt Γ l α Bh_3.2.2.1 b_1 (cw_k Bh_3.2.2 kb_1) a3) lb_X10_logAt lv_X10_logAt lk_X11_163 (cw_k Bh_3.2.2 kb_1) rfl (by decide) rfl hl.1 rfl (Nat.le_of_ble_eq_true rfl) dX11_meet_25 ⟨Nat.le_refl _, Nat.le_refl _⟩) (fun _ _ h => by rw [h.1]; exact Bh_3.2.2) rfl (fun rh_9 αh_9 Hh_9 Lh_9 ph_9 Bh_9 => ?_)
      rw [ph_9.1] at Bh_9
      rcases rh_9 with _ | bh_9
      ·
        refine lv_astoreN (lv' := [(6, .null), (5, .ref bh_3), (4, .null), (0, .ref a0), (1, .int a1), (2, .int a2), (3, .int a3)]) hx hb dX11_meet_28 hl (by decide) rfl (fun ls hl => hp_n (n := 30) rfl ?_)
        refine lv_aloadN hx hb dX11_meet_30 (lv_at hl 2 rfl) (hp_n (n := 32) rfl ?_)
        have J45 : ∀ (Hh_10 : Heap) (Lh_10 : List Loc) (Bh_10 : hp_B Γ (cw w_X11_meet) s α α Hh_10 Lh_10) (ls : Array Slot) (hl : lv_has ls 7 [(0, .ref a0)]), W p l e (hp_rm 7 0 0) s m ([.ref a0, .int a1, .int a2, .int a3] : List Value).toArray below meth c Hh_10 Lh_10 0 0 (MQ below (hp_Qi Γ (fun r β => cw w_X11_meet α β)) ([.ref a0, .int a1, .int a2, .int a3] : List Value).toArray s 0 0 (hp_A Γ)) (F0 m 45 ls []) := by
          intro Hh_10 Lh_10 Bh_10 ls hl
          refine lv_aload_n hx hb dX11_meet_45 rfl (lv_at hl 0 rfl) (hp_n (n := 46) rfl ?_)
          refine lv_iconst (v := 2) hx hb dX11_meet_46 (by decide) (hp_n (n := 47) rfl ?_)
          refine q_ci (pc' := 50) Bh_10 (hp_runV (As := [.int 2]) (rest := []) C Bh_10 (t_X11_refuse Γ l α Bh_10.2.2.1 a0 (cw_k Bh_10.2.2 k0) 2) lb_X11_refuse lv_X11_refuse lk_X11_98 (cw_k Bh_10.2.2 k0) rfl (by decide) rfl hl.1 rfl (Nat.le_of_ble_eq_true rfl) dX11_meet_47 ⟨Nat.le_refl _, Nat.le_refl _⟩) (fun _ _ h => cw_tr Bh_10.2.2 h (by decide)) rfl (fun rh_11 αh_11 Hh_11 Lh_11 ph_11 Bh_11 => ?_)
          exact q_iret C Bh_11 hr hlk Bh_11.2.2 dX11_meet_50
        refine lv_ifnullN (tgt := 45) hx hb dX11_meet_32 (by decide) ?_
        exact J45 Hh_9 Lh_9 Bh_9 ls (lv_sub hl [3] rfl)
      ·
        have kbh_9 : hp_K α bh_9 = 3 := cw_k' Bh_9.2.2 (ph_9.2 bh_9 rfl)
        refine lv_astore (lv' := [(6, .ref bh_9), (5, .ref bh_3), (4, .null), (0, .ref a0), (1, .int a1), (2, .int a2), (3, .int a3)]) hx hb dX11_meet_28 hl (by decide) rfl (fun ls hl => hp_n (n := 30) rfl ?_)
        refine lv_aloadN hx hb dX11_meet_30 (lv_at hl 2 rfl) (hp_n (n := 32) rfl ?_)
        have J45 : ∀ (Hh_12 : Heap) (Lh_12 : List Loc) (Bh_12 : hp_B Γ (cw w_X11_meet) s α α Hh_12 Lh_12) (ls : Array Slot) (hl : lv_has ls 7 [(0, .ref a0)]), W p l e (hp_rm 7 0 0) s m ([.ref a0, .int a1, .int a2, .int a3] : List Value).toArray below meth c Hh_12 Lh_12 0 0 (MQ below (hp_Qi Γ (fun r β => cw w_X11_meet α β)) ([.ref a0, .int a1, .int a2, .int a3] : List Value).toArray s 0 0 (hp_A Γ)) (F0 m 45 ls []) := by
          intro Hh_12 Lh_12 Bh_12 ls hl
          refine lv_aload_n hx hb dX11_meet_45 rfl (lv_at hl 0 rfl) (hp_n (n := 46) rfl ?_)
          refine lv_iconst (v := 2) hx hb dX11_meet_46 (by decide) (hp_n (n := 47) rfl ?_)
          refine q_ci (pc' := 50) Bh_12 (hp_runV (As := [.int 2]) (rest := []) C Bh_12 (t_X11_refuse Γ l α Bh_12.2.2.1 a0 (cw_k Bh_12.2.2 k0) 2) lb_X11_refuse lv_X11_refuse lk_X11_98 (cw_k Bh_12.2.2 k0) rfl (by decide) rfl hl.1 rfl (Nat.le_of_ble_eq_true rfl) dX11_meet_47 ⟨Nat.le_refl _, Nat.le_refl _⟩) (fun _ _ h => cw_tr Bh_12.2.2 h (by decide)) rfl (fun rh_13 αh_13 Hh_13 Lh_13 ph_13 Bh_13 => ?_)
          exact q_iret C Bh_13 hr hlk Bh_13.2.2 dX11_meet_50
        refine lv_ifnullN (tgt := 45) hx hb dX11_meet_32 (by decide) ?_
        exact J45 Hh_9 Lh_9 Bh_9 ls (lv_sub hl [3] rfl)
  ·
    have kbh_2 : hp_K α bh_2 = 8 := cw_k' Bh_2.2.2 (ph_2.2 bh_2 rfl)
    refine lv_astore (lv' := [(4, .ref bh_2), (0, .ref a0), (1, .int a1), (2, .int a2), (3, .int a3)]) hx hb dX11_meet_8 hl (by decide) rfl (fun ls hl => hp_n (n := 10) rfl ?_)
    refine lv_aload_n hx hb dX11_meet_10 rfl (lv_at hl 1 rfl) (hp_n (n := 11) rfl ?_)
    refine q_gets (κ := 12) (k := 1) (φ := 601) (pc' := 14) C Bh_2 (cw_k Bh_2.2.2 k0) fl_X11_16 rfl rfl rfl eb_1 dX11_meet_11 rfl ?_
    refine lv_iload_n hx hb dX11_meet_14 rfl (lv_at hl 3 rfl) (hp_n (n := 15) rfl ?_)
    refine q_cq (pc' := 18) Bh_2 (hp_runV (As := [.int a2]) (rest := []) C Bh_2 (t_X10_watcherAt Γ l α Bh_2.2.2.1 b_1 (cw_k Bh_2.2.2 kb_1) a2) lb_X10_watcherAt lv_X10_watcherAt lk_X11_220 (cw_k Bh_2.2.2 kb_1) rfl (by decide) rfl hl.1 rfl (Nat.le_of_ble_eq_true rfl) dX11_meet_15 ⟨Nat.le_refl _, Nat.le_refl _⟩) (fun _ _ h => by rw [h.1]; exact Bh_2.2.2) rfl (fun rh_14 αh_14 Hh_14 Lh_14 ph_14 Bh_14 => ?_)
    rw [ph_14.1] at Bh_14
    rcases rh_14 with _ | bh_14
    ·
      refine lv_astoreN (lv' := [(5, .null), (4, .ref bh_2), (0, .ref a0), (1, .int a1), (2, .int a2), (3, .int a3)]) hx hb dX11_meet_18 hl (by decide) rfl (fun ls hl => hp_n (n := 20) rfl ?_)
      refine lv_aload_n hx hb dX11_meet_20 rfl (lv_at hl 2 rfl) (hp_n (n := 21) rfl ?_)
      refine q_gets (κ := 12) (k := 1) (φ := 601) (pc' := 24) C Bh_14 (cw_k Bh_14.2.2 k0) fl_X11_16 rfl rfl rfl eb_1 dX11_meet_21 rfl ?_
      refine lv_iload_n hx hb dX11_meet_24 rfl (lv_at hl 5 rfl) (hp_n (n := 25) rfl ?_)
      refine q_cq (pc' := 28) Bh_14 (hp_runV (As := [.int a3]) (rest := []) C Bh_14 (t_X10_logAt Γ l α Bh_14.2.2.1 b_1 (cw_k Bh_14.2.2 kb_1) a3) lb_X10_logAt lv_X10_logAt lk_X11_163 (cw_k Bh_14.2.2 kb_1) rfl (by decide) rfl hl.1 rfl (Nat.le_of_ble_eq_true rfl) dX11_meet_25 ⟨Nat.le_refl _, Nat.le_refl _⟩) (fun _ _ h => by rw [h.1]; exact Bh_14.2.2) rfl (fun rh_15 αh_15 Hh_15 Lh_15 ph_15 Bh_15 => ?_)
      rw [ph_15.1] at Bh_15
      rcases rh_15 with _ | bh_15
      ·
        refine lv_astoreN (lv' := [(6, .null), (5, .null), (4, .ref bh_2), (0, .ref a0), (1, .int a1), (2, .int a2), (3, .int a3)]) hx hb dX11_meet_28 hl (by decide) rfl (fun ls hl => hp_n (n := 30) rfl ?_)
        refine lv_aload hx hb dX11_meet_30 (lv_at hl 2 rfl) (hp_n (n := 32) rfl ?_)
        have J45 : ∀ (Hh_16 : Heap) (Lh_16 : List Loc) (Bh_16 : hp_B Γ (cw w_X11_meet) s α α Hh_16 Lh_16) (ls : Array Slot) (hl : lv_has ls 7 [(0, .ref a0)]), W p l e (hp_rm 7 0 0) s m ([.ref a0, .int a1, .int a2, .int a3] : List Value).toArray below meth c Hh_16 Lh_16 0 0 (MQ below (hp_Qi Γ (fun r β => cw w_X11_meet α β)) ([.ref a0, .int a1, .int a2, .int a3] : List Value).toArray s 0 0 (hp_A Γ)) (F0 m 45 ls []) := by
          intro Hh_16 Lh_16 Bh_16 ls hl
          refine lv_aload_n hx hb dX11_meet_45 rfl (lv_at hl 0 rfl) (hp_n (n := 46) rfl ?_)
          refine lv_iconst (v := 2) hx hb dX11_meet_46 (by decide) (hp_n (n := 47) rfl ?_)
          refine q_ci (pc' := 50) Bh_16 (hp_runV (As := [.int 2]) (rest := []) C Bh_16 (t_X11_refuse Γ l α Bh_16.2.2.1 a0 (cw_k Bh_16.2.2 k0) 2) lb_X11_refuse lv_X11_refuse lk_X11_98 (cw_k Bh_16.2.2 k0) rfl (by decide) rfl hl.1 rfl (Nat.le_of_ble_eq_true rfl) dX11_meet_47 ⟨Nat.le_refl _, Nat.le_refl _⟩) (fun _ _ h => cw_tr Bh_16.2.2 h (by decide)) rfl (fun rh_17 αh_17 Hh_17 Lh_17 ph_17 Bh_17 => ?_)
          exact q_iret C Bh_17 hr hlk Bh_17.2.2 dX11_meet_50
        refine lv_ifnull hx hb dX11_meet_32 (hp_n (n := 35) rfl ?_)
        refine lv_aloadN hx hb dX11_meet_35 (lv_at hl 1 rfl) (hp_n (n := 37) rfl ?_)
        refine lv_ifnullN (tgt := 45) hx hb dX11_meet_37 (by decide) ?_
        exact J45 Hh_15 Lh_15 Bh_15 ls (lv_sub hl [3] rfl)
      ·
        have kbh_15 : hp_K α bh_15 = 3 := cw_k' Bh_15.2.2 (ph_15.2 bh_15 rfl)
        refine lv_astore (lv' := [(6, .ref bh_15), (5, .null), (4, .ref bh_2), (0, .ref a0), (1, .int a1), (2, .int a2), (3, .int a3)]) hx hb dX11_meet_28 hl (by decide) rfl (fun ls hl => hp_n (n := 30) rfl ?_)
        refine lv_aload hx hb dX11_meet_30 (lv_at hl 2 rfl) (hp_n (n := 32) rfl ?_)
        have J45 : ∀ (Hh_18 : Heap) (Lh_18 : List Loc) (Bh_18 : hp_B Γ (cw w_X11_meet) s α α Hh_18 Lh_18) (ls : Array Slot) (hl : lv_has ls 7 [(0, .ref a0)]), W p l e (hp_rm 7 0 0) s m ([.ref a0, .int a1, .int a2, .int a3] : List Value).toArray below meth c Hh_18 Lh_18 0 0 (MQ below (hp_Qi Γ (fun r β => cw w_X11_meet α β)) ([.ref a0, .int a1, .int a2, .int a3] : List Value).toArray s 0 0 (hp_A Γ)) (F0 m 45 ls []) := by
          intro Hh_18 Lh_18 Bh_18 ls hl
          refine lv_aload_n hx hb dX11_meet_45 rfl (lv_at hl 0 rfl) (hp_n (n := 46) rfl ?_)
          refine lv_iconst (v := 2) hx hb dX11_meet_46 (by decide) (hp_n (n := 47) rfl ?_)
          refine q_ci (pc' := 50) Bh_18 (hp_runV (As := [.int 2]) (rest := []) C Bh_18 (t_X11_refuse Γ l α Bh_18.2.2.1 a0 (cw_k Bh_18.2.2 k0) 2) lb_X11_refuse lv_X11_refuse lk_X11_98 (cw_k Bh_18.2.2 k0) rfl (by decide) rfl hl.1 rfl (Nat.le_of_ble_eq_true rfl) dX11_meet_47 ⟨Nat.le_refl _, Nat.le_refl _⟩) (fun _ _ h => cw_tr Bh_18.2.2 h (by decide)) rfl (fun rh_19 αh_19 Hh_19 Lh_19 ph_19 Bh_19 => ?_)
          exact q_iret C Bh_19 hr hlk Bh_19.2.2 dX11_meet_50
        refine lv_ifnull hx hb dX11_meet_32 (hp_n (n := 35) rfl ?_)
        refine lv_aloadN hx hb dX11_meet_35 (lv_at hl 1 rfl) (hp_n (n := 37) rfl ?_)
        refine lv_ifnullN (tgt := 45) hx hb dX11_meet_37 (by decide) ?_
        exact J45 Hh_15 Lh_15 Bh_15 ls (lv_sub hl [3] rfl)
    ·
      have kbh_14 : hp_K α bh_14 = 8 := cw_k' Bh_14.2.2 (ph_14.2 bh_14 rfl)
      refine lv_astore (lv' := [(5, .ref bh_14), (4, .ref bh_2), (0, .ref a0), (1, .int a1), (2, .int a2), (3, .int a3)]) hx hb dX11_meet_18 hl (by decide) rfl (fun ls hl => hp_n (n := 20) rfl ?_)
      refine lv_aload_n hx hb dX11_meet_20 rfl (lv_at hl 2 rfl) (hp_n (n := 21) rfl ?_)
      refine q_gets (κ := 12) (k := 1) (φ := 601) (pc' := 24) C Bh_14 (cw_k Bh_14.2.2 k0) fl_X11_16 rfl rfl rfl eb_1 dX11_meet_21 rfl ?_
      refine lv_iload_n hx hb dX11_meet_24 rfl (lv_at hl 5 rfl) (hp_n (n := 25) rfl ?_)
      refine q_cq (pc' := 28) Bh_14 (hp_runV (As := [.int a3]) (rest := []) C Bh_14 (t_X10_logAt Γ l α Bh_14.2.2.1 b_1 (cw_k Bh_14.2.2 kb_1) a3) lb_X10_logAt lv_X10_logAt lk_X11_163 (cw_k Bh_14.2.2 kb_1) rfl (by decide) rfl hl.1 rfl (Nat.le_of_ble_eq_true rfl) dX11_meet_25 ⟨Nat.le_refl _, Nat.le_refl _⟩) (fun _ _ h => by rw [h.1]; exact Bh_14.2.2) rfl (fun rh_20 αh_20 Hh_20 Lh_20 ph_20 Bh_20 => ?_)
      rw [ph_20.1] at Bh_20
      rcases rh_20 with _ | bh_20
      ·
        refine lv_astoreN (lv' := [(6, .null), (5, .ref bh_14), (4, .ref bh_2), (0, .ref a0), (1, .int a1), (2, .int a2), (3, .int a3)]) hx hb dX11_meet_28 hl (by decide) rfl (fun ls hl => hp_n (n := 30) rfl ?_)
        refine lv_aload hx hb dX11_meet_30 (lv_at hl 2 rfl) (hp_n (n := 32) rfl ?_)
        have J45 : ∀ (Hh_21 : Heap) (Lh_21 : List Loc) (Bh_21 : hp_B Γ (cw w_X11_meet) s α α Hh_21 Lh_21) (ls : Array Slot) (hl : lv_has ls 7 [(0, .ref a0)]), W p l e (hp_rm 7 0 0) s m ([.ref a0, .int a1, .int a2, .int a3] : List Value).toArray below meth c Hh_21 Lh_21 0 0 (MQ below (hp_Qi Γ (fun r β => cw w_X11_meet α β)) ([.ref a0, .int a1, .int a2, .int a3] : List Value).toArray s 0 0 (hp_A Γ)) (F0 m 45 ls []) := by
          intro Hh_21 Lh_21 Bh_21 ls hl
          refine lv_aload_n hx hb dX11_meet_45 rfl (lv_at hl 0 rfl) (hp_n (n := 46) rfl ?_)
          refine lv_iconst (v := 2) hx hb dX11_meet_46 (by decide) (hp_n (n := 47) rfl ?_)
          refine q_ci (pc' := 50) Bh_21 (hp_runV (As := [.int 2]) (rest := []) C Bh_21 (t_X11_refuse Γ l α Bh_21.2.2.1 a0 (cw_k Bh_21.2.2 k0) 2) lb_X11_refuse lv_X11_refuse lk_X11_98 (cw_k Bh_21.2.2 k0) rfl (by decide) rfl hl.1 rfl (Nat.le_of_ble_eq_true rfl) dX11_meet_47 ⟨Nat.le_refl _, Nat.le_refl _⟩) (fun _ _ h => cw_tr Bh_21.2.2 h (by decide)) rfl (fun rh_22 αh_22 Hh_22 Lh_22 ph_22 Bh_22 => ?_)
          exact q_iret C Bh_22 hr hlk Bh_22.2.2 dX11_meet_50
        refine lv_ifnull hx hb dX11_meet_32 (hp_n (n := 35) rfl ?_)
        refine lv_aload hx hb dX11_meet_35 (lv_at hl 1 rfl) (hp_n (n := 37) rfl ?_)
        refine lv_ifnull hx hb dX11_meet_37 (hp_n (n := 40) rfl ?_)
        refine lv_aloadN hx hb dX11_meet_40 (lv_at hl 0 rfl) (hp_n (n := 42) rfl ?_)
        refine lv_ifnonnullN hx hb dX11_meet_42 (hp_n (n := 45) rfl ?_)
        exact J45 Hh_20 Lh_20 Bh_20 ls (lv_sub hl [3] rfl)
      ·
        have kbh_20 : hp_K α bh_20 = 3 := cw_k' Bh_20.2.2 (ph_20.2 bh_20 rfl)
        refine lv_astore (lv' := [(6, .ref bh_20), (5, .ref bh_14), (4, .ref bh_2), (0, .ref a0), (1, .int a1), (2, .int a2), (3, .int a3)]) hx hb dX11_meet_28 hl (by decide) rfl (fun ls hl => hp_n (n := 30) rfl ?_)
        refine lv_aload hx hb dX11_meet_30 (lv_at hl 2 rfl) (hp_n (n := 32) rfl ?_)
        have J45 : ∀ (Hh_23 : Heap) (Lh_23 : List Loc) (Bh_23 : hp_B Γ (cw w_X11_meet) s α α Hh_23 Lh_23) (ls : Array Slot) (hl : lv_has ls 7 [(0, .ref a0)]), W p l e (hp_rm 7 0 0) s m ([.ref a0, .int a1, .int a2, .int a3] : List Value).toArray below meth c Hh_23 Lh_23 0 0 (MQ below (hp_Qi Γ (fun r β => cw w_X11_meet α β)) ([.ref a0, .int a1, .int a2, .int a3] : List Value).toArray s 0 0 (hp_A Γ)) (F0 m 45 ls []) := by
          intro Hh_23 Lh_23 Bh_23 ls hl
          refine lv_aload_n hx hb dX11_meet_45 rfl (lv_at hl 0 rfl) (hp_n (n := 46) rfl ?_)
          refine lv_iconst (v := 2) hx hb dX11_meet_46 (by decide) (hp_n (n := 47) rfl ?_)
          refine q_ci (pc' := 50) Bh_23 (hp_runV (As := [.int 2]) (rest := []) C Bh_23 (t_X11_refuse Γ l α Bh_23.2.2.1 a0 (cw_k Bh_23.2.2 k0) 2) lb_X11_refuse lv_X11_refuse lk_X11_98 (cw_k Bh_23.2.2 k0) rfl (by decide) rfl hl.1 rfl (Nat.le_of_ble_eq_true rfl) dX11_meet_47 ⟨Nat.le_refl _, Nat.le_refl _⟩) (fun _ _ h => cw_tr Bh_23.2.2 h (by decide)) rfl (fun rh_24 αh_24 Hh_24 Lh_24 ph_24 Bh_24 => ?_)
          exact q_iret C Bh_24 hr hlk Bh_24.2.2 dX11_meet_50
        refine lv_ifnull hx hb dX11_meet_32 (hp_n (n := 35) rfl ?_)
        refine lv_aload hx hb dX11_meet_35 (lv_at hl 1 rfl) (hp_n (n := 37) rfl ?_)
        refine lv_ifnull hx hb dX11_meet_37 (hp_n (n := 40) rfl ?_)
        refine lv_aload hx hb dX11_meet_40 (lv_at hl 0 rfl) (hp_n (n := 42) rfl ?_)
        refine lv_ifnonnull (tgt := 51) hx hb dX11_meet_42 (by decide) ?_
        refine lv_aload_n hx hb dX11_meet_51 rfl (lv_at hl 3 rfl) (hp_n (n := 52) rfl ?_)
        refine lv_aload_n hx hb dX11_meet_52 rfl (lv_at hl 3 rfl) (hp_n (n := 53) rfl ?_)
        refine q_gets (κ := 12) (k := 1) (φ := 601) (pc' := 56) C Bh_20 (cw_k Bh_20.2.2 k0) fl_X11_16 rfl rfl rfl eb_1 dX11_meet_53 rfl ?_
        refine lv_aload hx hb dX11_meet_56 (lv_at hl 2 rfl) (hp_n (n := 58) rfl ?_)
        refine lv_aload hx hb dX11_meet_58 (lv_at hl 1 rfl) (hp_n (n := 60) rfl ?_)
        refine lv_aload hx hb dX11_meet_60 (lv_at hl 0 rfl) (hp_n (n := 62) rfl ?_)
        refine q_ci (pc' := 65) Bh_20 (hp_runV (As := [.ref bh_2, .ref bh_14, .ref bh_20]) (rest := [.ref a0]) C Bh_20 (t_X10_meetBy Γ l α Bh_20.2.2.1 b_1 (cw_k Bh_20.2.2 kb_1) bh_2 (cw_k Bh_20.2.2 kbh_2) bh_14 (cw_k Bh_20.2.2 kbh_14) bh_20 (cw_k Bh_20.2.2 kbh_20)) lb_X10_meetBy lv_X10_meetBy lk_X11_251 (cw_k Bh_20.2.2 kb_1) rfl (by decide) rfl hl.1 rfl (Nat.le_of_ble_eq_true rfl) dX11_meet_62 ⟨Nat.le_refl _, Nat.le_refl _⟩) (fun _ _ h => cw_tr Bh_20.2.2 h (by decide)) rfl (fun rh_25 αh_25 Hh_25 Lh_25 ph_25 Bh_25 => ?_)
        refine q_ci (pc' := 68) Bh_25 (hp_runV (As := [.int rh_25]) (rest := []) C Bh_25 (t_X11_answer Γ l αh_25 Bh_25.2.2.1 a0 (cw_k Bh_25.2.2 k0) rh_25) lb_X11_answer lv_X11_answer lk_X11_115 (cw_k Bh_25.2.2 k0) rfl (by decide) rfl hl.1 rfl (Nat.le_of_ble_eq_true rfl) dX11_meet_65 ⟨Nat.le_refl _, Nat.le_refl _⟩) (fun _ _ h => cw_tr Bh_25.2.2 h (by decide)) rfl (fun rh_26 αh_26 Hh_26 Lh_26 ph_26 Bh_26 => ?_)
        exact q_iret C Bh_26 hr hlk Bh_26.2.2 dX11_meet_68
abbrev w_X11_spoil : cw_W := ([556, 600], [], [27, 29], [])
set_option maxRecDepth 100000 in
set_option maxHeartbeats 4000000 in
theorem t_X11_spoil (Γ : hp_G) (l : Launch) (α : hp_T) (g : GC α) (a0 : Nat) (k0 : hp_K α a0 = 12) (a1 : Int32) (a2 : Int32) (a3 : Int32) (a4 : Int32) : Met l yX11_spoil (hp_ws yX11_spoil cX11_spoil 8 (some .int)) (hp_rm 4 0 0) (hp_Pc Γ α [.ref a0, .int a1, .int a2, .int a3, .int a4]) (hp_Qi Γ (fun r β => cw w_X11_spoil α β)) 0 0 (hp_A Γ) := by
  refine hp_start (by decide) ?_
  intro p e s m below meth c C hr hlk B0 hnm
  have C : hp_C Γ p m c cX11_spoil 8 s ([.ref a0, .int a1, .int a2, .int a3, .int a4] : List Value).toArray RX11 := C
  have hx := C.1.1
  have hb := C.1.2.1
  have hown := C.1.2.2.2.1
  have hts := C.1.2.2.2.2
  have B : hp_B Γ (cw w_X11_spoil) s α α s.heap [] := ⟨B0.1, B0.2.1, cw_rf g⟩
  have lit0 : (0 : Int32).toInt = 0 := by decide
  have lit1 : (1 : Int32).toInt = 1 := by decide
  have lit2 : (2 : Int32).toInt = 2 := by decide
  have lit5 : (5 : Int32).toInt = 5 := by decide
  have lit26 : (26 : Int32).toInt = 26 := by decide
  have hl := lv_entry ([.ref a0, .int a1, .int a2, .int a3, .int a4]) (n := 8) (Nat.le_of_ble_eq_true rfl)
  show W p l e (hp_rm 4 0 0) s m ([.ref a0, .int a1, .int a2, .int a3, .int a4] : List Value).toArray below meth c s.heap [] 0 0 (MQ below (hp_Qi Γ (fun r β => cw w_X11_spoil α β)) ([.ref a0, .int a1, .int a2, .int a3, .int a4] : List Value).toArray s 0 0 (hp_A Γ)) (entryFrame m ([.ref a0, .int a1, .int a2, .int a3, .int a4] : List Value).toArray 8)
  rw [lg_entry_eq]
  generalize (lg_sl ([.ref a0, .int a1, .int a2, .int a3, .int a4]) ++ List.replicate (8 - (lg_sl ([.ref a0, .int a1, .int a2, .int a3, .int a4])).length) Slot.unset).toArray = ls at hl ⊢
  have hl : lv_has ls 8 [(0, .ref a0), (1, .int a1), (2, .int a2), (3, .int a3), (4, .int a4)] := hl
  refine lv_iload hx hb dX11_spoil_0 (lv_at hl 4 rfl) (hp_n (n := 2) rfl ?_)
  refine lv_iconst (v := 1) hx hb dX11_spoil_2 (by decide) (hp_n (n := 3) rfl ?_)
  have J21 : ∀ (Hh_1 : Heap) (Lh_1 : List Loc) (Bh_1 : hp_B Γ (cw w_X11_spoil) s α α Hh_1 Lh_1) (ls : Array Slot) (hl : lv_has ls 8 [(0, .ref a0)]), W p l e (hp_rm 4 0 0) s m ([.ref a0, .int a1, .int a2, .int a3, .int a4] : List Value).toArray below meth c Hh_1 Lh_1 0 0 (MQ below (hp_Qi Γ (fun r β => cw w_X11_spoil α β)) ([.ref a0, .int a1, .int a2, .int a3, .int a4] : List Value).toArray s 0 0 (hp_A Γ)) (F0 m 21 ls []) := by
    intro Hh_1 Lh_1 Bh_1 ls hl
    refine lv_aload_n hx hb dX11_spoil_21 rfl (lv_at hl 0 rfl) (hp_n (n := 22) rfl ?_)
    refine lv_iconst (v := 1) hx hb dX11_spoil_22 (by decide) (hp_n (n := 23) rfl ?_)
    refine q_ci (pc' := 26) Bh_1 (hp_runV (As := [.int 1]) (rest := []) C Bh_1 (t_X11_refuse Γ l α Bh_1.2.2.1 a0 (cw_k Bh_1.2.2 k0) 1) lb_X11_refuse lv_X11_refuse lk_X11_98 (cw_k Bh_1.2.2 k0) rfl (by decide) rfl hl.1 rfl (Nat.le_of_ble_eq_true rfl) dX11_spoil_23 ⟨Nat.le_refl _, Nat.le_refl _⟩) (fun _ _ h => cw_tr Bh_1.2.2 h (by decide)) rfl (fun rh_2 αh_2 Hh_2 Lh_2 ph_2 Bh_2 => ?_)
    exact q_iret C Bh_2 hr hlk Bh_2.2.2 dX11_spoil_26
  refine lv_icmp_lt (tgt := 21) hx hb dX11_spoil_3 (by decide) (fun c_3 => ?_) (fun c_3 => hp_n (n := 6) rfl ?_)
  ·
    have jc_3 := il_lt c_3
    exact J21 s.heap [] B ls (lv_sub hl [0] rfl)
  ·
    have jc_3 := il_nlt c_3
    refine lv_iload hx hb dX11_spoil_6 (lv_at hl 4 rfl) (hp_n (n := 8) rfl ?_)
    refine lv_bipush (v := 26) hx hb dX11_spoil_8 (by decide) (hp_n (n := 10) rfl ?_)
    refine lv_icmp_gt (tgt := 21) hx hb dX11_spoil_10 (by decide) (fun c_4 => ?_) (fun c_4 => hp_n (n := 13) rfl ?_)
    ·
      have jc_4 := il_lt c_4
      exact J21 s.heap [] B ls (lv_sub hl [0] rfl)
    ·
      have jc_4 := il_nlt c_4
      refine lv_iload_n hx hb dX11_spoil_13 rfl (lv_at hl 2 rfl) (hp_n (n := 14) rfl ?_)
      refine lv_if_lt (tgt := 21) hx hb dX11_spoil_14 (by decide) (fun c_5 => ?_) (fun c_5 => hp_n (n := 17) rfl ?_)
      ·
        have jc_5 := il_lt c_5
        exact J21 s.heap [] B ls (lv_sub hl [0] rfl)
      ·
        have jc_5 := il_nlt c_5
        refine lv_iload_n hx hb dX11_spoil_17 rfl (lv_at hl 3 rfl) (hp_n (n := 18) rfl ?_)
        refine lv_if_ge (tgt := 27) hx hb dX11_spoil_18 (by decide) (fun c_6 => ?_) (fun c_6 => hp_n (n := 21) rfl ?_)
        ·
          have jc_6 := il_le c_6
          refine lv_aload_n hx hb dX11_spoil_27 rfl (lv_at hl 0 rfl) (hp_n (n := 28) rfl ?_)
          refine q_getr (κ := 12) (k := 1) (φ := 601) (pc' := 31) C B (cw_k B.2.2 k0) fl_X11_16 rfl rfl rfl (cw_r B.2.2 k0 rfl rfl (by decide) (by decide)) dX11_spoil_28 rfl (fun b_7 eb_7 kb_7 => ?_)
          refine lv_iload_n hx hb dX11_spoil_31 rfl (lv_at hl 1 rfl) (hp_n (n := 32) rfl ?_)
          refine q_cq (pc' := 35) B (hp_runV (As := [.int a1]) (rest := []) C B (t_X10_logAt Γ l α B.2.2.1 b_7 (cw_k B.2.2 kb_7) a1) lb_X10_logAt lv_X10_logAt lk_X11_163 (cw_k B.2.2 kb_7) rfl (by decide) rfl hl.1 rfl (Nat.le_of_ble_eq_true rfl) dX11_spoil_32 ⟨Nat.le_refl _, Nat.le_refl _⟩) (fun _ _ h => by rw [h.1]; exact B.2.2) rfl (fun rh_8 αh_8 Hh_8 Lh_8 ph_8 Bh_8 => ?_)
          rw [ph_8.1] at Bh_8
          rcases rh_8 with _ | bh_8
          ·
            refine lv_astoreN (lv' := [(5, .null), (0, .ref a0), (1, .int a1), (2, .int a2), (3, .int a3), (4, .int a4)]) hx hb dX11_spoil_35 hl (by decide) rfl (fun ls hl => hp_n (n := 37) rfl ?_)
            refine lv_aloadN hx hb dX11_spoil_37 (lv_at hl 0 rfl) (hp_n (n := 39) rfl ?_)
            refine lv_ifnonnullN hx hb dX11_spoil_39 (hp_n (n := 42) rfl ?_)
            refine lv_aload_n hx hb dX11_spoil_42 rfl (lv_at hl 1 rfl) (hp_n (n := 43) rfl ?_)
            refine lv_iconst (v := 2) hx hb dX11_spoil_43 (by decide) (hp_n (n := 44) rfl ?_)
            refine q_ci (pc' := 47) Bh_8 (hp_runV (As := [.int 2]) (rest := []) C Bh_8 (t_X11_refuse Γ l α Bh_8.2.2.1 a0 (cw_k Bh_8.2.2 k0) 2) lb_X11_refuse lv_X11_refuse lk_X11_98 (cw_k Bh_8.2.2 k0) rfl (by decide) rfl hl.1 rfl (Nat.le_of_ble_eq_true rfl) dX11_spoil_44 ⟨Nat.le_refl _, Nat.le_refl _⟩) (fun _ _ h => cw_tr Bh_8.2.2 h (by decide)) rfl (fun rh_9 αh_9 Hh_9 Lh_9 ph_9 Bh_9 => ?_)
            exact q_iret C Bh_9 hr hlk Bh_9.2.2 dX11_spoil_47
          ·
            have kbh_8 : hp_K α bh_8 = 3 := cw_k' Bh_8.2.2 (ph_8.2 bh_8 rfl)
            refine lv_astore (lv' := [(5, .ref bh_8), (0, .ref a0), (1, .int a1), (2, .int a2), (3, .int a3), (4, .int a4)]) hx hb dX11_spoil_35 hl (by decide) rfl (fun ls hl => hp_n (n := 37) rfl ?_)
            refine lv_aload hx hb dX11_spoil_37 (lv_at hl 0 rfl) (hp_n (n := 39) rfl ?_)
            refine lv_ifnonnull (tgt := 48) hx hb dX11_spoil_39 (by decide) ?_
            refine lv_aload hx hb dX11_spoil_48 (lv_at hl 0 rfl) (hp_n (n := 50) rfl ?_)
            refine lv_iload_n hx hb dX11_spoil_50 rfl (lv_at hl 3 rfl) (hp_n (n := 51) rfl ?_)
            refine q_cq (pc' := 54) Bh_8 (hp_runV (As := [.int a2]) (rest := []) C Bh_8 (t_X2_wordAt Γ l α Bh_8.2.2.1 bh_8 (cw_k Bh_8.2.2 kbh_8) a2) lb_X2_wordAt lv_X2_wordAt lk_X11_170 (cw_k Bh_8.2.2 kbh_8) rfl (by decide) rfl hl.1 rfl (Nat.le_of_ble_eq_true rfl) dX11_spoil_51 ⟨Nat.le_refl _, Nat.le_refl _⟩) (fun _ _ h => by rw [h.1]; exact Bh_8.2.2) rfl (fun rh_10 αh_10 Hh_10 Lh_10 ph_10 Bh_10 => ?_)
            rw [ph_10.1] at Bh_10
            rcases rh_10 with _ | bh_10
            ·
              refine lv_astoreN (lv' := [(6, .null), (5, .ref bh_8), (0, .ref a0), (1, .int a1), (2, .int a2), (3, .int a3), (4, .int a4)]) hx hb dX11_spoil_54 hl (by decide) rfl (fun ls hl => hp_n (n := 56) rfl ?_)
              refine lv_aloadN hx hb dX11_spoil_56 (lv_at hl 0 rfl) (hp_n (n := 58) rfl ?_)
              have J81 : ∀ (Hh_11 : Heap) (Lh_11 : List Loc) (Bh_11 : hp_B Γ (cw w_X11_spoil) s α α Hh_11 Lh_11) (ls : Array Slot) (hl : lv_has ls 8 [(0, .ref a0)]), W p l e (hp_rm 4 0 0) s m ([.ref a0, .int a1, .int a2, .int a3, .int a4] : List Value).toArray below meth c Hh_11 Lh_11 0 0 (MQ below (hp_Qi Γ (fun r β => cw w_X11_spoil α β)) ([.ref a0, .int a1, .int a2, .int a3, .int a4] : List Value).toArray s 0 0 (hp_A Γ)) (F0 m 81 ls []) := by
                intro Hh_11 Lh_11 Bh_11 ls hl
                refine lv_aload_n hx hb dX11_spoil_81 rfl (lv_at hl 0 rfl) (hp_n (n := 82) rfl ?_)
                refine lv_iconst (v := 5) hx hb dX11_spoil_82 (by decide) (hp_n (n := 83) rfl ?_)
                refine q_ci (pc' := 86) Bh_11 (hp_runV (As := [.int 5]) (rest := []) C Bh_11 (t_X11_refuse Γ l α Bh_11.2.2.1 a0 (cw_k Bh_11.2.2 k0) 5) lb_X11_refuse lv_X11_refuse lk_X11_98 (cw_k Bh_11.2.2 k0) rfl (by decide) rfl hl.1 rfl (Nat.le_of_ble_eq_true rfl) dX11_spoil_83 ⟨Nat.le_refl _, Nat.le_refl _⟩) (fun _ _ h => cw_tr Bh_11.2.2 h (by decide)) rfl (fun rh_12 αh_12 Hh_12 Lh_12 ph_12 Bh_12 => ?_)
                exact q_iret C Bh_12 hr hlk Bh_12.2.2 dX11_spoil_86
              refine lv_ifnullN (tgt := 81) hx hb dX11_spoil_58 (by decide) ?_
              exact J81 Hh_10 Lh_10 Bh_10 ls (lv_sub hl [2] rfl)
            ·
              have kbh_10 : hp_K α bh_10 = 10 := cw_k' Bh_10.2.2 (ph_10.2 bh_10 rfl).1
              have nxh_10 := (ph_10.2 bh_10 rfl).2
              refine lv_astore (lv' := [(6, .ref bh_10), (5, .ref bh_8), (0, .ref a0), (1, .int a1), (2, .int a2), (3, .int a3), (4, .int a4)]) hx hb dX11_spoil_54 hl (by decide) rfl (fun ls hl => hp_n (n := 56) rfl ?_)
              refine lv_aload hx hb dX11_spoil_56 (lv_at hl 0 rfl) (hp_n (n := 58) rfl ?_)
              have J81 : ∀ (Hh_13 : Heap) (Lh_13 : List Loc) (Bh_13 : hp_B Γ (cw w_X11_spoil) s α α Hh_13 Lh_13) (ls : Array Slot) (hl : lv_has ls 8 [(0, .ref a0)]), W p l e (hp_rm 4 0 0) s m ([.ref a0, .int a1, .int a2, .int a3, .int a4] : List Value).toArray below meth c Hh_13 Lh_13 0 0 (MQ below (hp_Qi Γ (fun r β => cw w_X11_spoil α β)) ([.ref a0, .int a1, .int a2, .int a3, .int a4] : List Value).toArray s 0 0 (hp_A Γ)) (F0 m 81 ls []) := by
                intro Hh_13 Lh_13 Bh_13 ls hl
                refine lv_aload_n hx hb dX11_spoil_81 rfl (lv_at hl 0 rfl) (hp_n (n := 82) rfl ?_)
                refine lv_iconst (v := 5) hx hb dX11_spoil_82 (by decide) (hp_n (n := 83) rfl ?_)
                refine q_ci (pc' := 86) Bh_13 (hp_runV (As := [.int 5]) (rest := []) C Bh_13 (t_X11_refuse Γ l α Bh_13.2.2.1 a0 (cw_k Bh_13.2.2 k0) 5) lb_X11_refuse lv_X11_refuse lk_X11_98 (cw_k Bh_13.2.2 k0) rfl (by decide) rfl hl.1 rfl (Nat.le_of_ble_eq_true rfl) dX11_spoil_83 ⟨Nat.le_refl _, Nat.le_refl _⟩) (fun _ _ h => cw_tr Bh_13.2.2 h (by decide)) rfl (fun rh_14 αh_14 Hh_14 Lh_14 ph_14 Bh_14 => ?_)
                exact q_iret C Bh_14 hr hlk Bh_14.2.2 dX11_spoil_86
              refine lv_ifnull hx hb dX11_spoil_58 (hp_n (n := 61) rfl ?_)
              refine lv_iload_n hx hb dX11_spoil_61 rfl (lv_at hl 5 rfl) (hp_n (n := 62) rfl ?_)
              refine lv_aload hx hb dX11_spoil_62 (lv_at hl 0 rfl) (hp_n (n := 64) rfl ?_)
              refine q_geti (κ := 10) (k := 1) (φ := 501) (pc' := 67) C Bh_10 (cw_k Bh_10.2.2 kbh_10) fl_X11_150 rfl rfl rfl dX11_spoil_64 rfl (fun x_15 ex_15 => ?_)
              refine lv_icmp_ge (tgt := 81) hx hb dX11_spoil_67 (by decide) (fun c_16 => ?_) (fun c_16 => hp_n (n := 70) rfl ?_)
              ·
                have jc_16 := il_le c_16
                exact J81 Hh_10 Lh_10 Bh_10 ls (lv_sub hl [2] rfl)
              ·
                have jc_16 := il_nle c_16
                refine lv_aload hx hb dX11_spoil_70 (lv_at hl 0 rfl) (hp_n (n := 72) rfl ?_)
                refine lv_iload_n hx hb dX11_spoil_72 rfl (lv_at hl 5 rfl) (hp_n (n := 73) rfl ?_)
                refine q_ci (pc' := 76) Bh_10 (hp_runV (As := [.int a3]) (rest := []) C Bh_10 (t_X9_letterAt Γ l α Bh_10.2.2.1 bh_10 (cw_k Bh_10.2.2 kbh_10) a3) lb_X9_letterAt lv_X9_letterAt lk_X11_177 (cw_k Bh_10.2.2 kbh_10) rfl (by decide) rfl hl.1 rfl (Nat.le_of_ble_eq_true rfl) dX11_spoil_73 ⟨Nat.le_refl _, Nat.le_refl _⟩) (fun _ _ h => by rw [h]; exact Bh_10.2.2) rfl (fun rh_17 αh_17 Hh_17 Lh_17 ph_17 Bh_17 => ?_)
                rw [ph_17] at Bh_17
                refine lv_iload hx hb dX11_spoil_76 (lv_at hl 6 rfl) (hp_n (n := 78) rfl ?_)
                refine lv_icmp_ne (tgt := 87) hx hb dX11_spoil_78 (by decide) (fun c_18 => ?_) (fun c_18 => hp_n (n := 81) rfl ?_)
                ·
                  have jc_18 := il_ne c_18
                  refine lv_aload hx hb dX11_spoil_87 (lv_at hl 0 rfl) (hp_n (n := 89) rfl ?_)
                  refine lv_iload_n hx hb dX11_spoil_89 rfl (lv_at hl 5 rfl) (hp_n (n := 90) rfl ?_)
                  refine q_ci (pc' := 93) Bh_17 (hp_runV (As := [.int a3]) (rest := []) C Bh_17 (t_X9_letterAt Γ l α Bh_17.2.2.1 bh_10 (cw_k Bh_17.2.2 kbh_10) a3) lb_X9_letterAt lv_X9_letterAt lk_X11_177 (cw_k Bh_17.2.2 kbh_10) rfl (by decide) rfl hl.1 rfl (Nat.le_of_ble_eq_true rfl) dX11_spoil_90 ⟨Nat.le_refl _, Nat.le_refl _⟩) (fun _ _ h => by rw [h]; exact Bh_17.2.2) rfl (fun rh_19 αh_19 Hh_19 Lh_19 ph_19 Bh_19 => ?_)
                  rw [ph_19] at Bh_19
                  refine lv_istore (lv' := [(7, .int rh_19), (6, .ref bh_10), (5, .ref bh_8), (0, .ref a0), (1, .int a1), (2, .int a2), (3, .int a3), (4, .int a4)]) hx hb dX11_spoil_93 hl (by decide) rfl (fun ls hl => hp_n (n := 95) rfl ?_)
                  refine lv_aload_n hx hb dX11_spoil_95 rfl (lv_at hl 3 rfl) (hp_n (n := 96) rfl ?_)
                  refine q_gets (κ := 12) (k := 1) (φ := 601) (pc' := 99) C Bh_19 (cw_k Bh_19.2.2 k0) fl_X11_16 rfl rfl rfl eb_7 dX11_spoil_96 rfl ?_
                  refine lv_aload hx hb dX11_spoil_99 (lv_at hl 2 rfl) (hp_n (n := 101) rfl ?_)
                  refine lv_iload_n hx hb dX11_spoil_101 rfl (lv_at hl 5 rfl) (hp_n (n := 102) rfl ?_)
                  refine lv_iload_n hx hb dX11_spoil_102 rfl (lv_at hl 6 rfl) (hp_n (n := 103) rfl ?_)
                  refine lv_iload hx hb dX11_spoil_103 (lv_at hl 7 rfl) (hp_n (n := 105) rfl ?_)
                  refine q_cv (pc' := 108) Bh_19 (hp_runV (As := [.ref bh_8, .int a2, .int a3, .int a4]) (rest := []) C Bh_19 (t_X10_spoilLetter Γ l α Bh_19.2.2.1 b_7 (cw_k Bh_19.2.2 kb_7) bh_8 (cw_k Bh_19.2.2 kbh_8) a2 a3 a4) lb_X10_spoilLetter lv_X10_spoilLetter lk_X11_255 (cw_k Bh_19.2.2 kb_7) rfl (by decide) rfl hl.1 rfl (Nat.le_of_ble_eq_true rfl) dX11_spoil_105 ⟨Nat.le_refl _, Nat.le_refl _⟩) (fun _ h => cw_tr Bh_19.2.2 h (by decide)) rfl (fun αh_20 Hh_20 Lh_20 ph_20 Bh_20 => ?_)
                  refine lv_aload_n hx hb dX11_spoil_108 rfl (lv_at hl 3 rfl) (hp_n (n := 109) rfl ?_)
                  refine lv_iload hx hb dX11_spoil_109 (lv_at hl 0 rfl) (hp_n (n := 111) rfl ?_)
                  refine q_ci (pc' := 114) Bh_20 (hp_runV (As := [.int rh_19]) (rest := []) C Bh_20 (t_X11_answer Γ l αh_20 Bh_20.2.2.1 a0 (cw_k Bh_20.2.2 k0) rh_19) lb_X11_answer lv_X11_answer lk_X11_115 (cw_k Bh_20.2.2 k0) rfl (by decide) rfl hl.1 rfl (Nat.le_of_ble_eq_true rfl) dX11_spoil_111 ⟨Nat.le_refl _, Nat.le_refl _⟩) (fun _ _ h => cw_tr Bh_20.2.2 h (by decide)) rfl (fun rh_21 αh_21 Hh_21 Lh_21 ph_21 Bh_21 => ?_)
                  exact q_iret C Bh_21 hr hlk Bh_21.2.2 dX11_spoil_114
                ·
                  have jc_18 := il_eq c_18
                  exact J81 Hh_17 Lh_17 Bh_17 ls (lv_sub hl [2] rfl)
        ·
          have jc_6 := il_nle c_6
          exact J21 s.heap [] B ls (lv_sub hl [0] rfl)
abbrev w_X11_push : cw_W := ([301, 600], [], [20], [])
set_option maxRecDepth 100000 in
set_option maxHeartbeats 4000000 in
theorem t_X11_push (Γ : hp_G) (l : Launch) (α : hp_T) (g : GC α) (a0 : Nat) (k0 : hp_K α a0 = 12) (a1 : Int32) : Met l yX11_push (hp_ws yX11_push cX11_push 2 (some .int)) (hp_rm 1 0 0) (hp_Pc Γ α [.ref a0, .int a1]) (hp_Qi Γ (fun r β => cw w_X11_push α β)) 0 0 (hp_A Γ) := by
  refine hp_start (by decide) ?_
  intro p e s m below meth c C hr hlk B0 hnm
  have C : hp_C Γ p m c cX11_push 2 s ([.ref a0, .int a1] : List Value).toArray RX11 := C
  have hx := C.1.1
  have hb := C.1.2.1
  have hown := C.1.2.2.2.1
  have hts := C.1.2.2.2.2
  have B : hp_B Γ (cw w_X11_push) s α α s.heap [] := ⟨B0.1, B0.2.1, cw_rf g⟩
  have lit0 : (0 : Int32).toInt = 0 := by decide
  have lit1 : (1 : Int32).toInt = 1 := by decide
  have lit3 : (3 : Int32).toInt = 3 := by decide
  have lit64 : (64 : Int32).toInt = 64 := by decide
  have hl := lv_entry ([.ref a0, .int a1]) (n := 2) (Nat.le_of_ble_eq_true rfl)
  show W p l e (hp_rm 1 0 0) s m ([.ref a0, .int a1] : List Value).toArray below meth c s.heap [] 0 0 (MQ below (hp_Qi Γ (fun r β => cw w_X11_push α β)) ([.ref a0, .int a1] : List Value).toArray s 0 0 (hp_A Γ)) (entryFrame m ([.ref a0, .int a1] : List Value).toArray 2)
  rw [lg_entry_eq]
  generalize (lg_sl ([.ref a0, .int a1]) ++ List.replicate (2 - (lg_sl ([.ref a0, .int a1])).length) Slot.unset).toArray = ls at hl ⊢
  have hl : lv_has ls 2 [(0, .ref a0), (1, .int a1)] := hl
  refine lv_aload_n hx hb dX11_push_0 rfl (lv_at hl 0 rfl) (hp_n (n := 1) rfl ?_)
  refine lv_iload_n hx hb dX11_push_1 rfl (lv_at hl 1 rfl) (hp_n (n := 2) rfl ?_)
  refine q_ci (pc' := 5) B (hp_runV (As := [.int a1]) (rest := []) C B (t_X11_isMark Γ l α B.2.2.1 a0 (cw_k B.2.2 k0) a1) lb_X11_isMark lv_X11_isMark lk_X11_188 (cw_k B.2.2 k0) rfl (by decide) rfl hl.1 rfl (Nat.le_of_ble_eq_true rfl) dX11_push_2 ⟨Nat.le_refl _, Nat.le_refl _⟩) (fun _ _ h => by rw [h.1]; exact B.2.2) rfl (fun rh_1 αh_1 Hh_1 Lh_1 ph_1 Bh_1 => ?_)
  rw [ph_1.1] at Bh_1
  have zh_1 := ph_1.2
  refine lv_if_ne (tgt := 14) hx hb dX11_push_5 (by decide) (fun c_2 => ?_) (fun c_2 => hp_n (n := 8) rfl ?_)
  ·
    have jc_2 := il_ne c_2
    refine lv_aload_n hx hb dX11_push_14 rfl (lv_at hl 0 rfl) (hp_n (n := 15) rfl ?_)
    refine q_getr (κ := 12) (k := 3) (φ := 603) (pc' := 18) C Bh_1 (cw_k Bh_1.2.2 k0) fl_X11_26 rfl rfl rfl (cw_r Bh_1.2.2 k0 rfl rfl (by decide) (by decide)) dX11_push_15 rfl (fun b_3 eb_3 kb_3 => ?_)
    refine q_geti (κ := 6) (k := 1) (φ := 301) (pc' := 21) C Bh_1 (cw_k Bh_1.2.2 kb_3) fl_X11_132 rfl rfl rfl dX11_push_18 rfl (fun x_4 ex_4 => ?_)
    refine lv_bipush (v := 64) hx hb dX11_push_21 (by decide) (hp_n (n := 23) rfl ?_)
    refine lv_icmp_lt (tgt := 32) hx hb dX11_push_23 (by decide) (fun c_5 => ?_) (fun c_5 => hp_n (n := 26) rfl ?_)
    ·
      have jc_5 := il_lt c_5
      refine lv_aload_n hx hb dX11_push_32 rfl (lv_at hl 0 rfl) (hp_n (n := 33) rfl ?_)
      refine q_gets (κ := 12) (k := 3) (φ := 603) (pc' := 36) C Bh_1 (cw_k Bh_1.2.2 k0) fl_X11_26 rfl rfl rfl eb_3 dX11_push_33 rfl ?_
      refine lv_iload_n hx hb dX11_push_36 rfl (lv_at hl 1 rfl) (hp_n (n := 37) rfl ?_)
      refine q_cv (pc' := 40) Bh_1 (hp_runV (As := [.int a1]) (rest := []) C Bh_1 (t_X5_put Γ l α Bh_1.2.2.1 b_3 (cw_k Bh_1.2.2 kb_3) a1) lb_X5_put lv_X5_put lk_X11_259 (cw_k Bh_1.2.2 kb_3) rfl (by decide) rfl hl.1 rfl (Nat.le_of_ble_eq_true rfl) dX11_push_37 ⟨Nat.le_refl _, Nat.le_refl _⟩) (fun _ h => cw_tr Bh_1.2.2 h (by decide)) rfl (fun αh_6 Hh_6 Lh_6 ph_6 Bh_6 => ?_)
      refine lv_aload_n hx hb dX11_push_40 rfl (lv_at hl 0 rfl) (hp_n (n := 41) rfl ?_)
      refine lv_aload_n hx hb dX11_push_41 rfl (lv_at hl 0 rfl) (hp_n (n := 42) rfl ?_)
      have t_7 : b_3 = hp_R αh_6 603 a0 := by rw [cw_R ph_6 a0 (by decide)]; exact eb_3
      refine q_gets (κ := 12) (k := 3) (φ := 603) (pc' := 45) C Bh_6 (cw_k Bh_6.2.2 k0) fl_X11_26 rfl rfl rfl t_7 dX11_push_42 rfl ?_
      refine q_geti (κ := 6) (k := 1) (φ := 301) (pc' := 48) C Bh_6 (cw_k Bh_6.2.2 kb_3) fl_X11_132 rfl rfl rfl dX11_push_45 rfl (fun x_8 ex_8 => ?_)
      refine q_ci (pc' := 51) Bh_6 (hp_runV (As := [.int x_8]) (rest := []) C Bh_6 (t_X11_answer Γ l αh_6 Bh_6.2.2.1 a0 (cw_k Bh_6.2.2 k0) x_8) lb_X11_answer lv_X11_answer lk_X11_115 (cw_k Bh_6.2.2 k0) rfl (by decide) rfl hl.1 rfl (Nat.le_of_ble_eq_true rfl) dX11_push_48 ⟨Nat.le_refl _, Nat.le_refl _⟩) (fun _ _ h => cw_tr Bh_6.2.2 h (by decide)) rfl (fun rh_9 αh_9 Hh_9 Lh_9 ph_9 Bh_9 => ?_)
      exact q_iret C Bh_9 hr hlk Bh_9.2.2 dX11_push_51
    ·
      have jc_5 := il_nlt c_5
      refine lv_aload_n hx hb dX11_push_26 rfl (lv_at hl 0 rfl) (hp_n (n := 27) rfl ?_)
      refine lv_iconst (v := 3) hx hb dX11_push_27 (by decide) (hp_n (n := 28) rfl ?_)
      refine q_ci (pc' := 31) Bh_1 (hp_runV (As := [.int 3]) (rest := []) C Bh_1 (t_X11_refuse Γ l α Bh_1.2.2.1 a0 (cw_k Bh_1.2.2 k0) 3) lb_X11_refuse lv_X11_refuse lk_X11_98 (cw_k Bh_1.2.2 k0) rfl (by decide) rfl hl.1 rfl (Nat.le_of_ble_eq_true rfl) dX11_push_28 ⟨Nat.le_refl _, Nat.le_refl _⟩) (fun _ _ h => cw_tr Bh_1.2.2 h (by decide)) rfl (fun rh_10 αh_10 Hh_10 Lh_10 ph_10 Bh_10 => ?_)
      exact q_iret C Bh_10 hr hlk Bh_10.2.2 dX11_push_31
  ·
    have jc_2 := il_eq c_2
    refine lv_aload_n hx hb dX11_push_8 rfl (lv_at hl 0 rfl) (hp_n (n := 9) rfl ?_)
    refine lv_iconst (v := 1) hx hb dX11_push_9 (by decide) (hp_n (n := 10) rfl ?_)
    refine q_ci (pc' := 13) Bh_1 (hp_runV (As := [.int 1]) (rest := []) C Bh_1 (t_X11_refuse Γ l α Bh_1.2.2.1 a0 (cw_k Bh_1.2.2 k0) 1) lb_X11_refuse lv_X11_refuse lk_X11_98 (cw_k Bh_1.2.2 k0) rfl (by decide) rfl hl.1 rfl (Nat.le_of_ble_eq_true rfl) dX11_push_10 ⟨Nat.le_refl _, Nat.le_refl _⟩) (fun _ _ h => cw_tr Bh_1.2.2 h (by decide)) rfl (fun rh_11 αh_11 Hh_11 Lh_11 ph_11 Bh_11 => ?_)
    exact q_iret C Bh_11 hr hlk Bh_11.2.2 dX11_push_13
abbrev w_X11_poke : cw_W := ([600], [], [20], [])
set_option maxRecDepth 100000 in
set_option maxHeartbeats 4000000 in
theorem t_X11_poke (Γ : hp_G) (l : Launch) (α : hp_T) (g : GC α) (a0 : Nat) (k0 : hp_K α a0 = 12) (a1 : Int32) (a2 : Int32) : Met l yX11_poke (hp_ws yX11_poke cX11_poke 4 (some .int)) (hp_rm 1 0 0) (hp_Pc Γ α [.ref a0, .int a1, .int a2]) (hp_Qi Γ (fun r β => cw w_X11_poke α β)) 0 0 (hp_A Γ) := by
  refine hp_start (by decide) ?_
  intro p e s m below meth c C hr hlk B0 hnm
  have C : hp_C Γ p m c cX11_poke 4 s ([.ref a0, .int a1, .int a2] : List Value).toArray RX11 := C
  have hx := C.1.1
  have hb := C.1.2.1
  have hown := C.1.2.2.2.1
  have hts := C.1.2.2.2.2
  have B : hp_B Γ (cw w_X11_poke) s α α s.heap [] := ⟨B0.1, B0.2.1, cw_rf g⟩
  have lit0 : (0 : Int32).toInt = 0 := by decide
  have lit1 : (1 : Int32).toInt = 1 := by decide
  have lit5 : (5 : Int32).toInt = 5 := by decide
  have hl := lv_entry ([.ref a0, .int a1, .int a2]) (n := 4) (Nat.le_of_ble_eq_true rfl)
  show W p l e (hp_rm 1 0 0) s m ([.ref a0, .int a1, .int a2] : List Value).toArray below meth c s.heap [] 0 0 (MQ below (hp_Qi Γ (fun r β => cw w_X11_poke α β)) ([.ref a0, .int a1, .int a2] : List Value).toArray s 0 0 (hp_A Γ)) (entryFrame m ([.ref a0, .int a1, .int a2] : List Value).toArray 4)
  rw [lg_entry_eq]
  generalize (lg_sl ([.ref a0, .int a1, .int a2]) ++ List.replicate (4 - (lg_sl ([.ref a0, .int a1, .int a2])).length) Slot.unset).toArray = ls at hl ⊢
  have hl : lv_has ls 4 [(0, .ref a0), (1, .int a1), (2, .int a2)] := hl
  refine lv_iload_n hx hb dX11_poke_0 rfl (lv_at hl 1 rfl) (hp_n (n := 1) rfl ?_)
  have J12 : ∀ (Hh_1 : Heap) (Lh_1 : List Loc) (Bh_1 : hp_B Γ (cw w_X11_poke) s α α Hh_1 Lh_1) (ls : Array Slot) (hl : lv_has ls 4 [(0, .ref a0)]), W p l e (hp_rm 1 0 0) s m ([.ref a0, .int a1, .int a2] : List Value).toArray below meth c Hh_1 Lh_1 0 0 (MQ below (hp_Qi Γ (fun r β => cw w_X11_poke α β)) ([.ref a0, .int a1, .int a2] : List Value).toArray s 0 0 (hp_A Γ)) (F0 m 12 ls []) := by
    intro Hh_1 Lh_1 Bh_1 ls hl
    refine lv_aload_n hx hb dX11_poke_12 rfl (lv_at hl 0 rfl) (hp_n (n := 13) rfl ?_)
    refine lv_iconst (v := 1) hx hb dX11_poke_13 (by decide) (hp_n (n := 14) rfl ?_)
    refine q_ci (pc' := 17) Bh_1 (hp_runV (As := [.int 1]) (rest := []) C Bh_1 (t_X11_refuse Γ l α Bh_1.2.2.1 a0 (cw_k Bh_1.2.2 k0) 1) lb_X11_refuse lv_X11_refuse lk_X11_98 (cw_k Bh_1.2.2 k0) rfl (by decide) rfl hl.1 rfl (Nat.le_of_ble_eq_true rfl) dX11_poke_14 ⟨Nat.le_refl _, Nat.le_refl _⟩) (fun _ _ h => cw_tr Bh_1.2.2 h (by decide)) rfl (fun rh_2 αh_2 Hh_2 Lh_2 ph_2 Bh_2 => ?_)
    exact q_iret C Bh_2 hr hlk Bh_2.2.2 dX11_poke_17
  refine lv_if_lt (tgt := 12) hx hb dX11_poke_1 (by decide) (fun c_3 => ?_) (fun c_3 => hp_n (n := 4) rfl ?_)
  ·
    have jc_3 := il_lt c_3
    exact J12 s.heap [] B ls (lv_sub hl [0] rfl)
  ·
    have jc_3 := il_nlt c_3
    refine lv_aload_n hx hb dX11_poke_4 rfl (lv_at hl 0 rfl) (hp_n (n := 5) rfl ?_)
    refine lv_iload_n hx hb dX11_poke_5 rfl (lv_at hl 2 rfl) (hp_n (n := 6) rfl ?_)
    refine q_ci (pc' := 9) B (hp_runV (As := [.int a2]) (rest := []) C B (t_X11_isMark Γ l α B.2.2.1 a0 (cw_k B.2.2 k0) a2) lb_X11_isMark lv_X11_isMark lk_X11_188 (cw_k B.2.2 k0) rfl (by decide) rfl hl.1 rfl (Nat.le_of_ble_eq_true rfl) dX11_poke_6 ⟨Nat.le_refl _, Nat.le_refl _⟩) (fun _ _ h => by rw [h.1]; exact B.2.2) rfl (fun rh_4 αh_4 Hh_4 Lh_4 ph_4 Bh_4 => ?_)
    rw [ph_4.1] at Bh_4
    have zh_4 := ph_4.2
    refine lv_if_ne (tgt := 18) hx hb dX11_poke_9 (by decide) (fun c_5 => ?_) (fun c_5 => hp_n (n := 12) rfl ?_)
    ·
      have jc_5 := il_ne c_5
      refine lv_iload_n hx hb dX11_poke_18 rfl (lv_at hl 1 rfl) (hp_n (n := 19) rfl ?_)
      refine lv_aload_n hx hb dX11_poke_19 rfl (lv_at hl 0 rfl) (hp_n (n := 20) rfl ?_)
      refine q_getr (κ := 12) (k := 3) (φ := 603) (pc' := 23) C Bh_4 (cw_k Bh_4.2.2 k0) fl_X11_26 rfl rfl rfl (cw_r Bh_4.2.2 k0 rfl rfl (by decide) (by decide)) dX11_poke_20 rfl (fun b_6 eb_6 kb_6 => ?_)
      refine q_geti (κ := 6) (k := 1) (φ := 301) (pc' := 26) C Bh_4 (cw_k Bh_4.2.2 kb_6) fl_X11_132 rfl rfl rfl dX11_poke_23 rfl (fun x_7 ex_7 => ?_)
      refine lv_icmp_lt (tgt := 35) hx hb dX11_poke_26 (by decide) (fun c_8 => ?_) (fun c_8 => hp_n (n := 29) rfl ?_)
      ·
        have jc_8 := il_lt c_8
        refine lv_aload_n hx hb dX11_poke_35 rfl (lv_at hl 0 rfl) (hp_n (n := 36) rfl ?_)
        refine q_gets (κ := 12) (k := 3) (φ := 603) (pc' := 39) C Bh_4 (cw_k Bh_4.2.2 k0) fl_X11_26 rfl rfl rfl eb_6 dX11_poke_36 rfl ?_
        refine lv_iload_n hx hb dX11_poke_39 rfl (lv_at hl 1 rfl) (hp_n (n := 40) rfl ?_)
        refine q_ci (pc' := 43) Bh_4 (hp_runV (As := [.int a1]) (rest := []) C Bh_4 (t_X5_at Γ l α Bh_4.2.2.1 b_6 (cw_k Bh_4.2.2 kb_6) a1) lb_X5_at lv_X5_at lk_X11_135 (cw_k Bh_4.2.2 kb_6) rfl (by decide) rfl hl.1 rfl (Nat.le_of_ble_eq_true rfl) dX11_poke_40 ⟨Nat.le_refl _, Nat.le_refl _⟩) (fun _ _ h => by rw [h]; exact Bh_4.2.2) rfl (fun rh_9 αh_9 Hh_9 Lh_9 ph_9 Bh_9 => ?_)
        rw [ph_9] at Bh_9
        refine lv_istore_n (lv' := [(3, .int rh_9), (0, .ref a0), (1, .int a1), (2, .int a2)]) hx hb dX11_poke_43 rfl hl (by decide) rfl (fun ls hl => hp_n (n := 44) rfl ?_)
        refine lv_aload_n hx hb dX11_poke_44 rfl (lv_at hl 1 rfl) (hp_n (n := 45) rfl ?_)
        refine q_gets (κ := 12) (k := 3) (φ := 603) (pc' := 48) C Bh_9 (cw_k Bh_9.2.2 k0) fl_X11_26 rfl rfl rfl eb_6 dX11_poke_45 rfl ?_
        refine lv_iload_n hx hb dX11_poke_48 rfl (lv_at hl 2 rfl) (hp_n (n := 49) rfl ?_)
        refine lv_iload_n hx hb dX11_poke_49 rfl (lv_at hl 3 rfl) (hp_n (n := 50) rfl ?_)
        refine q_cv (pc' := 53) Bh_9 (hp_runV (As := [.int a1, .int a2]) (rest := []) C Bh_9 (t_X5_change Γ l α Bh_9.2.2.1 b_6 (cw_k Bh_9.2.2 kb_6) a1 a2) lb_X5_change lv_X5_change lk_X11_260 (cw_k Bh_9.2.2 kb_6) rfl (by decide) rfl hl.1 rfl (Nat.le_of_ble_eq_true rfl) dX11_poke_50 ⟨Nat.le_refl _, Nat.le_refl _⟩) (fun _ h => cw_tr Bh_9.2.2 h (by decide)) rfl (fun αh_10 Hh_10 Lh_10 ph_10 Bh_10 => ?_)
        refine lv_aload_n hx hb dX11_poke_53 rfl (lv_at hl 1 rfl) (hp_n (n := 54) rfl ?_)
        refine lv_iload_n hx hb dX11_poke_54 rfl (lv_at hl 0 rfl) (hp_n (n := 55) rfl ?_)
        refine q_ci (pc' := 58) Bh_10 (hp_runV (As := [.int rh_9]) (rest := []) C Bh_10 (t_X11_answer Γ l αh_10 Bh_10.2.2.1 a0 (cw_k Bh_10.2.2 k0) rh_9) lb_X11_answer lv_X11_answer lk_X11_115 (cw_k Bh_10.2.2 k0) rfl (by decide) rfl hl.1 rfl (Nat.le_of_ble_eq_true rfl) dX11_poke_55 ⟨Nat.le_refl _, Nat.le_refl _⟩) (fun _ _ h => cw_tr Bh_10.2.2 h (by decide)) rfl (fun rh_11 αh_11 Hh_11 Lh_11 ph_11 Bh_11 => ?_)
        exact q_iret C Bh_11 hr hlk Bh_11.2.2 dX11_poke_58
      ·
        have jc_8 := il_nlt c_8
        refine lv_aload_n hx hb dX11_poke_29 rfl (lv_at hl 0 rfl) (hp_n (n := 30) rfl ?_)
        refine lv_iconst (v := 5) hx hb dX11_poke_30 (by decide) (hp_n (n := 31) rfl ?_)
        refine q_ci (pc' := 34) Bh_4 (hp_runV (As := [.int 5]) (rest := []) C Bh_4 (t_X11_refuse Γ l α Bh_4.2.2.1 a0 (cw_k Bh_4.2.2 k0) 5) lb_X11_refuse lv_X11_refuse lk_X11_98 (cw_k Bh_4.2.2 k0) rfl (by decide) rfl hl.1 rfl (Nat.le_of_ble_eq_true rfl) dX11_poke_31 ⟨Nat.le_refl _, Nat.le_refl _⟩) (fun _ _ h => cw_tr Bh_4.2.2 h (by decide)) rfl (fun rh_12 αh_12 Hh_12 Lh_12 ph_12 Bh_12 => ?_)
        exact q_iret C Bh_12 hr hlk Bh_12.2.2 dX11_poke_34
    ·
      have jc_5 := il_eq c_5
      exact J12 Hh_4 Lh_4 Bh_4 ls (lv_sub hl [0] rfl)
abbrev w_X11_pad : cw_W := ([600], [], [], [])
set_option maxRecDepth 100000 in
set_option maxHeartbeats 4000000 in
theorem t_X11_pad (Γ : hp_G) (l : Launch) (α : hp_T) (g : GC α) (a0 : Nat) (k0 : hp_K α a0 = 12) (a1 : Int32) : Met l yX11_pad (hp_ws yX11_pad cX11_pad 2 (some .int)) (hp_rm 1 0 0) (hp_Pc Γ α [.ref a0, .int a1]) (hp_Qi Γ (fun r β => cw w_X11_pad α β)) 0 0 (hp_A Γ) := by
  refine hp_start (by decide) ?_
  intro p e s m below meth c C hr hlk B0 hnm
  have C : hp_C Γ p m c cX11_pad 2 s ([.ref a0, .int a1] : List Value).toArray RX11 := C
  have hx := C.1.1
  have hb := C.1.2.1
  have hown := C.1.2.2.2.1
  have hts := C.1.2.2.2.2
  have B : hp_B Γ (cw w_X11_pad) s α α s.heap [] := ⟨B0.1, B0.2.1, cw_rf g⟩
  have lit0 : (0 : Int32).toInt = 0 := by decide
  have lit1 : (1 : Int32).toInt = 1 := by decide
  have lit5 : (5 : Int32).toInt = 5 := by decide
  have hl := lv_entry ([.ref a0, .int a1]) (n := 2) (Nat.le_of_ble_eq_true rfl)
  show W p l e (hp_rm 1 0 0) s m ([.ref a0, .int a1] : List Value).toArray below meth c s.heap [] 0 0 (MQ below (hp_Qi Γ (fun r β => cw w_X11_pad α β)) ([.ref a0, .int a1] : List Value).toArray s 0 0 (hp_A Γ)) (entryFrame m ([.ref a0, .int a1] : List Value).toArray 2)
  rw [lg_entry_eq]
  generalize (lg_sl ([.ref a0, .int a1]) ++ List.replicate (2 - (lg_sl ([.ref a0, .int a1])).length) Slot.unset).toArray = ls at hl ⊢
  have hl : lv_has ls 2 [(0, .ref a0), (1, .int a1)] := hl
  refine lv_iload_n hx hb dX11_pad_0 rfl (lv_at hl 1 rfl) (hp_n (n := 1) rfl ?_)
  refine lv_if_ge (tgt := 10) hx hb dX11_pad_1 (by decide) (fun c_1 => ?_) (fun c_1 => hp_n (n := 4) rfl ?_)
  ·
    have jc_1 := il_le c_1
    refine lv_iload_n hx hb dX11_pad_10 rfl (lv_at hl 1 rfl) (hp_n (n := 11) rfl ?_)
    refine lv_aload_n hx hb dX11_pad_11 rfl (lv_at hl 0 rfl) (hp_n (n := 12) rfl ?_)
    refine q_getr (κ := 12) (k := 3) (φ := 603) (pc' := 15) C B (cw_k B.2.2 k0) fl_X11_26 rfl rfl rfl (cw_r B.2.2 k0 rfl rfl (by decide) (by decide)) dX11_pad_12 rfl (fun b_2 eb_2 kb_2 => ?_)
    refine q_geti (κ := 6) (k := 1) (φ := 301) (pc' := 18) C B (cw_k B.2.2 kb_2) fl_X11_132 rfl rfl rfl dX11_pad_15 rfl (fun x_3 ex_3 => ?_)
    refine lv_icmp_ge (tgt := 36) hx hb dX11_pad_18 (by decide) (fun c_4 => ?_) (fun c_4 => hp_n (n := 21) rfl ?_)
    ·
      have jc_4 := il_le c_4
      refine lv_aload_n hx hb dX11_pad_36 rfl (lv_at hl 0 rfl) (hp_n (n := 37) rfl ?_)
      refine lv_iconst (v := 5) hx hb dX11_pad_37 (by decide) (hp_n (n := 38) rfl ?_)
      refine q_ci (pc' := 41) B (hp_runV (As := [.int 5]) (rest := []) C B (t_X11_refuse Γ l α B.2.2.1 a0 (cw_k B.2.2 k0) 5) lb_X11_refuse lv_X11_refuse lk_X11_98 (cw_k B.2.2 k0) rfl (by decide) rfl hl.1 rfl (Nat.le_of_ble_eq_true rfl) dX11_pad_38 ⟨Nat.le_refl _, Nat.le_refl _⟩) (fun _ _ h => cw_tr B.2.2 h (by decide)) rfl (fun rh_5 αh_5 Hh_5 Lh_5 ph_5 Bh_5 => ?_)
      exact q_iret C Bh_5 hr hlk Bh_5.2.2 dX11_pad_41
    ·
      have jc_4 := il_nle c_4
      refine lv_aload_n hx hb dX11_pad_21 rfl (lv_at hl 0 rfl) (hp_n (n := 22) rfl ?_)
      refine lv_aload_n hx hb dX11_pad_22 rfl (lv_at hl 0 rfl) (hp_n (n := 23) rfl ?_)
      refine q_gets (κ := 12) (k := 3) (φ := 603) (pc' := 26) C B (cw_k B.2.2 k0) fl_X11_26 rfl rfl rfl eb_2 dX11_pad_23 rfl ?_
      refine lv_iload_n hx hb dX11_pad_26 rfl (lv_at hl 1 rfl) (hp_n (n := 27) rfl ?_)
      refine q_ci (pc' := 30) B (hp_runV (As := [.int a1]) (rest := [.ref a0]) C B (t_X5_at Γ l α B.2.2.1 b_2 (cw_k B.2.2 kb_2) a1) lb_X5_at lv_X5_at lk_X11_135 (cw_k B.2.2 kb_2) rfl (by decide) rfl hl.1 rfl (Nat.le_of_ble_eq_true rfl) dX11_pad_27 ⟨Nat.le_refl _, Nat.le_refl _⟩) (fun _ _ h => by rw [h]; exact B.2.2) rfl (fun rh_6 αh_6 Hh_6 Lh_6 ph_6 Bh_6 => ?_)
      rw [ph_6] at Bh_6
      refine q_ci (pc' := 33) Bh_6 (hp_runV (As := [.int rh_6]) (rest := []) C Bh_6 (t_X11_answer Γ l α Bh_6.2.2.1 a0 (cw_k Bh_6.2.2 k0) rh_6) lb_X11_answer lv_X11_answer lk_X11_115 (cw_k Bh_6.2.2 k0) rfl (by decide) rfl hl.1 rfl (Nat.le_of_ble_eq_true rfl) dX11_pad_30 ⟨Nat.le_refl _, Nat.le_refl _⟩) (fun _ _ h => cw_tr Bh_6.2.2 h (by decide)) rfl (fun rh_7 αh_7 Hh_7 Lh_7 ph_7 Bh_7 => ?_)
      refine lv_goto (tgt := 41) hx hb dX11_pad_33 (by decide) ?_
      exact q_iret C Bh_7 hr hlk Bh_7.2.2 dX11_pad_41
  ·
    have jc_1 := il_nle c_1
    refine lv_aload_n hx hb dX11_pad_4 rfl (lv_at hl 0 rfl) (hp_n (n := 5) rfl ?_)
    refine lv_iconst (v := 1) hx hb dX11_pad_5 (by decide) (hp_n (n := 6) rfl ?_)
    refine q_ci (pc' := 9) B (hp_runV (As := [.int 1]) (rest := []) C B (t_X11_refuse Γ l α B.2.2.1 a0 (cw_k B.2.2 k0) 1) lb_X11_refuse lv_X11_refuse lk_X11_98 (cw_k B.2.2 k0) rfl (by decide) rfl hl.1 rfl (Nat.le_of_ble_eq_true rfl) dX11_pad_6 ⟨Nat.le_refl _, Nat.le_refl _⟩) (fun _ _ h => cw_tr B.2.2 h (by decide)) rfl (fun rh_8 αh_8 Hh_8 Lh_8 ph_8 Bh_8 => ?_)
    exact q_iret C Bh_8 hr hlk Bh_8.2.2 dX11_pad_9
abbrev w_X11_cut : cw_W := ([301, 600], [], [], [])
set_option maxRecDepth 100000 in
set_option maxHeartbeats 4000000 in
theorem t_X11_cut (Γ : hp_G) (l : Launch) (α : hp_T) (g : GC α) (a0 : Nat) (k0 : hp_K α a0 = 12) (a1 : Int32) : Met l yX11_cut (hp_ws yX11_cut cX11_cut 2 (some .int)) (hp_rm 1 0 0) (hp_Pc Γ α [.ref a0, .int a1]) (hp_Qi Γ (fun r β => cw w_X11_cut α β)) 0 0 (hp_A Γ) := by
  refine hp_start (by decide) ?_
  intro p e s m below meth c C hr hlk B0 hnm
  have C : hp_C Γ p m c cX11_cut 2 s ([.ref a0, .int a1] : List Value).toArray RX11 := C
  have hx := C.1.1
  have hb := C.1.2.1
  have hown := C.1.2.2.2.1
  have hts := C.1.2.2.2.2
  have B : hp_B Γ (cw w_X11_cut) s α α s.heap [] := ⟨B0.1, B0.2.1, cw_rf g⟩
  have lit0 : (0 : Int32).toInt = 0 := by decide
  have lit1 : (1 : Int32).toInt = 1 := by decide
  have lit5 : (5 : Int32).toInt = 5 := by decide
  have hl := lv_entry ([.ref a0, .int a1]) (n := 2) (Nat.le_of_ble_eq_true rfl)
  show W p l e (hp_rm 1 0 0) s m ([.ref a0, .int a1] : List Value).toArray below meth c s.heap [] 0 0 (MQ below (hp_Qi Γ (fun r β => cw w_X11_cut α β)) ([.ref a0, .int a1] : List Value).toArray s 0 0 (hp_A Γ)) (entryFrame m ([.ref a0, .int a1] : List Value).toArray 2)
  rw [lg_entry_eq]
  generalize (lg_sl ([.ref a0, .int a1]) ++ List.replicate (2 - (lg_sl ([.ref a0, .int a1])).length) Slot.unset).toArray = ls at hl ⊢
  have hl : lv_has ls 2 [(0, .ref a0), (1, .int a1)] := hl
  refine lv_iload_n hx hb dX11_cut_0 rfl (lv_at hl 1 rfl) (hp_n (n := 1) rfl ?_)
  refine lv_if_ge (tgt := 10) hx hb dX11_cut_1 (by decide) (fun c_1 => ?_) (fun c_1 => hp_n (n := 4) rfl ?_)
  ·
    have jc_1 := il_le c_1
    refine lv_iload_n hx hb dX11_cut_10 rfl (lv_at hl 1 rfl) (hp_n (n := 11) rfl ?_)
    refine lv_aload_n hx hb dX11_cut_11 rfl (lv_at hl 0 rfl) (hp_n (n := 12) rfl ?_)
    refine q_getr (κ := 12) (k := 3) (φ := 603) (pc' := 15) C B (cw_k B.2.2 k0) fl_X11_26 rfl rfl rfl (cw_r B.2.2 k0 rfl rfl (by decide) (by decide)) dX11_cut_12 rfl (fun b_2 eb_2 kb_2 => ?_)
    refine q_geti (κ := 6) (k := 1) (φ := 301) (pc' := 18) C B (cw_k B.2.2 kb_2) fl_X11_132 rfl rfl rfl dX11_cut_15 rfl (fun x_3 ex_3 => ?_)
    refine lv_icmp_le (tgt := 27) hx hb dX11_cut_18 (by decide) (fun c_4 => ?_) (fun c_4 => hp_n (n := 21) rfl ?_)
    ·
      have jc_4 := il_le c_4
      refine lv_aload_n hx hb dX11_cut_27 rfl (lv_at hl 0 rfl) (hp_n (n := 28) rfl ?_)
      refine q_gets (κ := 12) (k := 3) (φ := 603) (pc' := 31) C B (cw_k B.2.2 k0) fl_X11_26 rfl rfl rfl eb_2 dX11_cut_28 rfl ?_
      refine lv_iload_n hx hb dX11_cut_31 rfl (lv_at hl 1 rfl) (hp_n (n := 32) rfl ?_)
      refine q_cv (pc' := 35) B (hp_runV (As := [.int a1]) (rest := []) C B (t_X5_shorten Γ l α B.2.2.1 b_2 (cw_k B.2.2 kb_2) a1) lb_X5_shorten lv_X5_shorten lk_X11_109 (cw_k B.2.2 kb_2) rfl (by decide) rfl hl.1 rfl (Nat.le_of_ble_eq_true rfl) dX11_cut_32 ⟨Nat.le_refl _, Nat.le_refl _⟩) (fun _ h => cw_tr B.2.2 h (by decide)) rfl (fun αh_5 Hh_5 Lh_5 ph_5 Bh_5 => ?_)
      refine lv_aload_n hx hb dX11_cut_35 rfl (lv_at hl 0 rfl) (hp_n (n := 36) rfl ?_)
      refine lv_iload_n hx hb dX11_cut_36 rfl (lv_at hl 1 rfl) (hp_n (n := 37) rfl ?_)
      refine q_ci (pc' := 40) Bh_5 (hp_runV (As := [.int a1]) (rest := []) C Bh_5 (t_X11_answer Γ l αh_5 Bh_5.2.2.1 a0 (cw_k Bh_5.2.2 k0) a1) lb_X11_answer lv_X11_answer lk_X11_115 (cw_k Bh_5.2.2 k0) rfl (by decide) rfl hl.1 rfl (Nat.le_of_ble_eq_true rfl) dX11_cut_37 ⟨Nat.le_refl _, Nat.le_refl _⟩) (fun _ _ h => cw_tr Bh_5.2.2 h (by decide)) rfl (fun rh_6 αh_6 Hh_6 Lh_6 ph_6 Bh_6 => ?_)
      exact q_iret C Bh_6 hr hlk Bh_6.2.2 dX11_cut_40
    ·
      have jc_4 := il_nle c_4
      refine lv_aload_n hx hb dX11_cut_21 rfl (lv_at hl 0 rfl) (hp_n (n := 22) rfl ?_)
      refine lv_iconst (v := 5) hx hb dX11_cut_22 (by decide) (hp_n (n := 23) rfl ?_)
      refine q_ci (pc' := 26) B (hp_runV (As := [.int 5]) (rest := []) C B (t_X11_refuse Γ l α B.2.2.1 a0 (cw_k B.2.2 k0) 5) lb_X11_refuse lv_X11_refuse lk_X11_98 (cw_k B.2.2 k0) rfl (by decide) rfl hl.1 rfl (Nat.le_of_ble_eq_true rfl) dX11_cut_23 ⟨Nat.le_refl _, Nat.le_refl _⟩) (fun _ _ h => cw_tr B.2.2 h (by decide)) rfl (fun rh_7 αh_7 Hh_7 Lh_7 ph_7 Bh_7 => ?_)
      exact q_iret C Bh_7 hr hlk Bh_7.2.2 dX11_cut_26
  ·
    have jc_1 := il_nle c_1
    refine lv_aload_n hx hb dX11_cut_4 rfl (lv_at hl 0 rfl) (hp_n (n := 5) rfl ?_)
    refine lv_iconst (v := 1) hx hb dX11_cut_5 (by decide) (hp_n (n := 6) rfl ?_)
    refine q_ci (pc' := 9) B (hp_runV (As := [.int 1]) (rest := []) C B (t_X11_refuse Γ l α B.2.2.1 a0 (cw_k B.2.2 k0) 1) lb_X11_refuse lv_X11_refuse lk_X11_98 (cw_k B.2.2 k0) rfl (by decide) rfl hl.1 rfl (Nat.le_of_ble_eq_true rfl) dX11_cut_6 ⟨Nat.le_refl _, Nat.le_refl _⟩) (fun _ _ h => cw_tr B.2.2 h (by decide)) rfl (fun rh_8 αh_8 Hh_8 Lh_8 ph_8 Bh_8 => ?_)
    exact q_iret C Bh_8 hr hlk Bh_8.2.2 dX11_cut_9
abbrev w_X11_include : cw_W := ([301, 453, 454, 600], [], [20, 21, 22, 23, 33], [])
set_option maxRecDepth 100000 in
set_option maxHeartbeats 4000000 in
theorem t_X11_include (Γ : hp_G) (l : Launch) (α : hp_T) (g : GC α) (a0 : Nat) (k0 : hp_K α a0 = 12) (a1 : Int32) (a2 : Int32) (a3 : Int32) : Met l yX11_include (hp_ws yX11_include cX11_include 6 (some .int)) (hp_rm 4 0 0) (hp_Pc Γ α [.ref a0, .int a1, .int a2, .int a3]) (hp_Qi Γ (fun r β => cw w_X11_include α β)) 0 0 (hp_A Γ) := by
  refine hp_start (by decide) ?_
  intro p e s m below meth c C hr hlk B0 hnm
  have C : hp_C Γ p m c cX11_include 6 s ([.ref a0, .int a1, .int a2, .int a3] : List Value).toArray RX11 := C
  have hx := C.1.1
  have hb := C.1.2.1
  have hown := C.1.2.2.2.1
  have hts := C.1.2.2.2.2
  have B : hp_B Γ (cw w_X11_include) s α α s.heap [] := ⟨B0.1, B0.2.1, cw_rf g⟩
  have lit0 : (0 : Int32).toInt = 0 := by decide
  have hl := lv_entry ([.ref a0, .int a1, .int a2, .int a3]) (n := 6) (Nat.le_of_ble_eq_true rfl)
  show W p l e (hp_rm 4 0 0) s m ([.ref a0, .int a1, .int a2, .int a3] : List Value).toArray below meth c s.heap [] 0 0 (MQ below (hp_Qi Γ (fun r β => cw w_X11_include α β)) ([.ref a0, .int a1, .int a2, .int a3] : List Value).toArray s 0 0 (hp_A Γ)) (entryFrame m ([.ref a0, .int a1, .int a2, .int a3] : List Value).toArray 6)
  rw [lg_entry_eq]
  generalize (lg_sl ([.ref a0, .int a1, .int a2, .int a3]) ++ List.replicate (6 - (lg_sl ([.ref a0, .int a1, .int a2, .int a3])).length) Slot.unset).toArray = ls at hl ⊢
  have hl : lv_has ls 6 [(0, .ref a0), (1, .int a1), (2, .int a2), (3, .int a3)] := hl
  refine lv_aload_n hx hb dX11_include_0 rfl (lv_at hl 0 rfl) (hp_n (n := 1) rfl ?_)
  refine q_getr (κ := 12) (k := 1) (φ := 601) (pc' := 4) C B (cw_k B.2.2 k0) fl_X11_16 rfl rfl rfl (cw_r B.2.2 k0 rfl rfl (by decide) (by decide)) dX11_include_1 rfl (fun b_1 eb_1 kb_1 => ?_)
  refine lv_iload_n hx hb dX11_include_4 rfl (lv_at hl 1 rfl) (hp_n (n := 5) rfl ?_)
  refine q_cq (pc' := 8) B (hp_runV (As := [.int a1]) (rest := []) C B (t_X10_logAt Γ l α B.2.2.1 b_1 (cw_k B.2.2 kb_1) a1) lb_X10_logAt lv_X10_logAt lk_X11_163 (cw_k B.2.2 kb_1) rfl (by decide) rfl hl.1 rfl (Nat.le_of_ble_eq_true rfl) dX11_include_5 ⟨Nat.le_refl _, Nat.le_refl _⟩) (fun _ _ h => by rw [h.1]; exact B.2.2) rfl (fun rh_2 αh_2 Hh_2 Lh_2 ph_2 Bh_2 => ?_)
  rw [ph_2.1] at Bh_2
  rcases rh_2 with _ | bh_2
  ·
    refine lv_astoreN (lv' := [(4, .null), (0, .ref a0), (1, .int a1), (2, .int a2), (3, .int a3)]) hx hb dX11_include_8 hl (by decide) rfl (fun ls hl => hp_n (n := 10) rfl ?_)
    refine lv_aloadN hx hb dX11_include_10 (lv_at hl 0 rfl) (hp_n (n := 12) rfl ?_)
    refine lv_iload_n hx hb dX11_include_12 rfl (lv_at hl 3 rfl) (hp_n (n := 13) rfl ?_)
    refine lv_iload_n hx hb dX11_include_13 rfl (lv_at hl 4 rfl) (hp_n (n := 14) rfl ?_)
    refine q_ci (pc' := 17) Bh_2 (hp_runS (As := [va_rf none, .int a2, .int a3]) (rest := []) C Bh_2 (t_X11_wrongInclusion Γ l α Bh_2.2.2.1 none (fun b h => by cases h) a2 a3) lb_X11_wrongInclusion ls_X11_wrongInclusion lk_X11_264 rfl (by decide) rfl hl.1 rfl (Nat.le_of_ble_eq_true rfl) dX11_include_14 ⟨Nat.le_refl _, Nat.le_refl _⟩) (fun _ _ h => by rw [h]; exact Bh_2.2.2) rfl (fun rh_3 αh_3 Hh_3 Lh_3 ph_3 Bh_3 => ?_)
    rw [ph_3] at Bh_3
    refine lv_istore (lv' := [(5, .int rh_3), (4, .null), (0, .ref a0), (1, .int a1), (2, .int a2), (3, .int a3)]) hx hb dX11_include_17 hl (by decide) rfl (fun ls hl => hp_n (n := 19) rfl ?_)
    refine lv_iload hx hb dX11_include_19 (lv_at hl 0 rfl) (hp_n (n := 21) rfl ?_)
    refine lv_if_eq (tgt := 31) hx hb dX11_include_21 (by decide) (fun c_4 => ?_) (fun c_4 => hp_n (n := 24) rfl ?_)
    ·
      have jc_4 := il_eq c_4
      refine lv_aload_n hx hb dX11_include_31 rfl (lv_at hl 2 rfl) (hp_n (n := 32) rfl ?_)
      refine q_getr (κ := 12) (k := 12) (φ := 612) (pc' := 35) C Bh_3 (cw_k Bh_3.2.2 k0) fl_X11_62 rfl rfl rfl (cw_r Bh_3.2.2 k0 rfl rfl (by decide) (by decide)) dX11_include_32 rfl (fun b_5 eb_5 kb_5 => ?_)
      refine lv_iload_n hx hb dX11_include_35 rfl (lv_at hl 4 rfl) (hp_n (n := 36) rfl ?_)
      refine lv_iload_n hx hb dX11_include_36 rfl (lv_at hl 5 rfl) (hp_n (n := 37) rfl ?_)
      refine q_cv (pc' := 40) Bh_3 (hp_runV (As := [.int a2, .int a3]) (rest := []) C Bh_3 (t_X8_toThing Γ l α Bh_3.2.2.1 b_5 (cw_k Bh_3.2.2 kb_5) a2 a3) lb_X8_toThing lv_X8_toThing lk_X11_267 (cw_k Bh_3.2.2 kb_5) rfl (by decide) rfl hl.1 rfl (Nat.le_of_ble_eq_true rfl) dX11_include_37 ⟨Nat.le_refl _, Nat.le_refl _⟩) (fun _ h => cw_tr Bh_3.2.2 h (by decide)) rfl (fun αh_6 Hh_6 Lh_6 ph_6 Bh_6 => ?_)
      refine lv_aload_n hx hb dX11_include_40 rfl (lv_at hl 2 rfl) (hp_n (n := 41) rfl ?_)
      have t_7 : b_1 = hp_R αh_6 601 a0 := by rw [cw_R ph_6 a0 (by decide)]; exact eb_1
      refine q_gets (κ := 12) (k := 1) (φ := 601) (pc' := 44) C Bh_6 (cw_k Bh_6.2.2 k0) fl_X11_16 rfl rfl rfl t_7 dX11_include_41 rfl ?_
      refine lv_aload_n hx hb dX11_include_44 rfl (lv_at hl 2 rfl) (hp_n (n := 45) rfl ?_)
      have t_8 : b_5 = hp_R αh_6 612 a0 := by rw [cw_R ph_6 a0 (by decide)]; exact eb_5
      refine q_gets (κ := 12) (k := 12) (φ := 612) (pc' := 48) C Bh_6 (cw_k Bh_6.2.2 k0) fl_X11_62 rfl rfl rfl t_8 dX11_include_45 rfl ?_
      refine lv_aloadN hx hb dX11_include_48 (lv_at hl 1 rfl) (hp_n (n := 50) rfl ?_)
      refine lv_aload_n hx hb dX11_include_50 rfl (lv_at hl 2 rfl) (hp_n (n := 51) rfl ?_)
      refine q_getr (κ := 12) (k := 3) (φ := 603) (pc' := 54) C Bh_6 (cw_k Bh_6.2.2 k0) fl_X11_26 rfl rfl rfl (cw_r Bh_6.2.2 k0 rfl rfl (by decide) (by decide)) dX11_include_51 rfl (fun b_9 eb_9 kb_9 => ?_)
      refine q_cv (pc' := 57) Bh_6 (hp_runV (As := [.ref b_5, va_rf none, .ref b_9]) (rest := []) C Bh_6 (t_X10_marksAlong Γ l αh_6 Bh_6.2.2.1 b_1 (cw_k Bh_6.2.2 kb_1) b_5 (cw_k Bh_6.2.2 kb_5) none (fun b h => by cases h) b_9 (cw_k Bh_6.2.2 kb_9)) lb_X10_marksAlong lv_X10_marksAlong lk_X11_270 (cw_k Bh_6.2.2 kb_1) rfl (by decide) rfl hl.1 rfl (Nat.le_of_ble_eq_true rfl) dX11_include_54 ⟨Nat.le_refl _, Nat.le_refl _⟩) (fun _ h => cw_tr Bh_6.2.2 h (by decide)) rfl (fun αh_10 Hh_10 Lh_10 ph_10 Bh_10 => ?_)
      refine lv_aload_n hx hb dX11_include_57 rfl (lv_at hl 2 rfl) (hp_n (n := 58) rfl ?_)
      refine lv_aload_n hx hb dX11_include_58 rfl (lv_at hl 2 rfl) (hp_n (n := 59) rfl ?_)
      have t_11 : b_9 = hp_R αh_10 603 a0 := by rw [cw_R ph_10 a0 (by decide)]; exact eb_9
      refine q_gets (κ := 12) (k := 3) (φ := 603) (pc' := 62) C Bh_10 (cw_k Bh_10.2.2 k0) fl_X11_26 rfl rfl rfl t_11 dX11_include_59 rfl ?_
      refine q_geti (κ := 6) (k := 1) (φ := 301) (pc' := 65) C Bh_10 (cw_k Bh_10.2.2 kb_9) fl_X11_132 rfl rfl rfl dX11_include_62 rfl (fun x_12 ex_12 => ?_)
      refine q_ci (pc' := 68) Bh_10 (hp_runV (As := [.int x_12]) (rest := []) C Bh_10 (t_X11_answer Γ l αh_10 Bh_10.2.2.1 a0 (cw_k Bh_10.2.2 k0) x_12) lb_X11_answer lv_X11_answer lk_X11_115 (cw_k Bh_10.2.2 k0) rfl (by decide) rfl hl.1 rfl (Nat.le_of_ble_eq_true rfl) dX11_include_65 ⟨Nat.le_refl _, Nat.le_refl _⟩) (fun _ _ h => cw_tr Bh_10.2.2 h (by decide)) rfl (fun rh_13 αh_13 Hh_13 Lh_13 ph_13 Bh_13 => ?_)
      exact q_iret C Bh_13 hr hlk Bh_13.2.2 dX11_include_68
    ·
      have jc_4 := il_ne c_4
      refine lv_aload_n hx hb dX11_include_24 rfl (lv_at hl 2 rfl) (hp_n (n := 25) rfl ?_)
      refine lv_iload hx hb dX11_include_25 (lv_at hl 0 rfl) (hp_n (n := 27) rfl ?_)
      refine q_ci (pc' := 30) Bh_3 (hp_runV (As := [.int rh_3]) (rest := []) C Bh_3 (t_X11_refuse Γ l α Bh_3.2.2.1 a0 (cw_k Bh_3.2.2 k0) rh_3) lb_X11_refuse lv_X11_refuse lk_X11_98 (cw_k Bh_3.2.2 k0) rfl (by decide) rfl hl.1 rfl (Nat.le_of_ble_eq_true rfl) dX11_include_27 ⟨Nat.le_refl _, Nat.le_refl _⟩) (fun _ _ h => cw_tr Bh_3.2.2 h (by decide)) rfl (fun rh_14 αh_14 Hh_14 Lh_14 ph_14 Bh_14 => ?_)
      exact q_iret C Bh_14 hr hlk Bh_14.2.2 dX11_include_30
  ·
    have kbh_2 : hp_K α bh_2 = 3 := cw_k' Bh_2.2.2 (ph_2.2 bh_2 rfl)
    refine lv_astore (lv' := [(4, .ref bh_2), (0, .ref a0), (1, .int a1), (2, .int a2), (3, .int a3)]) hx hb dX11_include_8 hl (by decide) rfl (fun ls hl => hp_n (n := 10) rfl ?_)
    refine lv_aload hx hb dX11_include_10 (lv_at hl 0 rfl) (hp_n (n := 12) rfl ?_)
    refine lv_iload_n hx hb dX11_include_12 rfl (lv_at hl 3 rfl) (hp_n (n := 13) rfl ?_)
    refine lv_iload_n hx hb dX11_include_13 rfl (lv_at hl 4 rfl) (hp_n (n := 14) rfl ?_)
    refine q_ci (pc' := 17) Bh_2 (hp_runS (As := [va_rf (some bh_2), .int a2, .int a3]) (rest := []) C Bh_2 (t_X11_wrongInclusion Γ l α Bh_2.2.2.1 (some bh_2) (fun b h => by cases h; exact (cw_k Bh_2.2.2 kbh_2)) a2 a3) lb_X11_wrongInclusion ls_X11_wrongInclusion lk_X11_264 rfl (by decide) rfl hl.1 rfl (Nat.le_of_ble_eq_true rfl) dX11_include_14 ⟨Nat.le_refl _, Nat.le_refl _⟩) (fun _ _ h => by rw [h]; exact Bh_2.2.2) rfl (fun rh_15 αh_15 Hh_15 Lh_15 ph_15 Bh_15 => ?_)
    rw [ph_15] at Bh_15
    refine lv_istore (lv' := [(5, .int rh_15), (4, .ref bh_2), (0, .ref a0), (1, .int a1), (2, .int a2), (3, .int a3)]) hx hb dX11_include_17 hl (by decide) rfl (fun ls hl => hp_n (n := 19) rfl ?_)
    refine lv_iload hx hb dX11_include_19 (lv_at hl 0 rfl) (hp_n (n := 21) rfl ?_)
    refine lv_if_eq (tgt := 31) hx hb dX11_include_21 (by decide) (fun c_16 => ?_) (fun c_16 => hp_n (n := 24) rfl ?_)
    ·
      have jc_16 := il_eq c_16
      refine lv_aload_n hx hb dX11_include_31 rfl (lv_at hl 2 rfl) (hp_n (n := 32) rfl ?_)
      refine q_getr (κ := 12) (k := 12) (φ := 612) (pc' := 35) C Bh_15 (cw_k Bh_15.2.2 k0) fl_X11_62 rfl rfl rfl (cw_r Bh_15.2.2 k0 rfl rfl (by decide) (by decide)) dX11_include_32 rfl (fun b_17 eb_17 kb_17 => ?_)
      refine lv_iload_n hx hb dX11_include_35 rfl (lv_at hl 4 rfl) (hp_n (n := 36) rfl ?_)
      refine lv_iload_n hx hb dX11_include_36 rfl (lv_at hl 5 rfl) (hp_n (n := 37) rfl ?_)
      refine q_cv (pc' := 40) Bh_15 (hp_runV (As := [.int a2, .int a3]) (rest := []) C Bh_15 (t_X8_toThing Γ l α Bh_15.2.2.1 b_17 (cw_k Bh_15.2.2 kb_17) a2 a3) lb_X8_toThing lv_X8_toThing lk_X11_267 (cw_k Bh_15.2.2 kb_17) rfl (by decide) rfl hl.1 rfl (Nat.le_of_ble_eq_true rfl) dX11_include_37 ⟨Nat.le_refl _, Nat.le_refl _⟩) (fun _ h => cw_tr Bh_15.2.2 h (by decide)) rfl (fun αh_18 Hh_18 Lh_18 ph_18 Bh_18 => ?_)
      refine lv_aload_n hx hb dX11_include_40 rfl (lv_at hl 2 rfl) (hp_n (n := 41) rfl ?_)
      have t_19 : b_1 = hp_R αh_18 601 a0 := by rw [cw_R ph_18 a0 (by decide)]; exact eb_1
      refine q_gets (κ := 12) (k := 1) (φ := 601) (pc' := 44) C Bh_18 (cw_k Bh_18.2.2 k0) fl_X11_16 rfl rfl rfl t_19 dX11_include_41 rfl ?_
      refine lv_aload_n hx hb dX11_include_44 rfl (lv_at hl 2 rfl) (hp_n (n := 45) rfl ?_)
      have t_20 : b_17 = hp_R αh_18 612 a0 := by rw [cw_R ph_18 a0 (by decide)]; exact eb_17
      refine q_gets (κ := 12) (k := 12) (φ := 612) (pc' := 48) C Bh_18 (cw_k Bh_18.2.2 k0) fl_X11_62 rfl rfl rfl t_20 dX11_include_45 rfl ?_
      refine lv_aload hx hb dX11_include_48 (lv_at hl 1 rfl) (hp_n (n := 50) rfl ?_)
      refine lv_aload_n hx hb dX11_include_50 rfl (lv_at hl 2 rfl) (hp_n (n := 51) rfl ?_)
      refine q_getr (κ := 12) (k := 3) (φ := 603) (pc' := 54) C Bh_18 (cw_k Bh_18.2.2 k0) fl_X11_26 rfl rfl rfl (cw_r Bh_18.2.2 k0 rfl rfl (by decide) (by decide)) dX11_include_51 rfl (fun b_21 eb_21 kb_21 => ?_)
      refine q_cv (pc' := 57) Bh_18 (hp_runV (As := [.ref b_17, va_rf (some bh_2), .ref b_21]) (rest := []) C Bh_18 (t_X10_marksAlong Γ l αh_18 Bh_18.2.2.1 b_1 (cw_k Bh_18.2.2 kb_1) b_17 (cw_k Bh_18.2.2 kb_17) (some bh_2) (fun b h => by cases h; exact (cw_k Bh_18.2.2 kbh_2)) b_21 (cw_k Bh_18.2.2 kb_21)) lb_X10_marksAlong lv_X10_marksAlong lk_X11_270 (cw_k Bh_18.2.2 kb_1) rfl (by decide) rfl hl.1 rfl (Nat.le_of_ble_eq_true rfl) dX11_include_54 ⟨Nat.le_refl _, Nat.le_refl _⟩) (fun _ h => cw_tr Bh_18.2.2 h (by decide)) rfl (fun αh_22 Hh_22 Lh_22 ph_22 Bh_22 => ?_)
      refine lv_aload_n hx hb dX11_include_57 rfl (lv_at hl 2 rfl) (hp_n (n := 58) rfl ?_)
      refine lv_aload_n hx hb dX11_include_58 rfl (lv_at hl 2 rfl) (hp_n (n := 59) rfl ?_)
      have t_23 : b_21 = hp_R αh_22 603 a0 := by rw [cw_R ph_22 a0 (by decide)]; exact eb_21
      refine q_gets (κ := 12) (k := 3) (φ := 603) (pc' := 62) C Bh_22 (cw_k Bh_22.2.2 k0) fl_X11_26 rfl rfl rfl t_23 dX11_include_59 rfl ?_
      refine q_geti (κ := 6) (k := 1) (φ := 301) (pc' := 65) C Bh_22 (cw_k Bh_22.2.2 kb_21) fl_X11_132 rfl rfl rfl dX11_include_62 rfl (fun x_24 ex_24 => ?_)
      refine q_ci (pc' := 68) Bh_22 (hp_runV (As := [.int x_24]) (rest := []) C Bh_22 (t_X11_answer Γ l αh_22 Bh_22.2.2.1 a0 (cw_k Bh_22.2.2 k0) x_24) lb_X11_answer lv_X11_answer lk_X11_115 (cw_k Bh_22.2.2 k0) rfl (by decide) rfl hl.1 rfl (Nat.le_of_ble_eq_true rfl) dX11_include_65 ⟨Nat.le_refl _, Nat.le_refl _⟩) (fun _ _ h => cw_tr Bh_22.2.2 h (by decide)) rfl (fun rh_25 αh_25 Hh_25 Lh_25 ph_25 Bh_25 => ?_)
      exact q_iret C Bh_25 hr hlk Bh_25.2.2 dX11_include_68
    ·
      have jc_16 := il_ne c_16
      refine lv_aload_n hx hb dX11_include_24 rfl (lv_at hl 2 rfl) (hp_n (n := 25) rfl ?_)
      refine lv_iload hx hb dX11_include_25 (lv_at hl 0 rfl) (hp_n (n := 27) rfl ?_)
      refine q_ci (pc' := 30) Bh_15 (hp_runV (As := [.int rh_15]) (rest := []) C Bh_15 (t_X11_refuse Γ l α Bh_15.2.2.1 a0 (cw_k Bh_15.2.2 k0) rh_15) lb_X11_refuse lv_X11_refuse lk_X11_98 (cw_k Bh_15.2.2 k0) rfl (by decide) rfl hl.1 rfl (Nat.le_of_ble_eq_true rfl) dX11_include_27 ⟨Nat.le_refl _, Nat.le_refl _⟩) (fun _ _ h => cw_tr Bh_15.2.2 h (by decide)) rfl (fun rh_26 αh_26 Hh_26 Lh_26 ph_26 Bh_26 => ?_)
      exact q_iret C Bh_26 hr hlk Bh_26.2.2 dX11_include_30
abbrev w_X11_grow : cw_W := ([301, 453, 454, 600], [], [20, 21, 22, 23, 33], [])
set_option maxRecDepth 100000 in
set_option maxHeartbeats 4000000 in
theorem t_X11_grow (Γ : hp_G) (l : Launch) (α : hp_T) (g : GC α) (a0 : Nat) (k0 : hp_K α a0 = 12) (a1 : Int32) (a2 : Int32) (a3 : Int32) : Met l yX11_grow (hp_ws yX11_grow cX11_grow 6 (some .int)) (hp_rm 4 0 0) (hp_Pc Γ α [.ref a0, .int a1, .int a2, .int a3]) (hp_Qi Γ (fun r β => cw w_X11_grow α β)) 0 0 (hp_A Γ) := by
  refine hp_start (by decide) ?_
  intro p e s m below meth c C hr hlk B0 hnm
  have C : hp_C Γ p m c cX11_grow 6 s ([.ref a0, .int a1, .int a2, .int a3] : List Value).toArray RX11 := C
  have hx := C.1.1
  have hb := C.1.2.1
  have hown := C.1.2.2.2.1
  have hts := C.1.2.2.2.2
  have B : hp_B Γ (cw w_X11_grow) s α α s.heap [] := ⟨B0.1, B0.2.1, cw_rf g⟩
  have lit0 : (0 : Int32).toInt = 0 := by decide
  have hl := lv_entry ([.ref a0, .int a1, .int a2, .int a3]) (n := 6) (Nat.le_of_ble_eq_true rfl)
  show W p l e (hp_rm 4 0 0) s m ([.ref a0, .int a1, .int a2, .int a3] : List Value).toArray below meth c s.heap [] 0 0 (MQ below (hp_Qi Γ (fun r β => cw w_X11_grow α β)) ([.ref a0, .int a1, .int a2, .int a3] : List Value).toArray s 0 0 (hp_A Γ)) (entryFrame m ([.ref a0, .int a1, .int a2, .int a3] : List Value).toArray 6)
  rw [lg_entry_eq]
  generalize (lg_sl ([.ref a0, .int a1, .int a2, .int a3]) ++ List.replicate (6 - (lg_sl ([.ref a0, .int a1, .int a2, .int a3])).length) Slot.unset).toArray = ls at hl ⊢
  have hl : lv_has ls 6 [(0, .ref a0), (1, .int a1), (2, .int a2), (3, .int a3)] := hl
  refine lv_aload_n hx hb dX11_grow_0 rfl (lv_at hl 0 rfl) (hp_n (n := 1) rfl ?_)
  refine q_getr (κ := 12) (k := 1) (φ := 601) (pc' := 4) C B (cw_k B.2.2 k0) fl_X11_16 rfl rfl rfl (cw_r B.2.2 k0 rfl rfl (by decide) (by decide)) dX11_grow_1 rfl (fun b_1 eb_1 kb_1 => ?_)
  refine lv_iload_n hx hb dX11_grow_4 rfl (lv_at hl 1 rfl) (hp_n (n := 5) rfl ?_)
  refine q_cq (pc' := 8) B (hp_runV (As := [.int a1]) (rest := []) C B (t_X10_logAt Γ l α B.2.2.1 b_1 (cw_k B.2.2 kb_1) a1) lb_X10_logAt lv_X10_logAt lk_X11_163 (cw_k B.2.2 kb_1) rfl (by decide) rfl hl.1 rfl (Nat.le_of_ble_eq_true rfl) dX11_grow_5 ⟨Nat.le_refl _, Nat.le_refl _⟩) (fun _ _ h => by rw [h.1]; exact B.2.2) rfl (fun rh_2 αh_2 Hh_2 Lh_2 ph_2 Bh_2 => ?_)
  rw [ph_2.1] at Bh_2
  rcases rh_2 with _ | bh_2
  ·
    refine lv_astoreN (lv' := [(4, .null), (0, .ref a0), (1, .int a1), (2, .int a2), (3, .int a3)]) hx hb dX11_grow_8 hl (by decide) rfl (fun ls hl => hp_n (n := 10) rfl ?_)
    refine lv_aloadN hx hb dX11_grow_10 (lv_at hl 0 rfl) (hp_n (n := 12) rfl ?_)
    refine lv_iload_n hx hb dX11_grow_12 rfl (lv_at hl 3 rfl) (hp_n (n := 13) rfl ?_)
    refine lv_iload_n hx hb dX11_grow_13 rfl (lv_at hl 4 rfl) (hp_n (n := 14) rfl ?_)
    refine q_ci (pc' := 17) Bh_2 (hp_runS (As := [va_rf none, .int a2, .int a3]) (rest := []) C Bh_2 (t_X11_wrongGrowth Γ l α Bh_2.2.2.1 none (fun b h => by cases h) a2 a3) lb_X11_wrongGrowth ls_X11_wrongGrowth lk_X11_180 rfl (by decide) rfl hl.1 rfl (Nat.le_of_ble_eq_true rfl) dX11_grow_14 ⟨Nat.le_refl _, Nat.le_refl _⟩) (fun _ _ h => by rw [h]; exact Bh_2.2.2) rfl (fun rh_3 αh_3 Hh_3 Lh_3 ph_3 Bh_3 => ?_)
    rw [ph_3] at Bh_3
    refine lv_istore (lv' := [(5, .int rh_3), (4, .null), (0, .ref a0), (1, .int a1), (2, .int a2), (3, .int a3)]) hx hb dX11_grow_17 hl (by decide) rfl (fun ls hl => hp_n (n := 19) rfl ?_)
    refine lv_iload hx hb dX11_grow_19 (lv_at hl 0 rfl) (hp_n (n := 21) rfl ?_)
    refine lv_if_eq (tgt := 31) hx hb dX11_grow_21 (by decide) (fun c_4 => ?_) (fun c_4 => hp_n (n := 24) rfl ?_)
    ·
      have jc_4 := il_eq c_4
      refine lv_aload_n hx hb dX11_grow_31 rfl (lv_at hl 2 rfl) (hp_n (n := 32) rfl ?_)
      refine q_getr (κ := 12) (k := 12) (φ := 612) (pc' := 35) C Bh_3 (cw_k Bh_3.2.2 k0) fl_X11_62 rfl rfl rfl (cw_r Bh_3.2.2 k0 rfl rfl (by decide) (by decide)) dX11_grow_32 rfl (fun b_5 eb_5 kb_5 => ?_)
      refine lv_iload_n hx hb dX11_grow_35 rfl (lv_at hl 4 rfl) (hp_n (n := 36) rfl ?_)
      refine lv_iload_n hx hb dX11_grow_36 rfl (lv_at hl 5 rfl) (hp_n (n := 37) rfl ?_)
      refine q_cv (pc' := 40) Bh_3 (hp_runV (As := [.int a2, .int a3]) (rest := []) C Bh_3 (t_X8_toGrowth Γ l α Bh_3.2.2.1 b_5 (cw_k Bh_3.2.2 kb_5) a2 a3) lb_X8_toGrowth lv_X8_toGrowth lk_X11_274 (cw_k Bh_3.2.2 kb_5) rfl (by decide) rfl hl.1 rfl (Nat.le_of_ble_eq_true rfl) dX11_grow_37 ⟨Nat.le_refl _, Nat.le_refl _⟩) (fun _ h => cw_tr Bh_3.2.2 h (by decide)) rfl (fun αh_6 Hh_6 Lh_6 ph_6 Bh_6 => ?_)
      refine lv_aload_n hx hb dX11_grow_40 rfl (lv_at hl 2 rfl) (hp_n (n := 41) rfl ?_)
      have t_7 : b_1 = hp_R αh_6 601 a0 := by rw [cw_R ph_6 a0 (by decide)]; exact eb_1
      refine q_gets (κ := 12) (k := 1) (φ := 601) (pc' := 44) C Bh_6 (cw_k Bh_6.2.2 k0) fl_X11_16 rfl rfl rfl t_7 dX11_grow_41 rfl ?_
      refine lv_aload_n hx hb dX11_grow_44 rfl (lv_at hl 2 rfl) (hp_n (n := 45) rfl ?_)
      have t_8 : b_5 = hp_R αh_6 612 a0 := by rw [cw_R ph_6 a0 (by decide)]; exact eb_5
      refine q_gets (κ := 12) (k := 12) (φ := 612) (pc' := 48) C Bh_6 (cw_k Bh_6.2.2 k0) fl_X11_62 rfl rfl rfl t_8 dX11_grow_45 rfl ?_
      refine lv_aloadN hx hb dX11_grow_48 (lv_at hl 1 rfl) (hp_n (n := 50) rfl ?_)
      refine lv_aload_n hx hb dX11_grow_50 rfl (lv_at hl 2 rfl) (hp_n (n := 51) rfl ?_)
      refine q_getr (κ := 12) (k := 3) (φ := 603) (pc' := 54) C Bh_6 (cw_k Bh_6.2.2 k0) fl_X11_26 rfl rfl rfl (cw_r Bh_6.2.2 k0 rfl rfl (by decide) (by decide)) dX11_grow_51 rfl (fun b_9 eb_9 kb_9 => ?_)
      refine q_cv (pc' := 57) Bh_6 (hp_runV (As := [.ref b_5, va_rf none, .ref b_9]) (rest := []) C Bh_6 (t_X10_marksAlong Γ l αh_6 Bh_6.2.2.1 b_1 (cw_k Bh_6.2.2 kb_1) b_5 (cw_k Bh_6.2.2 kb_5) none (fun b h => by cases h) b_9 (cw_k Bh_6.2.2 kb_9)) lb_X10_marksAlong lv_X10_marksAlong lk_X11_270 (cw_k Bh_6.2.2 kb_1) rfl (by decide) rfl hl.1 rfl (Nat.le_of_ble_eq_true rfl) dX11_grow_54 ⟨Nat.le_refl _, Nat.le_refl _⟩) (fun _ h => cw_tr Bh_6.2.2 h (by decide)) rfl (fun αh_10 Hh_10 Lh_10 ph_10 Bh_10 => ?_)
      refine lv_aload_n hx hb dX11_grow_57 rfl (lv_at hl 2 rfl) (hp_n (n := 58) rfl ?_)
      refine lv_aload_n hx hb dX11_grow_58 rfl (lv_at hl 2 rfl) (hp_n (n := 59) rfl ?_)
      have t_11 : b_9 = hp_R αh_10 603 a0 := by rw [cw_R ph_10 a0 (by decide)]; exact eb_9
      refine q_gets (κ := 12) (k := 3) (φ := 603) (pc' := 62) C Bh_10 (cw_k Bh_10.2.2 k0) fl_X11_26 rfl rfl rfl t_11 dX11_grow_59 rfl ?_
      refine q_geti (κ := 6) (k := 1) (φ := 301) (pc' := 65) C Bh_10 (cw_k Bh_10.2.2 kb_9) fl_X11_132 rfl rfl rfl dX11_grow_62 rfl (fun x_12 ex_12 => ?_)
      refine q_ci (pc' := 68) Bh_10 (hp_runV (As := [.int x_12]) (rest := []) C Bh_10 (t_X11_answer Γ l αh_10 Bh_10.2.2.1 a0 (cw_k Bh_10.2.2 k0) x_12) lb_X11_answer lv_X11_answer lk_X11_115 (cw_k Bh_10.2.2 k0) rfl (by decide) rfl hl.1 rfl (Nat.le_of_ble_eq_true rfl) dX11_grow_65 ⟨Nat.le_refl _, Nat.le_refl _⟩) (fun _ _ h => cw_tr Bh_10.2.2 h (by decide)) rfl (fun rh_13 αh_13 Hh_13 Lh_13 ph_13 Bh_13 => ?_)
      exact q_iret C Bh_13 hr hlk Bh_13.2.2 dX11_grow_68
    ·
      have jc_4 := il_ne c_4
      refine lv_aload_n hx hb dX11_grow_24 rfl (lv_at hl 2 rfl) (hp_n (n := 25) rfl ?_)
      refine lv_iload hx hb dX11_grow_25 (lv_at hl 0 rfl) (hp_n (n := 27) rfl ?_)
      refine q_ci (pc' := 30) Bh_3 (hp_runV (As := [.int rh_3]) (rest := []) C Bh_3 (t_X11_refuse Γ l α Bh_3.2.2.1 a0 (cw_k Bh_3.2.2 k0) rh_3) lb_X11_refuse lv_X11_refuse lk_X11_98 (cw_k Bh_3.2.2 k0) rfl (by decide) rfl hl.1 rfl (Nat.le_of_ble_eq_true rfl) dX11_grow_27 ⟨Nat.le_refl _, Nat.le_refl _⟩) (fun _ _ h => cw_tr Bh_3.2.2 h (by decide)) rfl (fun rh_14 αh_14 Hh_14 Lh_14 ph_14 Bh_14 => ?_)
      exact q_iret C Bh_14 hr hlk Bh_14.2.2 dX11_grow_30
  ·
    have kbh_2 : hp_K α bh_2 = 3 := cw_k' Bh_2.2.2 (ph_2.2 bh_2 rfl)
    refine lv_astore (lv' := [(4, .ref bh_2), (0, .ref a0), (1, .int a1), (2, .int a2), (3, .int a3)]) hx hb dX11_grow_8 hl (by decide) rfl (fun ls hl => hp_n (n := 10) rfl ?_)
    refine lv_aload hx hb dX11_grow_10 (lv_at hl 0 rfl) (hp_n (n := 12) rfl ?_)
    refine lv_iload_n hx hb dX11_grow_12 rfl (lv_at hl 3 rfl) (hp_n (n := 13) rfl ?_)
    refine lv_iload_n hx hb dX11_grow_13 rfl (lv_at hl 4 rfl) (hp_n (n := 14) rfl ?_)
    refine q_ci (pc' := 17) Bh_2 (hp_runS (As := [va_rf (some bh_2), .int a2, .int a3]) (rest := []) C Bh_2 (t_X11_wrongGrowth Γ l α Bh_2.2.2.1 (some bh_2) (fun b h => by cases h; exact (cw_k Bh_2.2.2 kbh_2)) a2 a3) lb_X11_wrongGrowth ls_X11_wrongGrowth lk_X11_180 rfl (by decide) rfl hl.1 rfl (Nat.le_of_ble_eq_true rfl) dX11_grow_14 ⟨Nat.le_refl _, Nat.le_refl _⟩) (fun _ _ h => by rw [h]; exact Bh_2.2.2) rfl (fun rh_15 αh_15 Hh_15 Lh_15 ph_15 Bh_15 => ?_)
    rw [ph_15] at Bh_15
    refine lv_istore (lv' := [(5, .int rh_15), (4, .ref bh_2), (0, .ref a0), (1, .int a1), (2, .int a2), (3, .int a3)]) hx hb dX11_grow_17 hl (by decide) rfl (fun ls hl => hp_n (n := 19) rfl ?_)
    refine lv_iload hx hb dX11_grow_19 (lv_at hl 0 rfl) (hp_n (n := 21) rfl ?_)
    refine lv_if_eq (tgt := 31) hx hb dX11_grow_21 (by decide) (fun c_16 => ?_) (fun c_16 => hp_n (n := 24) rfl ?_)
    ·
      have jc_16 := il_eq c_16
      refine lv_aload_n hx hb dX11_grow_31 rfl (lv_at hl 2 rfl) (hp_n (n := 32) rfl ?_)
      refine q_getr (κ := 12) (k := 12) (φ := 612) (pc' := 35) C Bh_15 (cw_k Bh_15.2.2 k0) fl_X11_62 rfl rfl rfl (cw_r Bh_15.2.2 k0 rfl rfl (by decide) (by decide)) dX11_grow_32 rfl (fun b_17 eb_17 kb_17 => ?_)
      refine lv_iload_n hx hb dX11_grow_35 rfl (lv_at hl 4 rfl) (hp_n (n := 36) rfl ?_)
      refine lv_iload_n hx hb dX11_grow_36 rfl (lv_at hl 5 rfl) (hp_n (n := 37) rfl ?_)
      refine q_cv (pc' := 40) Bh_15 (hp_runV (As := [.int a2, .int a3]) (rest := []) C Bh_15 (t_X8_toGrowth Γ l α Bh_15.2.2.1 b_17 (cw_k Bh_15.2.2 kb_17) a2 a3) lb_X8_toGrowth lv_X8_toGrowth lk_X11_274 (cw_k Bh_15.2.2 kb_17) rfl (by decide) rfl hl.1 rfl (Nat.le_of_ble_eq_true rfl) dX11_grow_37 ⟨Nat.le_refl _, Nat.le_refl _⟩) (fun _ h => cw_tr Bh_15.2.2 h (by decide)) rfl (fun αh_18 Hh_18 Lh_18 ph_18 Bh_18 => ?_)
      refine lv_aload_n hx hb dX11_grow_40 rfl (lv_at hl 2 rfl) (hp_n (n := 41) rfl ?_)
      have t_19 : b_1 = hp_R αh_18 601 a0 := by rw [cw_R ph_18 a0 (by decide)]; exact eb_1
      refine q_gets (κ := 12) (k := 1) (φ := 601) (pc' := 44) C Bh_18 (cw_k Bh_18.2.2 k0) fl_X11_16 rfl rfl rfl t_19 dX11_grow_41 rfl ?_
      refine lv_aload_n hx hb dX11_grow_44 rfl (lv_at hl 2 rfl) (hp_n (n := 45) rfl ?_)
      have t_20 : b_17 = hp_R αh_18 612 a0 := by rw [cw_R ph_18 a0 (by decide)]; exact eb_17
      refine q_gets (κ := 12) (k := 12) (φ := 612) (pc' := 48) C Bh_18 (cw_k Bh_18.2.2 k0) fl_X11_62 rfl rfl rfl t_20 dX11_grow_45 rfl ?_
      refine lv_aload hx hb dX11_grow_48 (lv_at hl 1 rfl) (hp_n (n := 50) rfl ?_)
      refine lv_aload_n hx hb dX11_grow_50 rfl (lv_at hl 2 rfl) (hp_n (n := 51) rfl ?_)
      refine q_getr (κ := 12) (k := 3) (φ := 603) (pc' := 54) C Bh_18 (cw_k Bh_18.2.2 k0) fl_X11_26 rfl rfl rfl (cw_r Bh_18.2.2 k0 rfl rfl (by decide) (by decide)) dX11_grow_51 rfl (fun b_21 eb_21 kb_21 => ?_)
      refine q_cv (pc' := 57) Bh_18 (hp_runV (As := [.ref b_17, va_rf (some bh_2), .ref b_21]) (rest := []) C Bh_18 (t_X10_marksAlong Γ l αh_18 Bh_18.2.2.1 b_1 (cw_k Bh_18.2.2 kb_1) b_17 (cw_k Bh_18.2.2 kb_17) (some bh_2) (fun b h => by cases h; exact (cw_k Bh_18.2.2 kbh_2)) b_21 (cw_k Bh_18.2.2 kb_21)) lb_X10_marksAlong lv_X10_marksAlong lk_X11_270 (cw_k Bh_18.2.2 kb_1) rfl (by decide) rfl hl.1 rfl (Nat.le_of_ble_eq_true rfl) dX11_grow_54 ⟨Nat.le_refl _, Nat.le_refl _⟩) (fun _ h => cw_tr Bh_18.2.2 h (by decide)) rfl (fun αh_22 Hh_22 Lh_22 ph_22 Bh_22 => ?_)
      refine lv_aload_n hx hb dX11_grow_57 rfl (lv_at hl 2 rfl) (hp_n (n := 58) rfl ?_)
      refine lv_aload_n hx hb dX11_grow_58 rfl (lv_at hl 2 rfl) (hp_n (n := 59) rfl ?_)
      have t_23 : b_21 = hp_R αh_22 603 a0 := by rw [cw_R ph_22 a0 (by decide)]; exact eb_21
      refine q_gets (κ := 12) (k := 3) (φ := 603) (pc' := 62) C Bh_22 (cw_k Bh_22.2.2 k0) fl_X11_26 rfl rfl rfl t_23 dX11_grow_59 rfl ?_
      refine q_geti (κ := 6) (k := 1) (φ := 301) (pc' := 65) C Bh_22 (cw_k Bh_22.2.2 kb_21) fl_X11_132 rfl rfl rfl dX11_grow_62 rfl (fun x_24 ex_24 => ?_)
      refine q_ci (pc' := 68) Bh_22 (hp_runV (As := [.int x_24]) (rest := []) C Bh_22 (t_X11_answer Γ l αh_22 Bh_22.2.2.1 a0 (cw_k Bh_22.2.2 k0) x_24) lb_X11_answer lv_X11_answer lk_X11_115 (cw_k Bh_22.2.2 k0) rfl (by decide) rfl hl.1 rfl (Nat.le_of_ble_eq_true rfl) dX11_grow_65 ⟨Nat.le_refl _, Nat.le_refl _⟩) (fun _ _ h => cw_tr Bh_22.2.2 h (by decide)) rfl (fun rh_25 αh_25 Hh_25 Lh_25 ph_25 Bh_25 => ?_)
      exact q_iret C Bh_25 hr hlk Bh_25.2.2 dX11_grow_68
    ·
      have jc_16 := il_ne c_16
      refine lv_aload_n hx hb dX11_grow_24 rfl (lv_at hl 2 rfl) (hp_n (n := 25) rfl ?_)
      refine lv_iload hx hb dX11_grow_25 (lv_at hl 0 rfl) (hp_n (n := 27) rfl ?_)
      refine q_ci (pc' := 30) Bh_15 (hp_runV (As := [.int rh_15]) (rest := []) C Bh_15 (t_X11_refuse Γ l α Bh_15.2.2.1 a0 (cw_k Bh_15.2.2 k0) rh_15) lb_X11_refuse lv_X11_refuse lk_X11_98 (cw_k Bh_15.2.2 k0) rfl (by decide) rfl hl.1 rfl (Nat.le_of_ble_eq_true rfl) dX11_grow_27 ⟨Nat.le_refl _, Nat.le_refl _⟩) (fun _ _ h => cw_tr Bh_15.2.2 h (by decide)) rfl (fun rh_26 αh_26 Hh_26 Lh_26 ph_26 Bh_26 => ?_)
      exact q_iret C Bh_26 hr hlk Bh_26.2.2 dX11_grow_30
abbrev w_X11_bundle : cw_W := ([301, 453, 454, 600], [], [20, 21, 22, 23, 33], [])
set_option maxRecDepth 100000 in
set_option maxHeartbeats 4000000 in
theorem t_X11_bundle (Γ : hp_G) (l : Launch) (α : hp_T) (g : GC α) (a0 : Nat) (k0 : hp_K α a0 = 12) (a1 : Int32) (a2 : Int32) (a3 : Int32) : Met l yX11_bundle (hp_ws yX11_bundle cX11_bundle 5 (some .int)) (hp_rm 5 0 0) (hp_Pc Γ α [.ref a0, .int a1, .int a2, .int a3]) (hp_Qi Γ (fun r β => cw w_X11_bundle α β)) 0 0 (hp_A Γ) := by
  refine hp_start (by decide) ?_
  intro p e s m below meth c C hr hlk B0 hnm
  have C : hp_C Γ p m c cX11_bundle 5 s ([.ref a0, .int a1, .int a2, .int a3] : List Value).toArray RX11 := C
  have hx := C.1.1
  have hb := C.1.2.1
  have hown := C.1.2.2.2.1
  have hts := C.1.2.2.2.2
  have B : hp_B Γ (cw w_X11_bundle) s α α s.heap [] := ⟨B0.1, B0.2.1, cw_rf g⟩
  have lit0 : (0 : Int32).toInt = 0 := by decide
  have lit1 : (1 : Int32).toInt = 1 := by decide
  have lit2 : (2 : Int32).toInt = 2 := by decide
  have lit5 : (5 : Int32).toInt = 5 := by decide
  have hl := lv_entry ([.ref a0, .int a1, .int a2, .int a3]) (n := 5) (Nat.le_of_ble_eq_true rfl)
  show W p l e (hp_rm 5 0 0) s m ([.ref a0, .int a1, .int a2, .int a3] : List Value).toArray below meth c s.heap [] 0 0 (MQ below (hp_Qi Γ (fun r β => cw w_X11_bundle α β)) ([.ref a0, .int a1, .int a2, .int a3] : List Value).toArray s 0 0 (hp_A Γ)) (entryFrame m ([.ref a0, .int a1, .int a2, .int a3] : List Value).toArray 5)
  rw [lg_entry_eq]
  generalize (lg_sl ([.ref a0, .int a1, .int a2, .int a3]) ++ List.replicate (5 - (lg_sl ([.ref a0, .int a1, .int a2, .int a3])).length) Slot.unset).toArray = ls at hl ⊢
  have hl : lv_has ls 5 [(0, .ref a0), (1, .int a1), (2, .int a2), (3, .int a3)] := hl
  refine lv_iload_n hx hb dX11_bundle_0 rfl (lv_at hl 3 rfl) (hp_n (n := 1) rfl ?_)
  have J11 : ∀ (Hh_1 : Heap) (Lh_1 : List Loc) (Bh_1 : hp_B Γ (cw w_X11_bundle) s α α Hh_1 Lh_1) (ls : Array Slot) (hl : lv_has ls 5 [(0, .ref a0)]), W p l e (hp_rm 5 0 0) s m ([.ref a0, .int a1, .int a2, .int a3] : List Value).toArray below meth c Hh_1 Lh_1 0 0 (MQ below (hp_Qi Γ (fun r β => cw w_X11_bundle α β)) ([.ref a0, .int a1, .int a2, .int a3] : List Value).toArray s 0 0 (hp_A Γ)) (F0 m 11 ls []) := by
    intro Hh_1 Lh_1 Bh_1 ls hl
    refine lv_aload_n hx hb dX11_bundle_11 rfl (lv_at hl 0 rfl) (hp_n (n := 12) rfl ?_)
    refine lv_iconst (v := 1) hx hb dX11_bundle_12 (by decide) (hp_n (n := 13) rfl ?_)
    refine q_ci (pc' := 16) Bh_1 (hp_runV (As := [.int 1]) (rest := []) C Bh_1 (t_X11_refuse Γ l α Bh_1.2.2.1 a0 (cw_k Bh_1.2.2 k0) 1) lb_X11_refuse lv_X11_refuse lk_X11_98 (cw_k Bh_1.2.2 k0) rfl (by decide) rfl hl.1 rfl (Nat.le_of_ble_eq_true rfl) dX11_bundle_13 ⟨Nat.le_refl _, Nat.le_refl _⟩) (fun _ _ h => cw_tr Bh_1.2.2 h (by decide)) rfl (fun rh_2 αh_2 Hh_2 Lh_2 ph_2 Bh_2 => ?_)
    exact q_iret C Bh_2 hr hlk Bh_2.2.2 dX11_bundle_16
  refine lv_if_lt (tgt := 11) hx hb dX11_bundle_1 (by decide) (fun c_3 => ?_) (fun c_3 => hp_n (n := 4) rfl ?_)
  ·
    have jc_3 := il_lt c_3
    exact J11 s.heap [] B ls (lv_sub hl [0] rfl)
  ·
    have jc_3 := il_nlt c_3
    refine lv_iload_n hx hb dX11_bundle_4 rfl (lv_at hl 2 rfl) (hp_n (n := 5) rfl ?_)
    refine q_ci (pc' := 8) B (hp_runS (As := [.int a2]) (rest := []) C B (t_X11_isSet Γ l α B.2.2.1 a2) lb_X11_isSet ls_X11_isSet lk_X11_277 rfl (by decide) rfl hl.1 rfl (Nat.le_of_ble_eq_true rfl) dX11_bundle_5 ⟨Nat.le_refl _, Nat.le_refl _⟩) (fun _ _ h => by rw [h.1]; exact B.2.2) rfl (fun rh_4 αh_4 Hh_4 Lh_4 ph_4 Bh_4 => ?_)
    rw [ph_4.1] at Bh_4
    have zh_4 := ph_4.2
    refine lv_if_ne (tgt := 17) hx hb dX11_bundle_8 (by decide) (fun c_5 => ?_) (fun c_5 => hp_n (n := 11) rfl ?_)
    ·
      have jc_5 := il_ne c_5
      refine lv_aload_n hx hb dX11_bundle_17 rfl (lv_at hl 0 rfl) (hp_n (n := 18) rfl ?_)
      refine q_getr (κ := 12) (k := 1) (φ := 601) (pc' := 21) C Bh_4 (cw_k Bh_4.2.2 k0) fl_X11_16 rfl rfl rfl (cw_r Bh_4.2.2 k0 rfl rfl (by decide) (by decide)) dX11_bundle_18 rfl (fun b_6 eb_6 kb_6 => ?_)
      refine lv_iload_n hx hb dX11_bundle_21 rfl (lv_at hl 1 rfl) (hp_n (n := 22) rfl ?_)
      refine q_cq (pc' := 25) Bh_4 (hp_runV (As := [.int a1]) (rest := []) C Bh_4 (t_X10_logAt Γ l α Bh_4.2.2.1 b_6 (cw_k Bh_4.2.2 kb_6) a1) lb_X10_logAt lv_X10_logAt lk_X11_163 (cw_k Bh_4.2.2 kb_6) rfl (by decide) rfl hl.1 rfl (Nat.le_of_ble_eq_true rfl) dX11_bundle_22 ⟨Nat.le_refl _, Nat.le_refl _⟩) (fun _ _ h => by rw [h.1]; exact Bh_4.2.2) rfl (fun rh_7 αh_7 Hh_7 Lh_7 ph_7 Bh_7 => ?_)
      rw [ph_7.1] at Bh_7
      rcases rh_7 with _ | bh_7
      ·
        refine lv_astoreN (lv' := [(4, .null), (0, .ref a0), (1, .int a1), (2, .int a2), (3, .int a3)]) hx hb dX11_bundle_25 hl (by decide) rfl (fun ls hl => hp_n (n := 27) rfl ?_)
        refine lv_aloadN hx hb dX11_bundle_27 (lv_at hl 0 rfl) (hp_n (n := 29) rfl ?_)
        refine lv_ifnonnullN hx hb dX11_bundle_29 (hp_n (n := 32) rfl ?_)
        refine lv_aload_n hx hb dX11_bundle_32 rfl (lv_at hl 1 rfl) (hp_n (n := 33) rfl ?_)
        refine lv_iconst (v := 2) hx hb dX11_bundle_33 (by decide) (hp_n (n := 34) rfl ?_)
        refine q_ci (pc' := 37) Bh_7 (hp_runV (As := [.int 2]) (rest := []) C Bh_7 (t_X11_refuse Γ l α Bh_7.2.2.1 a0 (cw_k Bh_7.2.2 k0) 2) lb_X11_refuse lv_X11_refuse lk_X11_98 (cw_k Bh_7.2.2 k0) rfl (by decide) rfl hl.1 rfl (Nat.le_of_ble_eq_true rfl) dX11_bundle_34 ⟨Nat.le_refl _, Nat.le_refl _⟩) (fun _ _ h => cw_tr Bh_7.2.2 h (by decide)) rfl (fun rh_8 αh_8 Hh_8 Lh_8 ph_8 Bh_8 => ?_)
        exact q_iret C Bh_8 hr hlk Bh_8.2.2 dX11_bundle_37
      ·
        have kbh_7 : hp_K α bh_7 = 3 := cw_k' Bh_7.2.2 (ph_7.2 bh_7 rfl)
        refine lv_astore (lv' := [(4, .ref bh_7), (0, .ref a0), (1, .int a1), (2, .int a2), (3, .int a3)]) hx hb dX11_bundle_25 hl (by decide) rfl (fun ls hl => hp_n (n := 27) rfl ?_)
        refine lv_aload hx hb dX11_bundle_27 (lv_at hl 0 rfl) (hp_n (n := 29) rfl ?_)
        refine lv_ifnonnull (tgt := 38) hx hb dX11_bundle_29 (by decide) ?_
        refine lv_iload_n hx hb dX11_bundle_38 rfl (lv_at hl 4 rfl) (hp_n (n := 39) rfl ?_)
        refine lv_aload hx hb dX11_bundle_39 (lv_at hl 0 rfl) (hp_n (n := 41) rfl ?_)
        refine q_geti (κ := 3) (k := 2) (φ := 152) (pc' := 44) C Bh_7 (cw_k Bh_7.2.2 kbh_7) fl_X11_167 rfl rfl rfl dX11_bundle_41 rfl (fun x_9 ex_9 => ?_)
        have J55 : ∀ (Hh_10 : Heap) (Lh_10 : List Loc) (Bh_10 : hp_B Γ (cw w_X11_bundle) s α α Hh_10 Lh_10) (ls : Array Slot) (hl : lv_has ls 5 [(0, .ref a0)]), W p l e (hp_rm 5 0 0) s m ([.ref a0, .int a1, .int a2, .int a3] : List Value).toArray below meth c Hh_10 Lh_10 0 0 (MQ below (hp_Qi Γ (fun r β => cw w_X11_bundle α β)) ([.ref a0, .int a1, .int a2, .int a3] : List Value).toArray s 0 0 (hp_A Γ)) (F0 m 55 ls []) := by
          intro Hh_10 Lh_10 Bh_10 ls hl
          refine lv_aload_n hx hb dX11_bundle_55 rfl (lv_at hl 0 rfl) (hp_n (n := 56) rfl ?_)
          refine lv_iconst (v := 5) hx hb dX11_bundle_56 (by decide) (hp_n (n := 57) rfl ?_)
          refine q_ci (pc' := 60) Bh_10 (hp_runV (As := [.int 5]) (rest := []) C Bh_10 (t_X11_refuse Γ l α Bh_10.2.2.1 a0 (cw_k Bh_10.2.2 k0) 5) lb_X11_refuse lv_X11_refuse lk_X11_98 (cw_k Bh_10.2.2 k0) rfl (by decide) rfl hl.1 rfl (Nat.le_of_ble_eq_true rfl) dX11_bundle_57 ⟨Nat.le_refl _, Nat.le_refl _⟩) (fun _ _ h => cw_tr Bh_10.2.2 h (by decide)) rfl (fun rh_11 αh_11 Hh_11 Lh_11 ph_11 Bh_11 => ?_)
          exact q_iret C Bh_11 hr hlk Bh_11.2.2 dX11_bundle_60
        refine lv_icmp_gt (tgt := 55) hx hb dX11_bundle_44 (by decide) (fun c_12 => ?_) (fun c_12 => hp_n (n := 47) rfl ?_)
        ·
          have jc_12 := il_lt c_12
          exact J55 Hh_7 Lh_7 Bh_7 ls (lv_sub hl [1] rfl)
        ·
          have jc_12 := il_nlt c_12
          refine lv_iload_n hx hb dX11_bundle_47 rfl (lv_at hl 3 rfl) (hp_n (n := 48) rfl ?_)
          refine lv_iload_n hx hb dX11_bundle_48 rfl (lv_at hl 4 rfl) (hp_n (n := 49) rfl ?_)
          refine q_ci (pc' := 52) Bh_7 (hp_runS (As := [.int a2, .int a3]) (rest := []) C Bh_7 (t_X11_lieBelow Γ l α Bh_7.2.2.1 a2 a3) lb_X11_lieBelow ls_X11_lieBelow lk_X11_280 rfl (by decide) rfl hl.1 rfl (Nat.le_of_ble_eq_true rfl) dX11_bundle_49 ⟨Nat.le_refl _, Nat.le_refl _⟩) (fun _ _ h => by rw [h.1]; exact Bh_7.2.2) rfl (fun rh_13 αh_13 Hh_13 Lh_13 ph_13 Bh_13 => ?_)
          rw [ph_13.1] at Bh_13
          have zh_13 := ph_13.2
          refine lv_if_ne (tgt := 61) hx hb dX11_bundle_52 (by decide) (fun c_14 => ?_) (fun c_14 => hp_n (n := 55) rfl ?_)
          ·
            have jc_14 := il_ne c_14
            refine lv_aload_n hx hb dX11_bundle_61 rfl (lv_at hl 1 rfl) (hp_n (n := 62) rfl ?_)
            refine q_getr (κ := 12) (k := 12) (φ := 612) (pc' := 65) C Bh_13 (cw_k Bh_13.2.2 k0) fl_X11_62 rfl rfl rfl (cw_r Bh_13.2.2 k0 rfl rfl (by decide) (by decide)) dX11_bundle_62 rfl (fun b_15 eb_15 kb_15 => ?_)
            refine lv_iload_n hx hb dX11_bundle_65 rfl (lv_at hl 3 rfl) (hp_n (n := 66) rfl ?_)
            refine lv_iload_n hx hb dX11_bundle_66 rfl (lv_at hl 4 rfl) (hp_n (n := 67) rfl ?_)
            refine q_cv (pc' := 70) Bh_13 (hp_runV (As := [.int a2, .int a3]) (rest := []) C Bh_13 (t_X8_toBundle Γ l α Bh_13.2.2.1 b_15 (cw_k Bh_13.2.2 kb_15) a2 a3) lb_X8_toBundle lv_X8_toBundle lk_X11_284 (cw_k Bh_13.2.2 kb_15) rfl (by decide) rfl hl.1 rfl (Nat.le_of_ble_eq_true rfl) dX11_bundle_67 ⟨Nat.le_refl _, Nat.le_refl _⟩) (fun _ h => cw_tr Bh_13.2.2 h (by decide)) rfl (fun αh_16 Hh_16 Lh_16 ph_16 Bh_16 => ?_)
            refine lv_aload_n hx hb dX11_bundle_70 rfl (lv_at hl 1 rfl) (hp_n (n := 71) rfl ?_)
            have t_17 : b_6 = hp_R αh_16 601 a0 := by rw [cw_R ph_16 a0 (by decide)]; exact eb_6
            refine q_gets (κ := 12) (k := 1) (φ := 601) (pc' := 74) C Bh_16 (cw_k Bh_16.2.2 k0) fl_X11_16 rfl rfl rfl t_17 dX11_bundle_71 rfl ?_
            refine lv_aload_n hx hb dX11_bundle_74 rfl (lv_at hl 1 rfl) (hp_n (n := 75) rfl ?_)
            have t_18 : b_15 = hp_R αh_16 612 a0 := by rw [cw_R ph_16 a0 (by decide)]; exact eb_15
            refine q_gets (κ := 12) (k := 12) (φ := 612) (pc' := 78) C Bh_16 (cw_k Bh_16.2.2 k0) fl_X11_62 rfl rfl rfl t_18 dX11_bundle_75 rfl ?_
            refine lv_aload hx hb dX11_bundle_78 (lv_at hl 0 rfl) (hp_n (n := 80) rfl ?_)
            refine lv_aload_n hx hb dX11_bundle_80 rfl (lv_at hl 1 rfl) (hp_n (n := 81) rfl ?_)
            refine q_getr (κ := 12) (k := 3) (φ := 603) (pc' := 84) C Bh_16 (cw_k Bh_16.2.2 k0) fl_X11_26 rfl rfl rfl (cw_r Bh_16.2.2 k0 rfl rfl (by decide) (by decide)) dX11_bundle_81 rfl (fun b_19 eb_19 kb_19 => ?_)
            refine q_cv (pc' := 87) Bh_16 (hp_runV (As := [.ref b_15, va_rf (some bh_7), .ref b_19]) (rest := []) C Bh_16 (t_X10_marksAlong Γ l αh_16 Bh_16.2.2.1 b_6 (cw_k Bh_16.2.2 kb_6) b_15 (cw_k Bh_16.2.2 kb_15) (some bh_7) (fun b h => by cases h; exact (cw_k Bh_16.2.2 kbh_7)) b_19 (cw_k Bh_16.2.2 kb_19)) lb_X10_marksAlong lv_X10_marksAlong lk_X11_270 (cw_k Bh_16.2.2 kb_6) rfl (by decide) rfl hl.1 rfl (Nat.le_of_ble_eq_true rfl) dX11_bundle_84 ⟨Nat.le_refl _, Nat.le_refl _⟩) (fun _ h => cw_tr Bh_16.2.2 h (by decide)) rfl (fun αh_20 Hh_20 Lh_20 ph_20 Bh_20 => ?_)
            refine lv_aload_n hx hb dX11_bundle_87 rfl (lv_at hl 1 rfl) (hp_n (n := 88) rfl ?_)
            refine lv_aload_n hx hb dX11_bundle_88 rfl (lv_at hl 1 rfl) (hp_n (n := 89) rfl ?_)
            have t_21 : b_19 = hp_R αh_20 603 a0 := by rw [cw_R ph_20 a0 (by decide)]; exact eb_19
            refine q_gets (κ := 12) (k := 3) (φ := 603) (pc' := 92) C Bh_20 (cw_k Bh_20.2.2 k0) fl_X11_26 rfl rfl rfl t_21 dX11_bundle_89 rfl ?_
            refine q_geti (κ := 6) (k := 1) (φ := 301) (pc' := 95) C Bh_20 (cw_k Bh_20.2.2 kb_19) fl_X11_132 rfl rfl rfl dX11_bundle_92 rfl (fun x_22 ex_22 => ?_)
            refine q_ci (pc' := 98) Bh_20 (hp_runV (As := [.int x_22]) (rest := []) C Bh_20 (t_X11_answer Γ l αh_20 Bh_20.2.2.1 a0 (cw_k Bh_20.2.2 k0) x_22) lb_X11_answer lv_X11_answer lk_X11_115 (cw_k Bh_20.2.2 k0) rfl (by decide) rfl hl.1 rfl (Nat.le_of_ble_eq_true rfl) dX11_bundle_95 ⟨Nat.le_refl _, Nat.le_refl _⟩) (fun _ _ h => cw_tr Bh_20.2.2 h (by decide)) rfl (fun rh_23 αh_23 Hh_23 Lh_23 ph_23 Bh_23 => ?_)
            exact q_iret C Bh_23 hr hlk Bh_23.2.2 dX11_bundle_98
          ·
            have jc_14 := il_eq c_14
            exact J55 Hh_13 Lh_13 Bh_13 ls (lv_sub hl [1] rfl)
    ·
      have jc_5 := il_eq c_5
      exact J11 Hh_4 Lh_4 Bh_4 ls (lv_sub hl [0] rfl)
abbrev w_X11_peaks : cw_W := ([301, 600], [], [20, 33], [])
set_option maxRecDepth 100000 in
set_option maxHeartbeats 4000000 in
theorem t_X11_peaks (Γ : hp_G) (l : Launch) (α : hp_T) (g : GC α) (a0 : Nat) (k0 : hp_K α a0 = 12) (a1 : Int32) (a2 : Int32) : Met l yX11_peaks (hp_ws yX11_peaks cX11_peaks 5 (some .int)) (hp_rm 3 0 0) (hp_Pc Γ α [.ref a0, .int a1, .int a2]) (hp_Qi Γ (fun r β => cw w_X11_peaks α β)) 0 0 (hp_A Γ) := by
  refine hp_start (by decide) ?_
  intro p e s m below meth c C hr hlk B0 hnm
  have C : hp_C Γ p m c cX11_peaks 5 s ([.ref a0, .int a1, .int a2] : List Value).toArray RX11 := C
  have hx := C.1.1
  have hb := C.1.2.1
  have hown := C.1.2.2.2.1
  have hts := C.1.2.2.2.2
  have B : hp_B Γ (cw w_X11_peaks) s α α s.heap [] := ⟨B0.1, B0.2.1, cw_rf g⟩
  have lit0 : (0 : Int32).toInt = 0 := by decide
  have hl := lv_entry ([.ref a0, .int a1, .int a2]) (n := 5) (Nat.le_of_ble_eq_true rfl)
  show W p l e (hp_rm 3 0 0) s m ([.ref a0, .int a1, .int a2] : List Value).toArray below meth c s.heap [] 0 0 (MQ below (hp_Qi Γ (fun r β => cw w_X11_peaks α β)) ([.ref a0, .int a1, .int a2] : List Value).toArray s 0 0 (hp_A Γ)) (entryFrame m ([.ref a0, .int a1, .int a2] : List Value).toArray 5)
  rw [lg_entry_eq]
  generalize (lg_sl ([.ref a0, .int a1, .int a2]) ++ List.replicate (5 - (lg_sl ([.ref a0, .int a1, .int a2])).length) Slot.unset).toArray = ls at hl ⊢
  have hl : lv_has ls 5 [(0, .ref a0), (1, .int a1), (2, .int a2)] := hl
  refine lv_aload_n hx hb dX11_peaks_0 rfl (lv_at hl 0 rfl) (hp_n (n := 1) rfl ?_)
  refine q_getr (κ := 12) (k := 1) (φ := 601) (pc' := 4) C B (cw_k B.2.2 k0) fl_X11_16 rfl rfl rfl (cw_r B.2.2 k0 rfl rfl (by decide) (by decide)) dX11_peaks_1 rfl (fun b_1 eb_1 kb_1 => ?_)
  refine lv_iload_n hx hb dX11_peaks_4 rfl (lv_at hl 1 rfl) (hp_n (n := 5) rfl ?_)
  refine q_cq (pc' := 8) B (hp_runV (As := [.int a1]) (rest := []) C B (t_X10_logAt Γ l α B.2.2.1 b_1 (cw_k B.2.2 kb_1) a1) lb_X10_logAt lv_X10_logAt lk_X11_163 (cw_k B.2.2 kb_1) rfl (by decide) rfl hl.1 rfl (Nat.le_of_ble_eq_true rfl) dX11_peaks_5 ⟨Nat.le_refl _, Nat.le_refl _⟩) (fun _ _ h => by rw [h.1]; exact B.2.2) rfl (fun rh_2 αh_2 Hh_2 Lh_2 ph_2 Bh_2 => ?_)
  rw [ph_2.1] at Bh_2
  rcases rh_2 with _ | bh_2
  ·
    refine lv_astore_nN (lv' := [(3, .null), (0, .ref a0), (1, .int a1), (2, .int a2)]) hx hb dX11_peaks_8 rfl hl (by decide) rfl (fun ls hl => hp_n (n := 9) rfl ?_)
    refine lv_aload_nN hx hb dX11_peaks_9 rfl (lv_at hl 0 rfl) (hp_n (n := 10) rfl ?_)
    refine lv_iconst (v := 0) hx hb dX11_peaks_10 (by decide) (hp_n (n := 11) rfl ?_)
    refine lv_iload_n hx hb dX11_peaks_11 rfl (lv_at hl 3 rfl) (hp_n (n := 12) rfl ?_)
    refine q_ci (pc' := 15) Bh_2 (hp_runS (As := [va_rf none, .int 0, .int a2]) (rest := []) C Bh_2 (t_X11_wrongGrowth Γ l α Bh_2.2.2.1 none (fun b h => by cases h) 0 a2) lb_X11_wrongGrowth ls_X11_wrongGrowth lk_X11_180 rfl (by decide) rfl hl.1 rfl (Nat.le_of_ble_eq_true rfl) dX11_peaks_12 ⟨Nat.le_refl _, Nat.le_refl _⟩) (fun _ _ h => by rw [h]; exact Bh_2.2.2) rfl (fun rh_3 αh_3 Hh_3 Lh_3 ph_3 Bh_3 => ?_)
    rw [ph_3] at Bh_3
    refine lv_istore (lv' := [(4, .int rh_3), (3, .null), (0, .ref a0), (1, .int a1), (2, .int a2)]) hx hb dX11_peaks_15 hl (by decide) rfl (fun ls hl => hp_n (n := 17) rfl ?_)
    refine lv_iload hx hb dX11_peaks_17 (lv_at hl 0 rfl) (hp_n (n := 19) rfl ?_)
    refine lv_if_eq (tgt := 29) hx hb dX11_peaks_19 (by decide) (fun c_4 => ?_) (fun c_4 => hp_n (n := 22) rfl ?_)
    ·
      have jc_4 := il_eq c_4
      refine lv_aload_n hx hb dX11_peaks_29 rfl (lv_at hl 2 rfl) (hp_n (n := 30) rfl ?_)
      refine q_gets (κ := 12) (k := 1) (φ := 601) (pc' := 33) C Bh_3 (cw_k Bh_3.2.2 k0) fl_X11_16 rfl rfl rfl eb_1 dX11_peaks_30 rfl ?_
      refine lv_aload_nN hx hb dX11_peaks_33 rfl (lv_at hl 1 rfl) (hp_n (n := 34) rfl ?_)
      refine lv_iload_n hx hb dX11_peaks_34 rfl (lv_at hl 4 rfl) (hp_n (n := 35) rfl ?_)
      refine lv_aload_n hx hb dX11_peaks_35 rfl (lv_at hl 2 rfl) (hp_n (n := 36) rfl ?_)
      refine q_getr (κ := 12) (k := 3) (φ := 603) (pc' := 39) C Bh_3 (cw_k Bh_3.2.2 k0) fl_X11_26 rfl rfl rfl (cw_r Bh_3.2.2 k0 rfl rfl (by decide) (by decide)) dX11_peaks_36 rfl (fun b_5 eb_5 kb_5 => ?_)
      refine q_cv (pc' := 42) Bh_3 (hp_runV (As := [va_rf none, .int a2, .ref b_5]) (rest := []) C Bh_3 (t_X10_peaksOf Γ l α Bh_3.2.2.1 b_1 (cw_k Bh_3.2.2 kb_1) none (fun b h => by cases h) a2 b_5 (cw_k Bh_3.2.2 kb_5)) lb_X10_peaksOf lv_X10_peaksOf lk_X11_287 (cw_k Bh_3.2.2 kb_1) rfl (by decide) rfl hl.1 rfl (Nat.le_of_ble_eq_true rfl) dX11_peaks_39 ⟨Nat.le_refl _, Nat.le_refl _⟩) (fun _ h => cw_tr Bh_3.2.2 h (by decide)) rfl (fun αh_6 Hh_6 Lh_6 ph_6 Bh_6 => ?_)
      refine lv_aload_n hx hb dX11_peaks_42 rfl (lv_at hl 2 rfl) (hp_n (n := 43) rfl ?_)
      refine lv_aload_n hx hb dX11_peaks_43 rfl (lv_at hl 2 rfl) (hp_n (n := 44) rfl ?_)
      have t_7 : b_5 = hp_R αh_6 603 a0 := by rw [cw_R ph_6 a0 (by decide)]; exact eb_5
      refine q_gets (κ := 12) (k := 3) (φ := 603) (pc' := 47) C Bh_6 (cw_k Bh_6.2.2 k0) fl_X11_26 rfl rfl rfl t_7 dX11_peaks_44 rfl ?_
      refine q_geti (κ := 6) (k := 1) (φ := 301) (pc' := 50) C Bh_6 (cw_k Bh_6.2.2 kb_5) fl_X11_132 rfl rfl rfl dX11_peaks_47 rfl (fun x_8 ex_8 => ?_)
      refine q_ci (pc' := 53) Bh_6 (hp_runV (As := [.int x_8]) (rest := []) C Bh_6 (t_X11_answer Γ l αh_6 Bh_6.2.2.1 a0 (cw_k Bh_6.2.2 k0) x_8) lb_X11_answer lv_X11_answer lk_X11_115 (cw_k Bh_6.2.2 k0) rfl (by decide) rfl hl.1 rfl (Nat.le_of_ble_eq_true rfl) dX11_peaks_50 ⟨Nat.le_refl _, Nat.le_refl _⟩) (fun _ _ h => cw_tr Bh_6.2.2 h (by decide)) rfl (fun rh_9 αh_9 Hh_9 Lh_9 ph_9 Bh_9 => ?_)
      exact q_iret C Bh_9 hr hlk Bh_9.2.2 dX11_peaks_53
    ·
      have jc_4 := il_ne c_4
      refine lv_aload_n hx hb dX11_peaks_22 rfl (lv_at hl 2 rfl) (hp_n (n := 23) rfl ?_)
      refine lv_iload hx hb dX11_peaks_23 (lv_at hl 0 rfl) (hp_n (n := 25) rfl ?_)
      refine q_ci (pc' := 28) Bh_3 (hp_runV (As := [.int rh_3]) (rest := []) C Bh_3 (t_X11_refuse Γ l α Bh_3.2.2.1 a0 (cw_k Bh_3.2.2 k0) rh_3) lb_X11_refuse lv_X11_refuse lk_X11_98 (cw_k Bh_3.2.2 k0) rfl (by decide) rfl hl.1 rfl (Nat.le_of_ble_eq_true rfl) dX11_peaks_25 ⟨Nat.le_refl _, Nat.le_refl _⟩) (fun _ _ h => cw_tr Bh_3.2.2 h (by decide)) rfl (fun rh_10 αh_10 Hh_10 Lh_10 ph_10 Bh_10 => ?_)
      exact q_iret C Bh_10 hr hlk Bh_10.2.2 dX11_peaks_28
  ·
    have kbh_2 : hp_K α bh_2 = 3 := cw_k' Bh_2.2.2 (ph_2.2 bh_2 rfl)
    refine lv_astore_n (lv' := [(3, .ref bh_2), (0, .ref a0), (1, .int a1), (2, .int a2)]) hx hb dX11_peaks_8 rfl hl (by decide) rfl (fun ls hl => hp_n (n := 9) rfl ?_)
    refine lv_aload_n hx hb dX11_peaks_9 rfl (lv_at hl 0 rfl) (hp_n (n := 10) rfl ?_)
    refine lv_iconst (v := 0) hx hb dX11_peaks_10 (by decide) (hp_n (n := 11) rfl ?_)
    refine lv_iload_n hx hb dX11_peaks_11 rfl (lv_at hl 3 rfl) (hp_n (n := 12) rfl ?_)
    refine q_ci (pc' := 15) Bh_2 (hp_runS (As := [va_rf (some bh_2), .int 0, .int a2]) (rest := []) C Bh_2 (t_X11_wrongGrowth Γ l α Bh_2.2.2.1 (some bh_2) (fun b h => by cases h; exact (cw_k Bh_2.2.2 kbh_2)) 0 a2) lb_X11_wrongGrowth ls_X11_wrongGrowth lk_X11_180 rfl (by decide) rfl hl.1 rfl (Nat.le_of_ble_eq_true rfl) dX11_peaks_12 ⟨Nat.le_refl _, Nat.le_refl _⟩) (fun _ _ h => by rw [h]; exact Bh_2.2.2) rfl (fun rh_11 αh_11 Hh_11 Lh_11 ph_11 Bh_11 => ?_)
    rw [ph_11] at Bh_11
    refine lv_istore (lv' := [(4, .int rh_11), (3, .ref bh_2), (0, .ref a0), (1, .int a1), (2, .int a2)]) hx hb dX11_peaks_15 hl (by decide) rfl (fun ls hl => hp_n (n := 17) rfl ?_)
    refine lv_iload hx hb dX11_peaks_17 (lv_at hl 0 rfl) (hp_n (n := 19) rfl ?_)
    refine lv_if_eq (tgt := 29) hx hb dX11_peaks_19 (by decide) (fun c_12 => ?_) (fun c_12 => hp_n (n := 22) rfl ?_)
    ·
      have jc_12 := il_eq c_12
      refine lv_aload_n hx hb dX11_peaks_29 rfl (lv_at hl 2 rfl) (hp_n (n := 30) rfl ?_)
      refine q_gets (κ := 12) (k := 1) (φ := 601) (pc' := 33) C Bh_11 (cw_k Bh_11.2.2 k0) fl_X11_16 rfl rfl rfl eb_1 dX11_peaks_30 rfl ?_
      refine lv_aload_n hx hb dX11_peaks_33 rfl (lv_at hl 1 rfl) (hp_n (n := 34) rfl ?_)
      refine lv_iload_n hx hb dX11_peaks_34 rfl (lv_at hl 4 rfl) (hp_n (n := 35) rfl ?_)
      refine lv_aload_n hx hb dX11_peaks_35 rfl (lv_at hl 2 rfl) (hp_n (n := 36) rfl ?_)
      refine q_getr (κ := 12) (k := 3) (φ := 603) (pc' := 39) C Bh_11 (cw_k Bh_11.2.2 k0) fl_X11_26 rfl rfl rfl (cw_r Bh_11.2.2 k0 rfl rfl (by decide) (by decide)) dX11_peaks_36 rfl (fun b_13 eb_13 kb_13 => ?_)
      refine q_cv (pc' := 42) Bh_11 (hp_runV (As := [va_rf (some bh_2), .int a2, .ref b_13]) (rest := []) C Bh_11 (t_X10_peaksOf Γ l α Bh_11.2.2.1 b_1 (cw_k Bh_11.2.2 kb_1) (some bh_2) (fun b h => by cases h; exact (cw_k Bh_11.2.2 kbh_2)) a2 b_13 (cw_k Bh_11.2.2 kb_13)) lb_X10_peaksOf lv_X10_peaksOf lk_X11_287 (cw_k Bh_11.2.2 kb_1) rfl (by decide) rfl hl.1 rfl (Nat.le_of_ble_eq_true rfl) dX11_peaks_39 ⟨Nat.le_refl _, Nat.le_refl _⟩) (fun _ h => cw_tr Bh_11.2.2 h (by decide)) rfl (fun αh_14 Hh_14 Lh_14 ph_14 Bh_14 => ?_)
      refine lv_aload_n hx hb dX11_peaks_42 rfl (lv_at hl 2 rfl) (hp_n (n := 43) rfl ?_)
      refine lv_aload_n hx hb dX11_peaks_43 rfl (lv_at hl 2 rfl) (hp_n (n := 44) rfl ?_)
      have t_15 : b_13 = hp_R αh_14 603 a0 := by rw [cw_R ph_14 a0 (by decide)]; exact eb_13
      refine q_gets (κ := 12) (k := 3) (φ := 603) (pc' := 47) C Bh_14 (cw_k Bh_14.2.2 k0) fl_X11_26 rfl rfl rfl t_15 dX11_peaks_44 rfl ?_
      refine q_geti (κ := 6) (k := 1) (φ := 301) (pc' := 50) C Bh_14 (cw_k Bh_14.2.2 kb_13) fl_X11_132 rfl rfl rfl dX11_peaks_47 rfl (fun x_16 ex_16 => ?_)
      refine q_ci (pc' := 53) Bh_14 (hp_runV (As := [.int x_16]) (rest := []) C Bh_14 (t_X11_answer Γ l αh_14 Bh_14.2.2.1 a0 (cw_k Bh_14.2.2 k0) x_16) lb_X11_answer lv_X11_answer lk_X11_115 (cw_k Bh_14.2.2 k0) rfl (by decide) rfl hl.1 rfl (Nat.le_of_ble_eq_true rfl) dX11_peaks_50 ⟨Nat.le_refl _, Nat.le_refl _⟩) (fun _ _ h => cw_tr Bh_14.2.2 h (by decide)) rfl (fun rh_17 αh_17 Hh_17 Lh_17 ph_17 Bh_17 => ?_)
      exact q_iret C Bh_17 hr hlk Bh_17.2.2 dX11_peaks_53
    ·
      have jc_12 := il_ne c_12
      refine lv_aload_n hx hb dX11_peaks_22 rfl (lv_at hl 2 rfl) (hp_n (n := 23) rfl ?_)
      refine lv_iload hx hb dX11_peaks_23 (lv_at hl 0 rfl) (hp_n (n := 25) rfl ?_)
      refine q_ci (pc' := 28) Bh_11 (hp_runV (As := [.int rh_11]) (rest := []) C Bh_11 (t_X11_refuse Γ l α Bh_11.2.2.1 a0 (cw_k Bh_11.2.2 k0) rh_11) lb_X11_refuse lv_X11_refuse lk_X11_98 (cw_k Bh_11.2.2 k0) rfl (by decide) rfl hl.1 rfl (Nat.le_of_ble_eq_true rfl) dX11_peaks_25 ⟨Nat.le_refl _, Nat.le_refl _⟩) (fun _ _ h => cw_tr Bh_11.2.2 h (by decide)) rfl (fun rh_18 αh_18 Hh_18 Lh_18 ph_18 Bh_18 => ?_)
      exact q_iret C Bh_18 hr hlk Bh_18.2.2 dX11_peaks_28
abbrev w_X11_extend : cw_W := ([301, 600], [], [20], [])
set_option maxRecDepth 100000 in
set_option maxHeartbeats 4000000 in
theorem t_X11_extend (Γ : hp_G) (l : Launch) (α : hp_T) (g : GC α) (a0 : Nat) (k0 : hp_K α a0 = 12) (a1 : Int32) (a2 : Int32) : Met l yX11_extend (hp_ws yX11_extend cX11_extend 3 (some .int)) (hp_rm 2 0 0) (hp_Pc Γ α [.ref a0, .int a1, .int a2]) (hp_Qi Γ (fun r β => cw w_X11_extend α β)) 0 0 (hp_A Γ) := by
  refine hp_start (by decide) ?_
  intro p e s m below meth c C hr hlk B0 hnm
  have C : hp_C Γ p m c cX11_extend 3 s ([.ref a0, .int a1, .int a2] : List Value).toArray RX11 := C
  have hx := C.1.1
  have hb := C.1.2.1
  have hown := C.1.2.2.2.1
  have hts := C.1.2.2.2.2
  have B : hp_B Γ (cw w_X11_extend) s α α s.heap [] := ⟨B0.1, B0.2.1, cw_rf g⟩
  have lit0 : (0 : Int32).toInt = 0 := by decide
  have lit1 : (1 : Int32).toInt = 1 := by decide
  have lit5 : (5 : Int32).toInt = 5 := by decide
  have lit1000000 : (1000000 : Int32).toInt = 1000000 := by decide
  have hl := lv_entry ([.ref a0, .int a1, .int a2]) (n := 3) (Nat.le_of_ble_eq_true rfl)
  show W p l e (hp_rm 2 0 0) s m ([.ref a0, .int a1, .int a2] : List Value).toArray below meth c s.heap [] 0 0 (MQ below (hp_Qi Γ (fun r β => cw w_X11_extend α β)) ([.ref a0, .int a1, .int a2] : List Value).toArray s 0 0 (hp_A Γ)) (entryFrame m ([.ref a0, .int a1, .int a2] : List Value).toArray 3)
  rw [lg_entry_eq]
  generalize (lg_sl ([.ref a0, .int a1, .int a2]) ++ List.replicate (3 - (lg_sl ([.ref a0, .int a1, .int a2])).length) Slot.unset).toArray = ls at hl ⊢
  have hl : lv_has ls 3 [(0, .ref a0), (1, .int a1), (2, .int a2)] := hl
  refine lv_iload_n hx hb dX11_extend_0 rfl (lv_at hl 1 rfl) (hp_n (n := 1) rfl ?_)
  have J19 : ∀ (Hh_1 : Heap) (Lh_1 : List Loc) (Bh_1 : hp_B Γ (cw w_X11_extend) s α α Hh_1 Lh_1) (ls : Array Slot) (hl : lv_has ls 3 [(0, .ref a0)]), W p l e (hp_rm 2 0 0) s m ([.ref a0, .int a1, .int a2] : List Value).toArray below meth c Hh_1 Lh_1 0 0 (MQ below (hp_Qi Γ (fun r β => cw w_X11_extend α β)) ([.ref a0, .int a1, .int a2] : List Value).toArray s 0 0 (hp_A Γ)) (F0 m 19 ls []) := by
    intro Hh_1 Lh_1 Bh_1 ls hl
    refine lv_aload_n hx hb dX11_extend_19 rfl (lv_at hl 0 rfl) (hp_n (n := 20) rfl ?_)
    refine lv_iconst (v := 1) hx hb dX11_extend_20 (by decide) (hp_n (n := 21) rfl ?_)
    refine q_ci (pc' := 24) Bh_1 (hp_runV (As := [.int 1]) (rest := []) C Bh_1 (t_X11_refuse Γ l α Bh_1.2.2.1 a0 (cw_k Bh_1.2.2 k0) 1) lb_X11_refuse lv_X11_refuse lk_X11_98 (cw_k Bh_1.2.2 k0) rfl (by decide) rfl hl.1 rfl (Nat.le_of_ble_eq_true rfl) dX11_extend_21 ⟨Nat.le_refl _, Nat.le_refl _⟩) (fun _ _ h => cw_tr Bh_1.2.2 h (by decide)) rfl (fun rh_2 αh_2 Hh_2 Lh_2 ph_2 Bh_2 => ?_)
    exact q_iret C Bh_2 hr hlk Bh_2.2.2 dX11_extend_24
  refine lv_if_lt (tgt := 19) hx hb dX11_extend_1 (by decide) (fun c_3 => ?_) (fun c_3 => hp_n (n := 4) rfl ?_)
  ·
    have jc_3 := il_lt c_3
    exact J19 s.heap [] B ls (lv_sub hl [0] rfl)
  ·
    have jc_3 := il_nlt c_3
    refine lv_iload_n hx hb dX11_extend_4 rfl (lv_at hl 1 rfl) (hp_n (n := 5) rfl ?_)
    refine lv_ldcw hx hb hown (hts _ kc_X11_291) dX11_extend_5 (hp_n (n := 8) rfl ?_)
    refine lv_icmp_gt (tgt := 19) hx hb dX11_extend_8 (by decide) (fun c_4 => ?_) (fun c_4 => hp_n (n := 11) rfl ?_)
    ·
      have jc_4 := il_lt c_4
      exact J19 s.heap [] B ls (lv_sub hl [0] rfl)
    ·
      have jc_4 := il_nlt c_4
      refine lv_aload_n hx hb dX11_extend_11 rfl (lv_at hl 0 rfl) (hp_n (n := 12) rfl ?_)
      refine lv_iload_n hx hb dX11_extend_12 rfl (lv_at hl 2 rfl) (hp_n (n := 13) rfl ?_)
      refine q_ci (pc' := 16) B (hp_runV (As := [.int a2]) (rest := []) C B (t_X11_isMark Γ l α B.2.2.1 a0 (cw_k B.2.2 k0) a2) lb_X11_isMark lv_X11_isMark lk_X11_188 (cw_k B.2.2 k0) rfl (by decide) rfl hl.1 rfl (Nat.le_of_ble_eq_true rfl) dX11_extend_13 ⟨Nat.le_refl _, Nat.le_refl _⟩) (fun _ _ h => by rw [h.1]; exact B.2.2) rfl (fun rh_5 αh_5 Hh_5 Lh_5 ph_5 Bh_5 => ?_)
      rw [ph_5.1] at Bh_5
      have zh_5 := ph_5.2
      refine lv_if_ne (tgt := 25) hx hb dX11_extend_16 (by decide) (fun c_6 => ?_) (fun c_6 => hp_n (n := 19) rfl ?_)
      ·
        have jc_6 := il_ne c_6
        refine lv_aload_n hx hb dX11_extend_25 rfl (lv_at hl 0 rfl) (hp_n (n := 26) rfl ?_)
        refine q_getr (κ := 12) (k := 3) (φ := 603) (pc' := 29) C Bh_5 (cw_k Bh_5.2.2 k0) fl_X11_26 rfl rfl rfl (cw_r Bh_5.2.2 k0 rfl rfl (by decide) (by decide)) dX11_extend_26 rfl (fun b_7 eb_7 kb_7 => ?_)
        refine q_geti (κ := 6) (k := 1) (φ := 301) (pc' := 32) C Bh_5 (cw_k Bh_5.2.2 kb_7) fl_X11_132 rfl rfl rfl dX11_extend_29 rfl (fun x_8 ex_8 => ?_)
        refine lv_iload_n hx hb dX11_extend_32 rfl (lv_at hl 1 rfl) (hp_n (n := 33) rfl ?_)
        refine q_ci (pc' := 36) Bh_5 (hp_runS (As := [.int a1]) (rest := [.int x_8]) C Bh_5 (t_J6_bitCount_0f7a4 Γ l α Bh_5.2.2.1 a1) lb_J6_bitCount_0f7a4 ls_J6_bitCount_0f7a4 lk_X11_292 rfl (by decide) rfl hl.1 rfl (Nat.le_of_ble_eq_true rfl) dX11_extend_33 ⟨Nat.le_refl _, Nat.le_refl _⟩) (fun _ _ h => by rw [h]; exact Bh_5.2.2) rfl (fun rh_9 αh_9 Hh_9 Lh_9 ph_9 Bh_9 => ?_)
        rw [ph_9] at Bh_9
        refine lv_icmp_eq (tgt := 45) hx hb dX11_extend_36 (by decide) (fun c_10 => ?_) (fun c_10 => hp_n (n := 39) rfl ?_)
        ·
          have jc_10 := il_eq c_10
          refine lv_aload_n hx hb dX11_extend_45 rfl (lv_at hl 0 rfl) (hp_n (n := 46) rfl ?_)
          refine q_gets (κ := 12) (k := 3) (φ := 603) (pc' := 49) C Bh_9 (cw_k Bh_9.2.2 k0) fl_X11_26 rfl rfl rfl eb_7 dX11_extend_46 rfl ?_
          refine lv_aload_n hx hb dX11_extend_49 rfl (lv_at hl 0 rfl) (hp_n (n := 50) rfl ?_)
          refine q_getr (κ := 12) (k := 1) (φ := 601) (pc' := 53) C Bh_9 (cw_k Bh_9.2.2 k0) fl_X11_16 rfl rfl rfl (cw_r Bh_9.2.2 k0 rfl rfl (by decide) (by decide)) dX11_extend_50 rfl (fun b_11 eb_11 kb_11 => ?_)
          refine q_geti (κ := 11) (k := 0) (φ := 550) (pc' := 56) C Bh_9 (cw_k Bh_9.2.2 kb_11) fl_X11_122 rfl rfl rfl dX11_extend_53 rfl (fun x_12 ex_12 => ?_)
          refine lv_iload_n hx hb dX11_extend_56 rfl (lv_at hl 1 rfl) (hp_n (n := 57) rfl ?_)
          refine lv_iload_n hx hb dX11_extend_57 rfl (lv_at hl 2 rfl) (hp_n (n := 58) rfl ?_)
          refine q_cv (pc' := 61) Bh_9 (hp_runV (As := [.int x_12, .int a1, .int a2]) (rest := []) C Bh_9 (t_X5_putPeak Γ l α Bh_9.2.2.1 b_7 (cw_k Bh_9.2.2 kb_7) x_12 a1 a2) lb_X5_putPeak lv_X5_putPeak lk_X11_297 (cw_k Bh_9.2.2 kb_7) rfl (by decide) rfl hl.1 rfl (Nat.le_of_ble_eq_true rfl) dX11_extend_58 ⟨Nat.le_refl _, Nat.le_refl _⟩) (fun _ h => cw_tr Bh_9.2.2 h (by decide)) rfl (fun αh_13 Hh_13 Lh_13 ph_13 Bh_13 => ?_)
          refine lv_aload_n hx hb dX11_extend_61 rfl (lv_at hl 0 rfl) (hp_n (n := 62) rfl ?_)
          refine lv_aload_n hx hb dX11_extend_62 rfl (lv_at hl 0 rfl) (hp_n (n := 63) rfl ?_)
          have t_14 : b_7 = hp_R αh_13 603 a0 := by rw [cw_R ph_13 a0 (by decide)]; exact eb_7
          refine q_gets (κ := 12) (k := 3) (φ := 603) (pc' := 66) C Bh_13 (cw_k Bh_13.2.2 k0) fl_X11_26 rfl rfl rfl t_14 dX11_extend_63 rfl ?_
          refine q_geti (κ := 6) (k := 1) (φ := 301) (pc' := 69) C Bh_13 (cw_k Bh_13.2.2 kb_7) fl_X11_132 rfl rfl rfl dX11_extend_66 rfl (fun x_15 ex_15 => ?_)
          refine q_ci (pc' := 72) Bh_13 (hp_runV (As := [.int x_15]) (rest := []) C Bh_13 (t_X11_answer Γ l αh_13 Bh_13.2.2.1 a0 (cw_k Bh_13.2.2 k0) x_15) lb_X11_answer lv_X11_answer lk_X11_115 (cw_k Bh_13.2.2 k0) rfl (by decide) rfl hl.1 rfl (Nat.le_of_ble_eq_true rfl) dX11_extend_69 ⟨Nat.le_refl _, Nat.le_refl _⟩) (fun _ _ h => cw_tr Bh_13.2.2 h (by decide)) rfl (fun rh_16 αh_16 Hh_16 Lh_16 ph_16 Bh_16 => ?_)
          exact q_iret C Bh_16 hr hlk Bh_16.2.2 dX11_extend_72
        ·
          have jc_10 := il_ne c_10
          refine lv_aload_n hx hb dX11_extend_39 rfl (lv_at hl 0 rfl) (hp_n (n := 40) rfl ?_)
          refine lv_iconst (v := 5) hx hb dX11_extend_40 (by decide) (hp_n (n := 41) rfl ?_)
          refine q_ci (pc' := 44) Bh_9 (hp_runV (As := [.int 5]) (rest := []) C Bh_9 (t_X11_refuse Γ l α Bh_9.2.2.1 a0 (cw_k Bh_9.2.2 k0) 5) lb_X11_refuse lv_X11_refuse lk_X11_98 (cw_k Bh_9.2.2 k0) rfl (by decide) rfl hl.1 rfl (Nat.le_of_ble_eq_true rfl) dX11_extend_41 ⟨Nat.le_refl _, Nat.le_refl _⟩) (fun _ _ h => cw_tr Bh_9.2.2 h (by decide)) rfl (fun rh_17 αh_17 Hh_17 Lh_17 ph_17 Bh_17 => ?_)
          exact q_iret C Bh_17 hr hlk Bh_17.2.2 dX11_extend_44
      ·
        have jc_6 := il_eq c_6
        exact J19 Hh_5 Lh_5 Bh_5 ls (lv_sub hl [0] rfl)
abbrev w_X11_checks : cw_W := ([453, 454, 600], [], [21, 22, 23], [])
set_option maxRecDepth 100000 in
set_option maxHeartbeats 4000000 in
theorem t_X11_checks (Γ : hp_G) (l : Launch) (α : hp_T) (g : GC α) (a0 : Nat) (k0 : hp_K α a0 = 12) (a1 : Int32) (a2 : Int32) (a3 : Int32) (a4 : Int32) : Met l yX11_checks (hp_ws yX11_checks cX11_checks 5 (some .int)) (hp_rm 4 0 0) (hp_Pc Γ α [.ref a0, .int a1, .int a2, .int a3, .int a4]) (hp_Qi Γ (fun r β => cw w_X11_checks α β)) 0 0 (hp_A Γ) := by
  refine hp_start (by decide) ?_
  intro p e s m below meth c C hr hlk B0 hnm
  have C : hp_C Γ p m c cX11_checks 5 s ([.ref a0, .int a1, .int a2, .int a3, .int a4] : List Value).toArray RX11 := C
  have hx := C.1.1
  have hb := C.1.2.1
  have hown := C.1.2.2.2.1
  have hts := C.1.2.2.2.2
  have B : hp_B Γ (cw w_X11_checks) s α α s.heap [] := ⟨B0.1, B0.2.1, cw_rf g⟩
  have lit0 : (0 : Int32).toInt = 0 := by decide
  have lit1 : (1 : Int32).toInt = 1 := by decide
  have hl := lv_entry ([.ref a0, .int a1, .int a2, .int a3, .int a4]) (n := 5) (Nat.le_of_ble_eq_true rfl)
  show W p l e (hp_rm 4 0 0) s m ([.ref a0, .int a1, .int a2, .int a3, .int a4] : List Value).toArray below meth c s.heap [] 0 0 (MQ below (hp_Qi Γ (fun r β => cw w_X11_checks α β)) ([.ref a0, .int a1, .int a2, .int a3, .int a4] : List Value).toArray s 0 0 (hp_A Γ)) (entryFrame m ([.ref a0, .int a1, .int a2, .int a3, .int a4] : List Value).toArray 5)
  rw [lg_entry_eq]
  generalize (lg_sl ([.ref a0, .int a1, .int a2, .int a3, .int a4]) ++ List.replicate (5 - (lg_sl ([.ref a0, .int a1, .int a2, .int a3, .int a4])).length) Slot.unset).toArray = ls at hl ⊢
  have hl : lv_has ls 5 [(0, .ref a0), (1, .int a1), (2, .int a2), (3, .int a3), (4, .int a4)] := hl
  refine lv_iload_n hx hb dX11_checks_0 rfl (lv_at hl 2 rfl) (hp_n (n := 1) rfl ?_)
  refine lv_iload_n hx hb dX11_checks_1 rfl (lv_at hl 3 rfl) (hp_n (n := 2) rfl ?_)
  refine q_ci (pc' := 5) B (hp_runS (As := [.int a2, .int a3]) (rest := []) C B (t_X11_isThing Γ l α B.2.2.1 a2 a3) lb_X11_isThing ls_X11_isThing lk_X11_301 rfl (by decide) rfl hl.1 rfl (Nat.le_of_ble_eq_true rfl) dX11_checks_2 ⟨Nat.le_refl _, Nat.le_refl _⟩) (fun _ _ h => by rw [h.1]; exact B.2.2) rfl (fun rh_1 αh_1 Hh_1 Lh_1 ph_1 Bh_1 => ?_)
  rw [ph_1.1] at Bh_1
  have zh_1 := ph_1.2
  have J25 : ∀ (Hh_2 : Heap) (Lh_2 : List Loc) (Bh_2 : hp_B Γ (cw w_X11_checks) s α α Hh_2 Lh_2) (ls : Array Slot) (hl : lv_has ls 5 [(0, .ref a0)]), W p l e (hp_rm 4 0 0) s m ([.ref a0, .int a1, .int a2, .int a3, .int a4] : List Value).toArray below meth c Hh_2 Lh_2 0 0 (MQ below (hp_Qi Γ (fun r β => cw w_X11_checks α β)) ([.ref a0, .int a1, .int a2, .int a3, .int a4] : List Value).toArray s 0 0 (hp_A Γ)) (F0 m 25 ls []) := by
    intro Hh_2 Lh_2 Bh_2 ls hl
    refine lv_aload_n hx hb dX11_checks_25 rfl (lv_at hl 0 rfl) (hp_n (n := 26) rfl ?_)
    refine lv_iconst (v := 1) hx hb dX11_checks_26 (by decide) (hp_n (n := 27) rfl ?_)
    refine q_ci (pc' := 30) Bh_2 (hp_runV (As := [.int 1]) (rest := []) C Bh_2 (t_X11_refuse Γ l α Bh_2.2.2.1 a0 (cw_k Bh_2.2.2 k0) 1) lb_X11_refuse lv_X11_refuse lk_X11_98 (cw_k Bh_2.2.2 k0) rfl (by decide) rfl hl.1 rfl (Nat.le_of_ble_eq_true rfl) dX11_checks_27 ⟨Nat.le_refl _, Nat.le_refl _⟩) (fun _ _ h => cw_tr Bh_2.2.2 h (by decide)) rfl (fun rh_3 αh_3 Hh_3 Lh_3 ph_3 Bh_3 => ?_)
    exact q_iret C Bh_3 hr hlk Bh_3.2.2 dX11_checks_30
  refine lv_if_eq (tgt := 25) hx hb dX11_checks_5 (by decide) (fun c_4 => ?_) (fun c_4 => hp_n (n := 8) rfl ?_)
  ·
    have jc_4 := il_eq c_4
    exact J25 Hh_1 Lh_1 Bh_1 ls (lv_sub hl [0] rfl)
  ·
    have jc_4 := il_ne c_4
    refine lv_aload_n hx hb dX11_checks_8 rfl (lv_at hl 0 rfl) (hp_n (n := 9) rfl ?_)
    refine lv_iload_n hx hb dX11_checks_9 rfl (lv_at hl 1 rfl) (hp_n (n := 10) rfl ?_)
    refine q_ci (pc' := 13) Bh_1 (hp_runV (As := [.int a1]) (rest := []) C Bh_1 (t_X11_isMark Γ l α Bh_1.2.2.1 a0 (cw_k Bh_1.2.2 k0) a1) lb_X11_isMark lv_X11_isMark lk_X11_188 (cw_k Bh_1.2.2 k0) rfl (by decide) rfl hl.1 rfl (Nat.le_of_ble_eq_true rfl) dX11_checks_10 ⟨Nat.le_refl _, Nat.le_refl _⟩) (fun _ _ h => by rw [h.1]; exact Bh_1.2.2) rfl (fun rh_5 αh_5 Hh_5 Lh_5 ph_5 Bh_5 => ?_)
    rw [ph_5.1] at Bh_5
    have zh_5 := ph_5.2
    refine lv_if_eq (tgt := 25) hx hb dX11_checks_13 (by decide) (fun c_6 => ?_) (fun c_6 => hp_n (n := 16) rfl ?_)
    ·
      have jc_6 := il_eq c_6
      exact J25 Hh_5 Lh_5 Bh_5 ls (lv_sub hl [0] rfl)
    ·
      have jc_6 := il_ne c_6
      refine lv_aload_n hx hb dX11_checks_16 rfl (lv_at hl 0 rfl) (hp_n (n := 17) rfl ?_)
      refine lv_iload hx hb dX11_checks_17 (lv_at hl 4 rfl) (hp_n (n := 19) rfl ?_)
      refine q_ci (pc' := 22) Bh_5 (hp_runV (As := [.int a4]) (rest := []) C Bh_5 (t_X11_isMark Γ l α Bh_5.2.2.1 a0 (cw_k Bh_5.2.2 k0) a4) lb_X11_isMark lv_X11_isMark lk_X11_188 (cw_k Bh_5.2.2 k0) rfl (by decide) rfl hl.1 rfl (Nat.le_of_ble_eq_true rfl) dX11_checks_19 ⟨Nat.le_refl _, Nat.le_refl _⟩) (fun _ _ h => by rw [h.1]; exact Bh_5.2.2) rfl (fun rh_7 αh_7 Hh_7 Lh_7 ph_7 Bh_7 => ?_)
      rw [ph_7.1] at Bh_7
      have zh_7 := ph_7.2
      refine lv_if_ne (tgt := 31) hx hb dX11_checks_22 (by decide) (fun c_8 => ?_) (fun c_8 => hp_n (n := 25) rfl ?_)
      ·
        have jc_8 := il_ne c_8
        refine lv_aload_n hx hb dX11_checks_31 rfl (lv_at hl 0 rfl) (hp_n (n := 32) rfl ?_)
        refine q_getr (κ := 12) (k := 12) (φ := 612) (pc' := 35) C Bh_7 (cw_k Bh_7.2.2 k0) fl_X11_62 rfl rfl rfl (cw_r Bh_7.2.2 k0 rfl rfl (by decide) (by decide)) dX11_checks_32 rfl (fun b_9 eb_9 kb_9 => ?_)
        refine lv_iload_n hx hb dX11_checks_35 rfl (lv_at hl 2 rfl) (hp_n (n := 36) rfl ?_)
        refine lv_iload_n hx hb dX11_checks_36 rfl (lv_at hl 3 rfl) (hp_n (n := 37) rfl ?_)
        refine q_cv (pc' := 40) Bh_7 (hp_runV (As := [.int a2, .int a3]) (rest := []) C Bh_7 (t_X8_toThing Γ l α Bh_7.2.2.1 b_9 (cw_k Bh_7.2.2 kb_9) a2 a3) lb_X8_toThing lv_X8_toThing lk_X11_267 (cw_k Bh_7.2.2 kb_9) rfl (by decide) rfl hl.1 rfl (Nat.le_of_ble_eq_true rfl) dX11_checks_37 ⟨Nat.le_refl _, Nat.le_refl _⟩) (fun _ h => cw_tr Bh_7.2.2 h (by decide)) rfl (fun αh_10 Hh_10 Lh_10 ph_10 Bh_10 => ?_)
        refine lv_aload_n hx hb dX11_checks_40 rfl (lv_at hl 0 rfl) (hp_n (n := 41) rfl ?_)
        refine lv_aload_n hx hb dX11_checks_41 rfl (lv_at hl 0 rfl) (hp_n (n := 42) rfl ?_)
        have t_11 : b_9 = hp_R αh_10 612 a0 := by rw [cw_R ph_10 a0 (by decide)]; exact eb_9
        refine q_gets (κ := 12) (k := 12) (φ := 612) (pc' := 45) C Bh_10 (cw_k Bh_10.2.2 k0) fl_X11_62 rfl rfl rfl t_11 dX11_checks_42 rfl ?_
        refine lv_aload_n hx hb dX11_checks_45 rfl (lv_at hl 0 rfl) (hp_n (n := 46) rfl ?_)
        refine q_getr (κ := 12) (k := 1) (φ := 601) (pc' := 49) C Bh_10 (cw_k Bh_10.2.2 k0) fl_X11_16 rfl rfl rfl (cw_r Bh_10.2.2 k0 rfl rfl (by decide) (by decide)) dX11_checks_46 rfl (fun b_12 eb_12 kb_12 => ?_)
        refine q_geti (κ := 11) (k := 0) (φ := 550) (pc' := 52) C Bh_10 (cw_k Bh_10.2.2 kb_12) fl_X11_122 rfl rfl rfl dX11_checks_49 rfl (fun x_13 ex_13 => ?_)
        refine lv_aload_n hx hb dX11_checks_52 rfl (lv_at hl 0 rfl) (hp_n (n := 53) rfl ?_)
        refine q_getr (κ := 12) (k := 3) (φ := 603) (pc' := 56) C Bh_10 (cw_k Bh_10.2.2 k0) fl_X11_26 rfl rfl rfl (cw_r Bh_10.2.2 k0 rfl rfl (by decide) (by decide)) dX11_checks_53 rfl (fun b_14 eb_14 kb_14 => ?_)
        refine lv_iload_n hx hb dX11_checks_56 rfl (lv_at hl 1 rfl) (hp_n (n := 57) rfl ?_)
        refine lv_iload hx hb dX11_checks_57 (lv_at hl 4 rfl) (hp_n (n := 59) rfl ?_)
        refine q_ci (pc' := 62) Bh_10 (hp_runV (As := [.int x_13, .ref b_14, .int a1, .int a4]) (rest := [.ref a0]) C Bh_10 (t_X8_whyInclusion Γ l αh_10 Bh_10.2.2.1 b_9 (cw_k Bh_10.2.2 kb_9) x_13 b_14 (cw_k Bh_10.2.2 kb_14) a1 a4) lb_X8_whyInclusion lv_X8_whyInclusion lk_X11_304 (cw_k Bh_10.2.2 kb_9) rfl (by decide) rfl hl.1 rfl (Nat.le_of_ble_eq_true rfl) dX11_checks_59 ⟨Nat.le_refl _, Nat.le_refl _⟩) (fun _ _ h => by rw [h]; exact Bh_10.2.2) rfl (fun rh_15 αh_15 Hh_15 Lh_15 ph_15 Bh_15 => ?_)
        rw [ph_15] at Bh_15
        refine q_ci (pc' := 65) Bh_15 (hp_runV (As := [.int rh_15]) (rest := []) C Bh_15 (t_X11_answer Γ l αh_10 Bh_15.2.2.1 a0 (cw_k Bh_15.2.2 k0) rh_15) lb_X11_answer lv_X11_answer lk_X11_115 (cw_k Bh_15.2.2 k0) rfl (by decide) rfl hl.1 rfl (Nat.le_of_ble_eq_true rfl) dX11_checks_62 ⟨Nat.le_refl _, Nat.le_refl _⟩) (fun _ _ h => cw_tr Bh_15.2.2 h (by decide)) rfl (fun rh_16 αh_16 Hh_16 Lh_16 ph_16 Bh_16 => ?_)
        exact q_iret C Bh_16 hr hlk Bh_16.2.2 dX11_checks_65
      ·
        have jc_8 := il_eq c_8
        exact J25 Hh_7 Lh_7 Bh_7 ls (lv_sub hl [0] rfl)
abbrev w_X11_growth : cw_W := ([453, 454, 600], [], [21, 22, 23], [])
set_option maxRecDepth 100000 in
set_option maxHeartbeats 4000000 in
theorem t_X11_growth (Γ : hp_G) (l : Launch) (α : hp_T) (g : GC α) (a0 : Nat) (k0 : hp_K α a0 = 12) (a1 : Int32) (a2 : Int32) (a3 : Int32) (a4 : Int32) : Met l yX11_growth (hp_ws yX11_growth cX11_growth 5 (some .int)) (hp_rm 5 0 0) (hp_Pc Γ α [.ref a0, .int a1, .int a2, .int a3, .int a4]) (hp_Qi Γ (fun r β => cw w_X11_growth α β)) 0 0 (hp_A Γ) := by
  refine hp_start (by decide) ?_
  intro p e s m below meth c C hr hlk B0 hnm
  have C : hp_C Γ p m c cX11_growth 5 s ([.ref a0, .int a1, .int a2, .int a3, .int a4] : List Value).toArray RX11 := C
  have hx := C.1.1
  have hb := C.1.2.1
  have hown := C.1.2.2.2.1
  have hts := C.1.2.2.2.2
  have B : hp_B Γ (cw w_X11_growth) s α α s.heap [] := ⟨B0.1, B0.2.1, cw_rf g⟩
  have lit0 : (0 : Int32).toInt = 0 := by decide
  have lit1 : (1 : Int32).toInt = 1 := by decide
  have hl := lv_entry ([.ref a0, .int a1, .int a2, .int a3, .int a4]) (n := 5) (Nat.le_of_ble_eq_true rfl)
  show W p l e (hp_rm 5 0 0) s m ([.ref a0, .int a1, .int a2, .int a3, .int a4] : List Value).toArray below meth c s.heap [] 0 0 (MQ below (hp_Qi Γ (fun r β => cw w_X11_growth α β)) ([.ref a0, .int a1, .int a2, .int a3, .int a4] : List Value).toArray s 0 0 (hp_A Γ)) (entryFrame m ([.ref a0, .int a1, .int a2, .int a3, .int a4] : List Value).toArray 5)
  rw [lg_entry_eq]
  generalize (lg_sl ([.ref a0, .int a1, .int a2, .int a3, .int a4]) ++ List.replicate (5 - (lg_sl ([.ref a0, .int a1, .int a2, .int a3, .int a4])).length) Slot.unset).toArray = ls at hl ⊢
  have hl : lv_has ls 5 [(0, .ref a0), (1, .int a1), (2, .int a2), (3, .int a3), (4, .int a4)] := hl
  refine lv_iload_n hx hb dX11_growth_0 rfl (lv_at hl 1 rfl) (hp_n (n := 1) rfl ?_)
  have J26 : ∀ (Hh_1 : Heap) (Lh_1 : List Loc) (Bh_1 : hp_B Γ (cw w_X11_growth) s α α Hh_1 Lh_1) (ls : Array Slot) (hl : lv_has ls 5 [(0, .ref a0)]), W p l e (hp_rm 5 0 0) s m ([.ref a0, .int a1, .int a2, .int a3, .int a4] : List Value).toArray below meth c Hh_1 Lh_1 0 0 (MQ below (hp_Qi Γ (fun r β => cw w_X11_growth α β)) ([.ref a0, .int a1, .int a2, .int a3, .int a4] : List Value).toArray s 0 0 (hp_A Γ)) (F0 m 26 ls []) := by
    intro Hh_1 Lh_1 Bh_1 ls hl
    refine lv_aload_n hx hb dX11_growth_26 rfl (lv_at hl 0 rfl) (hp_n (n := 27) rfl ?_)
    refine lv_iconst (v := 1) hx hb dX11_growth_27 (by decide) (hp_n (n := 28) rfl ?_)
    refine q_ci (pc' := 31) Bh_1 (hp_runV (As := [.int 1]) (rest := []) C Bh_1 (t_X11_refuse Γ l α Bh_1.2.2.1 a0 (cw_k Bh_1.2.2 k0) 1) lb_X11_refuse lv_X11_refuse lk_X11_98 (cw_k Bh_1.2.2 k0) rfl (by decide) rfl hl.1 rfl (Nat.le_of_ble_eq_true rfl) dX11_growth_28 ⟨Nat.le_refl _, Nat.le_refl _⟩) (fun _ _ h => cw_tr Bh_1.2.2 h (by decide)) rfl (fun rh_2 αh_2 Hh_2 Lh_2 ph_2 Bh_2 => ?_)
    exact q_iret C Bh_2 hr hlk Bh_2.2.2 dX11_growth_31
  refine lv_if_lt (tgt := 26) hx hb dX11_growth_1 (by decide) (fun c_3 => ?_) (fun c_3 => hp_n (n := 4) rfl ?_)
  ·
    have jc_3 := il_lt c_3
    exact J26 s.heap [] B ls (lv_sub hl [0] rfl)
  ·
    have jc_3 := il_nlt c_3
    refine lv_iload_n hx hb dX11_growth_4 rfl (lv_at hl 1 rfl) (hp_n (n := 5) rfl ?_)
    refine lv_iload_n hx hb dX11_growth_5 rfl (lv_at hl 3 rfl) (hp_n (n := 6) rfl ?_)
    refine lv_icmp_gt (tgt := 26) hx hb dX11_growth_6 (by decide) (fun c_4 => ?_) (fun c_4 => hp_n (n := 9) rfl ?_)
    ·
      have jc_4 := il_lt c_4
      exact J26 s.heap [] B ls (lv_sub hl [0] rfl)
    ·
      have jc_4 := il_nlt c_4
      refine lv_aload_n hx hb dX11_growth_9 rfl (lv_at hl 0 rfl) (hp_n (n := 10) rfl ?_)
      refine lv_iload_n hx hb dX11_growth_10 rfl (lv_at hl 2 rfl) (hp_n (n := 11) rfl ?_)
      refine q_ci (pc' := 14) B (hp_runV (As := [.int a2]) (rest := []) C B (t_X11_isMark Γ l α B.2.2.1 a0 (cw_k B.2.2 k0) a2) lb_X11_isMark lv_X11_isMark lk_X11_188 (cw_k B.2.2 k0) rfl (by decide) rfl hl.1 rfl (Nat.le_of_ble_eq_true rfl) dX11_growth_11 ⟨Nat.le_refl _, Nat.le_refl _⟩) (fun _ _ h => by rw [h.1]; exact B.2.2) rfl (fun rh_5 αh_5 Hh_5 Lh_5 ph_5 Bh_5 => ?_)
      rw [ph_5.1] at Bh_5
      have zh_5 := ph_5.2
      refine lv_if_eq (tgt := 26) hx hb dX11_growth_14 (by decide) (fun c_6 => ?_) (fun c_6 => hp_n (n := 17) rfl ?_)
      ·
        have jc_6 := il_eq c_6
        exact J26 Hh_5 Lh_5 Bh_5 ls (lv_sub hl [0] rfl)
      ·
        have jc_6 := il_ne c_6
        refine lv_aload_n hx hb dX11_growth_17 rfl (lv_at hl 0 rfl) (hp_n (n := 18) rfl ?_)
        refine lv_iload hx hb dX11_growth_18 (lv_at hl 4 rfl) (hp_n (n := 20) rfl ?_)
        refine q_ci (pc' := 23) Bh_5 (hp_runV (As := [.int a4]) (rest := []) C Bh_5 (t_X11_isMark Γ l α Bh_5.2.2.1 a0 (cw_k Bh_5.2.2 k0) a4) lb_X11_isMark lv_X11_isMark lk_X11_188 (cw_k Bh_5.2.2 k0) rfl (by decide) rfl hl.1 rfl (Nat.le_of_ble_eq_true rfl) dX11_growth_20 ⟨Nat.le_refl _, Nat.le_refl _⟩) (fun _ _ h => by rw [h.1]; exact Bh_5.2.2) rfl (fun rh_7 αh_7 Hh_7 Lh_7 ph_7 Bh_7 => ?_)
        rw [ph_7.1] at Bh_7
        have zh_7 := ph_7.2
        refine lv_if_ne (tgt := 32) hx hb dX11_growth_23 (by decide) (fun c_8 => ?_) (fun c_8 => hp_n (n := 26) rfl ?_)
        ·
          have jc_8 := il_ne c_8
          refine lv_aload_n hx hb dX11_growth_32 rfl (lv_at hl 0 rfl) (hp_n (n := 33) rfl ?_)
          refine lv_aload_n hx hb dX11_growth_33 rfl (lv_at hl 0 rfl) (hp_n (n := 34) rfl ?_)
          refine q_getr (κ := 12) (k := 12) (φ := 612) (pc' := 37) C Bh_7 (cw_k Bh_7.2.2 k0) fl_X11_62 rfl rfl rfl (cw_r Bh_7.2.2 k0 rfl rfl (by decide) (by decide)) dX11_growth_34 rfl (fun b_9 eb_9 kb_9 => ?_)
          refine lv_aload_n hx hb dX11_growth_37 rfl (lv_at hl 0 rfl) (hp_n (n := 38) rfl ?_)
          refine q_getr (κ := 12) (k := 1) (φ := 601) (pc' := 41) C Bh_7 (cw_k Bh_7.2.2 k0) fl_X11_16 rfl rfl rfl (cw_r Bh_7.2.2 k0 rfl rfl (by decide) (by decide)) dX11_growth_38 rfl (fun b_10 eb_10 kb_10 => ?_)
          refine q_geti (κ := 11) (k := 0) (φ := 550) (pc' := 44) C Bh_7 (cw_k Bh_7.2.2 kb_10) fl_X11_122 rfl rfl rfl dX11_growth_41 rfl (fun x_11 ex_11 => ?_)
          refine lv_aload_n hx hb dX11_growth_44 rfl (lv_at hl 0 rfl) (hp_n (n := 45) rfl ?_)
          refine q_getr (κ := 12) (k := 3) (φ := 603) (pc' := 48) C Bh_7 (cw_k Bh_7.2.2 k0) fl_X11_26 rfl rfl rfl (cw_r Bh_7.2.2 k0 rfl rfl (by decide) (by decide)) dX11_growth_45 rfl (fun b_12 eb_12 kb_12 => ?_)
          refine lv_iload_n hx hb dX11_growth_48 rfl (lv_at hl 1 rfl) (hp_n (n := 49) rfl ?_)
          refine lv_iload_n hx hb dX11_growth_49 rfl (lv_at hl 2 rfl) (hp_n (n := 50) rfl ?_)
          refine lv_iload_n hx hb dX11_growth_50 rfl (lv_at hl 3 rfl) (hp_n (n := 51) rfl ?_)
          refine lv_iload hx hb dX11_growth_51 (lv_at hl 4 rfl) (hp_n (n := 53) rfl ?_)
          refine q_ci (pc' := 56) Bh_7 (hp_runV (As := [.int x_11, .ref b_12, .int a1, .int a2, .int a3, .int a4]) (rest := [.ref a0]) C Bh_7 (t_X8_whyGrowth Γ l α Bh_7.2.2.1 b_9 (cw_k Bh_7.2.2 kb_9) x_11 b_12 (cw_k Bh_7.2.2 kb_12) a1 a2 a3 a4) lb_X8_whyGrowth lv_X8_whyGrowth lk_X11_308 (cw_k Bh_7.2.2 kb_9) rfl (by decide) rfl hl.1 rfl (Nat.le_of_ble_eq_true rfl) dX11_growth_53 ⟨Nat.le_refl _, Nat.le_refl _⟩) (fun _ _ h => cw_tr Bh_7.2.2 h (by decide)) rfl (fun rh_13 αh_13 Hh_13 Lh_13 ph_13 Bh_13 => ?_)
          refine q_ci (pc' := 59) Bh_13 (hp_runV (As := [.int rh_13]) (rest := []) C Bh_13 (t_X11_answer Γ l αh_13 Bh_13.2.2.1 a0 (cw_k Bh_13.2.2 k0) rh_13) lb_X11_answer lv_X11_answer lk_X11_115 (cw_k Bh_13.2.2 k0) rfl (by decide) rfl hl.1 rfl (Nat.le_of_ble_eq_true rfl) dX11_growth_56 ⟨Nat.le_refl _, Nat.le_refl _⟩) (fun _ _ h => cw_tr Bh_13.2.2 h (by decide)) rfl (fun rh_14 αh_14 Hh_14 Lh_14 ph_14 Bh_14 => ?_)
          exact q_iret C Bh_14 hr hlk Bh_14.2.2 dX11_growth_59
        ·
          have jc_8 := il_eq c_8
          exact J26 Hh_7 Lh_7 Bh_7 ls (lv_sub hl [0] rfl)
abbrev w_X11_bundled : cw_W := ([50, 52, 53, 54, 453, 454, 600], [51], [21, 22, 23], [])
set_option maxRecDepth 100000 in
set_option maxHeartbeats 4000000 in
theorem t_X11_bundled (Γ : hp_G) (l : Launch) (α : hp_T) (g : GC α) (a0 : Nat) (k0 : hp_K α a0 = 12) (a1 : Int32) (a2 : Int32) (a3 : Int32) : Met l yX11_bundled (hp_ws yX11_bundled cX11_bundled 4 (some .int)) (hp_rm 46 0 0) (hp_Pc Γ α [.ref a0, .int a1, .int a2, .int a3]) (hp_Qi Γ (fun r β => cw w_X11_bundled α β)) 0 0 (hp_A Γ) := by
  refine hp_start (by decide) ?_
  intro p e s m below meth c C hr hlk B0 hnm
  have C : hp_C Γ p m c cX11_bundled 4 s ([.ref a0, .int a1, .int a2, .int a3] : List Value).toArray RX11 := C
  have hx := C.1.1
  have hb := C.1.2.1
  have hown := C.1.2.2.2.1
  have hts := C.1.2.2.2.2
  have B : hp_B Γ (cw w_X11_bundled) s α α s.heap [] := ⟨B0.1, B0.2.1, cw_rf g⟩
  have lit0 : (0 : Int32).toInt = 0 := by decide
  have lit1 : (1 : Int32).toInt = 1 := by decide
  have hl := lv_entry ([.ref a0, .int a1, .int a2, .int a3]) (n := 4) (Nat.le_of_ble_eq_true rfl)
  show W p l e (hp_rm 46 0 0) s m ([.ref a0, .int a1, .int a2, .int a3] : List Value).toArray below meth c s.heap [] 0 0 (MQ below (hp_Qi Γ (fun r β => cw w_X11_bundled α β)) ([.ref a0, .int a1, .int a2, .int a3] : List Value).toArray s 0 0 (hp_A Γ)) (entryFrame m ([.ref a0, .int a1, .int a2, .int a3] : List Value).toArray 4)
  rw [lg_entry_eq]
  generalize (lg_sl ([.ref a0, .int a1, .int a2, .int a3]) ++ List.replicate (4 - (lg_sl ([.ref a0, .int a1, .int a2, .int a3])).length) Slot.unset).toArray = ls at hl ⊢
  have hl : lv_has ls 4 [(0, .ref a0), (1, .int a1), (2, .int a2), (3, .int a3)] := hl
  refine lv_iload_n hx hb dX11_bundled_0 rfl (lv_at hl 1 rfl) (hp_n (n := 1) rfl ?_)
  refine q_ci (pc' := 4) B (hp_runS (As := [.int a1]) (rest := []) C B (t_X11_isSet Γ l α B.2.2.1 a1) lb_X11_isSet ls_X11_isSet lk_X11_277 rfl (by decide) rfl hl.1 rfl (Nat.le_of_ble_eq_true rfl) dX11_bundled_1 ⟨Nat.le_refl _, Nat.le_refl _⟩) (fun _ _ h => by rw [h.1]; exact B.2.2) rfl (fun rh_1 αh_1 Hh_1 Lh_1 ph_1 Bh_1 => ?_)
  rw [ph_1.1] at Bh_1
  have zh_1 := ph_1.2
  have J23 : ∀ (Hh_2 : Heap) (Lh_2 : List Loc) (Bh_2 : hp_B Γ (cw w_X11_bundled) s α α Hh_2 Lh_2) (ls : Array Slot) (hl : lv_has ls 4 [(0, .ref a0)]), W p l e (hp_rm 46 0 0) s m ([.ref a0, .int a1, .int a2, .int a3] : List Value).toArray below meth c Hh_2 Lh_2 0 0 (MQ below (hp_Qi Γ (fun r β => cw w_X11_bundled α β)) ([.ref a0, .int a1, .int a2, .int a3] : List Value).toArray s 0 0 (hp_A Γ)) (F0 m 23 ls []) := by
    intro Hh_2 Lh_2 Bh_2 ls hl
    refine lv_aload_n hx hb dX11_bundled_23 rfl (lv_at hl 0 rfl) (hp_n (n := 24) rfl ?_)
    refine lv_iconst (v := 1) hx hb dX11_bundled_24 (by decide) (hp_n (n := 25) rfl ?_)
    refine q_ci (pc' := 28) Bh_2 (hp_runV (As := [.int 1]) (rest := []) C Bh_2 (t_X11_refuse Γ l α Bh_2.2.2.1 a0 (cw_k Bh_2.2.2 k0) 1) lb_X11_refuse lv_X11_refuse lk_X11_98 (cw_k Bh_2.2.2 k0) rfl (by decide) rfl hl.1 rfl (Nat.le_of_ble_eq_true rfl) dX11_bundled_25 ⟨Nat.le_refl _, Nat.le_refl _⟩) (fun _ _ h => cw_tr Bh_2.2.2 h (by decide)) rfl (fun rh_3 αh_3 Hh_3 Lh_3 ph_3 Bh_3 => ?_)
    exact q_iret C Bh_3 hr hlk Bh_3.2.2 dX11_bundled_28
  refine lv_if_eq (tgt := 23) hx hb dX11_bundled_4 (by decide) (fun c_4 => ?_) (fun c_4 => hp_n (n := 7) rfl ?_)
  ·
    have jc_4 := il_eq c_4
    exact J23 Hh_1 Lh_1 Bh_1 ls (lv_sub hl [0] rfl)
  ·
    have jc_4 := il_ne c_4
    refine lv_iload_n hx hb dX11_bundled_7 rfl (lv_at hl 1 rfl) (hp_n (n := 8) rfl ?_)
    refine lv_iload_n hx hb dX11_bundled_8 rfl (lv_at hl 2 rfl) (hp_n (n := 9) rfl ?_)
    refine q_ci (pc' := 12) Bh_1 (hp_runS (As := [.int a1, .int a2]) (rest := []) C Bh_1 (t_X11_lieBelow Γ l α Bh_1.2.2.1 a1 a2) lb_X11_lieBelow ls_X11_lieBelow lk_X11_280 rfl (by decide) rfl hl.1 rfl (Nat.le_of_ble_eq_true rfl) dX11_bundled_9 ⟨Nat.le_refl _, Nat.le_refl _⟩) (fun _ _ h => by rw [h.1]; exact Bh_1.2.2) rfl (fun rh_5 αh_5 Hh_5 Lh_5 ph_5 Bh_5 => ?_)
    rw [ph_5.1] at Bh_5
    have zh_5 := ph_5.2
    refine lv_if_eq (tgt := 23) hx hb dX11_bundled_12 (by decide) (fun c_6 => ?_) (fun c_6 => hp_n (n := 15) rfl ?_)
    ·
      have jc_6 := il_eq c_6
      exact J23 Hh_5 Lh_5 Bh_5 ls (lv_sub hl [0] rfl)
    ·
      have jc_6 := il_ne c_6
      refine lv_aload_n hx hb dX11_bundled_15 rfl (lv_at hl 0 rfl) (hp_n (n := 16) rfl ?_)
      refine lv_iload_n hx hb dX11_bundled_16 rfl (lv_at hl 3 rfl) (hp_n (n := 17) rfl ?_)
      refine q_ci (pc' := 20) Bh_5 (hp_runV (As := [.int a3]) (rest := []) C Bh_5 (t_X11_isMark Γ l α Bh_5.2.2.1 a0 (cw_k Bh_5.2.2 k0) a3) lb_X11_isMark lv_X11_isMark lk_X11_188 (cw_k Bh_5.2.2 k0) rfl (by decide) rfl hl.1 rfl (Nat.le_of_ble_eq_true rfl) dX11_bundled_17 ⟨Nat.le_refl _, Nat.le_refl _⟩) (fun _ _ h => by rw [h.1]; exact Bh_5.2.2) rfl (fun rh_7 αh_7 Hh_7 Lh_7 ph_7 Bh_7 => ?_)
      rw [ph_7.1] at Bh_7
      have zh_7 := ph_7.2
      refine lv_if_ne (tgt := 29) hx hb dX11_bundled_20 (by decide) (fun c_8 => ?_) (fun c_8 => hp_n (n := 23) rfl ?_)
      ·
        have jc_8 := il_ne c_8
        refine lv_aload_n hx hb dX11_bundled_29 rfl (lv_at hl 0 rfl) (hp_n (n := 30) rfl ?_)
        refine q_getr (κ := 12) (k := 12) (φ := 612) (pc' := 33) C Bh_7 (cw_k Bh_7.2.2 k0) fl_X11_62 rfl rfl rfl (cw_r Bh_7.2.2 k0 rfl rfl (by decide) (by decide)) dX11_bundled_30 rfl (fun b_9 eb_9 kb_9 => ?_)
        refine lv_iload_n hx hb dX11_bundled_33 rfl (lv_at hl 1 rfl) (hp_n (n := 34) rfl ?_)
        refine lv_iload_n hx hb dX11_bundled_34 rfl (lv_at hl 2 rfl) (hp_n (n := 35) rfl ?_)
        refine q_cv (pc' := 38) Bh_7 (hp_runV (As := [.int a1, .int a2]) (rest := []) C Bh_7 (t_X8_toBundle Γ l α Bh_7.2.2.1 b_9 (cw_k Bh_7.2.2 kb_9) a1 a2) lb_X8_toBundle lv_X8_toBundle lk_X11_284 (cw_k Bh_7.2.2 kb_9) rfl (by decide) rfl hl.1 rfl (Nat.le_of_ble_eq_true rfl) dX11_bundled_35 ⟨Nat.le_refl _, Nat.le_refl _⟩) (fun _ h => cw_tr Bh_7.2.2 h (by decide)) rfl (fun αh_10 Hh_10 Lh_10 ph_10 Bh_10 => ?_)
        refine lv_aload_n hx hb dX11_bundled_38 rfl (lv_at hl 0 rfl) (hp_n (n := 39) rfl ?_)
        refine lv_aload_n hx hb dX11_bundled_39 rfl (lv_at hl 0 rfl) (hp_n (n := 40) rfl ?_)
        refine q_getr (κ := 12) (k := 15) (φ := 615) (pc' := 43) C Bh_10 (cw_k Bh_10.2.2 k0) fl_X11_75 rfl rfl rfl (cw_r Bh_10.2.2 k0 rfl rfl (by decide) (by decide)) dX11_bundled_40 rfl (fun b_11 eb_11 kb_11 => ?_)
        refine lv_aload_n hx hb dX11_bundled_43 rfl (lv_at hl 0 rfl) (hp_n (n := 44) rfl ?_)
        refine q_getr (κ := 12) (k := 1) (φ := 601) (pc' := 47) C Bh_10 (cw_k Bh_10.2.2 k0) fl_X11_16 rfl rfl rfl (cw_r Bh_10.2.2 k0 rfl rfl (by decide) (by decide)) dX11_bundled_44 rfl (fun b_12 eb_12 kb_12 => ?_)
        refine q_geti (κ := 11) (k := 0) (φ := 550) (pc' := 50) C Bh_10 (cw_k Bh_10.2.2 kb_12) fl_X11_122 rfl rfl rfl dX11_bundled_47 rfl (fun x_13 ex_13 => ?_)
        refine lv_aload_n hx hb dX11_bundled_50 rfl (lv_at hl 0 rfl) (hp_n (n := 51) rfl ?_)
        refine q_getr (κ := 12) (k := 3) (φ := 603) (pc' := 54) C Bh_10 (cw_k Bh_10.2.2 k0) fl_X11_26 rfl rfl rfl (cw_r Bh_10.2.2 k0 rfl rfl (by decide) (by decide)) dX11_bundled_51 rfl (fun b_14 eb_14 kb_14 => ?_)
        refine lv_iload_n hx hb dX11_bundled_54 rfl (lv_at hl 1 rfl) (hp_n (n := 55) rfl ?_)
        refine lv_iload_n hx hb dX11_bundled_55 rfl (lv_at hl 2 rfl) (hp_n (n := 56) rfl ?_)
        refine lv_aload_n hx hb dX11_bundled_56 rfl (lv_at hl 0 rfl) (hp_n (n := 57) rfl ?_)
        have t_15 : b_9 = hp_R αh_10 612 a0 := by rw [cw_R ph_10 a0 (by decide)]; exact eb_9
        refine q_gets (κ := 12) (k := 12) (φ := 612) (pc' := 60) C Bh_10 (cw_k Bh_10.2.2 k0) fl_X11_62 rfl rfl rfl t_15 dX11_bundled_57 rfl ?_
        refine q_geti (κ := 9) (k := 3) (φ := 453) (pc' := 63) C Bh_10 (cw_k Bh_10.2.2 kb_9) fl_X11_312 rfl rfl rfl dX11_bundled_60 rfl (fun x_16 ex_16 => ?_)
        obtain ⟨gx_16a, gx_16b⟩ : 0 ≤ x_16.toInt ∧ x_16.toInt ≤ 64 := by rw [ex_16]; exact Bh_10.2.2.1.1 453 b_9 rfl
        refine lv_iload_n hx hb dX11_bundled_63 rfl (lv_at hl 3 rfl) (hp_n (n := 64) rfl ?_)
        refine q_ci (pc' := 67) Bh_10 (hp_runV (As := [.int x_13, .ref b_14, .int a1, .int a2, .int x_16, .int a3]) (rest := [.ref a0]) C Bh_10 (t_X0_why Γ l αh_10 Bh_10.2.2.1 b_11 (cw_k Bh_10.2.2 kb_11) x_13 b_14 (cw_k Bh_10.2.2 kb_14) a1 a2 x_16 a3) lb_X0_why lv_X0_why lk_X11_313 (cw_k Bh_10.2.2 kb_11) rfl (by decide) rfl hl.1 rfl (Nat.le_of_ble_eq_true rfl) dX11_bundled_64 ⟨Nat.le_refl _, Nat.le_refl _⟩) (fun _ _ h => cw_tr Bh_10.2.2 h (by decide)) rfl (fun rh_17 αh_17 Hh_17 Lh_17 ph_17 Bh_17 => ?_)
        refine q_ci (pc' := 70) Bh_17 (hp_runV (As := [.int rh_17]) (rest := []) C Bh_17 (t_X11_answer Γ l αh_17 Bh_17.2.2.1 a0 (cw_k Bh_17.2.2 k0) rh_17) lb_X11_answer lv_X11_answer lk_X11_115 (cw_k Bh_17.2.2 k0) rfl (by decide) rfl hl.1 rfl (Nat.le_of_ble_eq_true rfl) dX11_bundled_67 ⟨Nat.le_refl _, Nat.le_refl _⟩) (fun _ _ h => cw_tr Bh_17.2.2 h (by decide)) rfl (fun rh_18 αh_18 Hh_18 Lh_18 ph_18 Bh_18 => ?_)
        exact q_iret C Bh_18 hr hlk Bh_18.2.2 dX11_bundled_70
      ·
        have jc_8 := il_eq c_8
        exact J23 Hh_7 Lh_7 Bh_7 ls (lv_sub hl [0] rfl)
abbrev w_X11_fold : cw_W := ([600], [], [], [])
set_option maxRecDepth 100000 in
set_option maxHeartbeats 4000000 in
theorem t_X11_fold (Γ : hp_G) (l : Launch) (α : hp_T) (g : GC α) (a0 : Nat) (k0 : hp_K α a0 = 12) : Met l yX11_fold (hp_ws yX11_fold cX11_fold 1 (some .int)) (hp_rm 2 0 0) (hp_Pc Γ α [.ref a0]) (hp_Qi Γ (fun r β => cw w_X11_fold α β)) 0 0 (hp_A Γ) := by
  refine hp_start (by decide) ?_
  intro p e s m below meth c C hr hlk B0 hnm
  have C : hp_C Γ p m c cX11_fold 1 s ([.ref a0] : List Value).toArray RX11 := C
  have hx := C.1.1
  have hb := C.1.2.1
  have hown := C.1.2.2.2.1
  have hts := C.1.2.2.2.2
  have B : hp_B Γ (cw w_X11_fold) s α α s.heap [] := ⟨B0.1, B0.2.1, cw_rf g⟩
  have hl := lv_entry ([.ref a0]) (n := 1) (Nat.le_of_ble_eq_true rfl)
  show W p l e (hp_rm 2 0 0) s m ([.ref a0] : List Value).toArray below meth c s.heap [] 0 0 (MQ below (hp_Qi Γ (fun r β => cw w_X11_fold α β)) ([.ref a0] : List Value).toArray s 0 0 (hp_A Γ)) (entryFrame m ([.ref a0] : List Value).toArray 1)
  rw [lg_entry_eq]
  generalize (lg_sl ([.ref a0]) ++ List.replicate (1 - (lg_sl ([.ref a0])).length) Slot.unset).toArray = ls at hl ⊢
  have hl : lv_has ls 1 [(0, .ref a0)] := hl
  refine lv_aload_n hx hb dX11_fold_0 rfl (lv_at hl 0 rfl) (hp_n (n := 1) rfl ?_)
  refine lv_aload_n hx hb dX11_fold_1 rfl (lv_at hl 0 rfl) (hp_n (n := 2) rfl ?_)
  refine q_getr (κ := 12) (k := 3) (φ := 603) (pc' := 5) C B (cw_k B.2.2 k0) fl_X11_26 rfl rfl rfl (cw_r B.2.2 k0 rfl rfl (by decide) (by decide)) dX11_fold_2 rfl (fun b_1 eb_1 kb_1 => ?_)
  refine lv_aload_n hx hb dX11_fold_5 rfl (lv_at hl 0 rfl) (hp_n (n := 6) rfl ?_)
  refine q_getr (κ := 12) (k := 1) (φ := 601) (pc' := 9) C B (cw_k B.2.2 k0) fl_X11_16 rfl rfl rfl (cw_r B.2.2 k0 rfl rfl (by decide) (by decide)) dX11_fold_6 rfl (fun b_2 eb_2 kb_2 => ?_)
  refine q_geti (κ := 11) (k := 0) (φ := 550) (pc' := 12) C B (cw_k B.2.2 kb_2) fl_X11_122 rfl rfl rfl dX11_fold_9 rfl (fun x_3 ex_3 => ?_)
  refine q_ci (pc' := 15) B (hp_runV (As := [.int x_3]) (rest := [.ref a0]) C B (t_X5_foldedPeaks Γ l α B.2.2.1 b_1 (cw_k B.2.2 kb_1) x_3) lb_X5_foldedPeaks lv_X5_foldedPeaks lk_X11_316 (cw_k B.2.2 kb_1) rfl (by decide) rfl hl.1 rfl (Nat.le_of_ble_eq_true rfl) dX11_fold_12 ⟨Nat.le_refl _, Nat.le_refl _⟩) (fun _ _ h => by rw [h]; exact B.2.2) rfl (fun rh_4 αh_4 Hh_4 Lh_4 ph_4 Bh_4 => ?_)
  rw [ph_4] at Bh_4
  refine q_ci (pc' := 18) Bh_4 (hp_runV (As := [.int rh_4]) (rest := []) C Bh_4 (t_X11_answer Γ l α Bh_4.2.2.1 a0 (cw_k Bh_4.2.2 k0) rh_4) lb_X11_answer lv_X11_answer lk_X11_115 (cw_k Bh_4.2.2 k0) rfl (by decide) rfl hl.1 rfl (Nat.le_of_ble_eq_true rfl) dX11_fold_15 ⟨Nat.le_refl _, Nat.le_refl _⟩) (fun _ _ h => cw_tr Bh_4.2.2 h (by decide)) rfl (fun rh_5 αh_5 Hh_5 Lh_5 ph_5 Bh_5 => ?_)
  exact q_iret C Bh_5 hr hlk Bh_5.2.2 dX11_fold_18
abbrev w_X11_steps : cw_W := ([453, 454, 600], [], [21, 22, 23], [])
set_option maxRecDepth 100000 in
set_option maxHeartbeats 4000000 in
theorem t_X11_steps (Γ : hp_G) (l : Launch) (α : hp_T) (g : GC α) (a0 : Nat) (k0 : hp_K α a0 = 12) (a1 : Int32) (a2 : Int32) : Met l yX11_steps (hp_ws yX11_steps cX11_steps 3 (some .int)) (hp_rm 4 0 0) (hp_Pc Γ α [.ref a0, .int a1, .int a2]) (hp_Qi Γ (fun r β => cw w_X11_steps α β)) 0 0 (hp_A Γ) := by
  refine hp_start (by decide) ?_
  intro p e s m below meth c C hr hlk B0 hnm
  have C : hp_C Γ p m c cX11_steps 3 s ([.ref a0, .int a1, .int a2] : List Value).toArray RX11 := C
  have hx := C.1.1
  have hb := C.1.2.1
  have hown := C.1.2.2.2.1
  have hts := C.1.2.2.2.2
  have B : hp_B Γ (cw w_X11_steps) s α α s.heap [] := ⟨B0.1, B0.2.1, cw_rf g⟩
  have lit0 : (0 : Int32).toInt = 0 := by decide
  have lit1 : (1 : Int32).toInt = 1 := by decide
  have hl := lv_entry ([.ref a0, .int a1, .int a2]) (n := 3) (Nat.le_of_ble_eq_true rfl)
  show W p l e (hp_rm 4 0 0) s m ([.ref a0, .int a1, .int a2] : List Value).toArray below meth c s.heap [] 0 0 (MQ below (hp_Qi Γ (fun r β => cw w_X11_steps α β)) ([.ref a0, .int a1, .int a2] : List Value).toArray s 0 0 (hp_A Γ)) (entryFrame m ([.ref a0, .int a1, .int a2] : List Value).toArray 3)
  rw [lg_entry_eq]
  generalize (lg_sl ([.ref a0, .int a1, .int a2]) ++ List.replicate (3 - (lg_sl ([.ref a0, .int a1, .int a2])).length) Slot.unset).toArray = ls at hl ⊢
  have hl : lv_has ls 3 [(0, .ref a0), (1, .int a1), (2, .int a2)] := hl
  refine lv_iload_n hx hb dX11_steps_0 rfl (lv_at hl 1 rfl) (hp_n (n := 1) rfl ?_)
  refine lv_iload_n hx hb dX11_steps_1 rfl (lv_at hl 2 rfl) (hp_n (n := 2) rfl ?_)
  refine q_ci (pc' := 5) B (hp_runS (As := [.int a1, .int a2]) (rest := []) C B (t_X11_isThing Γ l α B.2.2.1 a1 a2) lb_X11_isThing ls_X11_isThing lk_X11_301 rfl (by decide) rfl hl.1 rfl (Nat.le_of_ble_eq_true rfl) dX11_steps_2 ⟨Nat.le_refl _, Nat.le_refl _⟩) (fun _ _ h => by rw [h.1]; exact B.2.2) rfl (fun rh_1 αh_1 Hh_1 Lh_1 ph_1 Bh_1 => ?_)
  rw [ph_1.1] at Bh_1
  have zh_1 := ph_1.2
  refine lv_if_ne (tgt := 14) hx hb dX11_steps_5 (by decide) (fun c_2 => ?_) (fun c_2 => hp_n (n := 8) rfl ?_)
  ·
    have jc_2 := il_ne c_2
    refine lv_aload_n hx hb dX11_steps_14 rfl (lv_at hl 0 rfl) (hp_n (n := 15) rfl ?_)
    refine q_getr (κ := 12) (k := 12) (φ := 612) (pc' := 18) C Bh_1 (cw_k Bh_1.2.2 k0) fl_X11_62 rfl rfl rfl (cw_r Bh_1.2.2 k0 rfl rfl (by decide) (by decide)) dX11_steps_15 rfl (fun b_3 eb_3 kb_3 => ?_)
    refine lv_iload_n hx hb dX11_steps_18 rfl (lv_at hl 1 rfl) (hp_n (n := 19) rfl ?_)
    refine lv_iload_n hx hb dX11_steps_19 rfl (lv_at hl 2 rfl) (hp_n (n := 20) rfl ?_)
    refine q_cv (pc' := 23) Bh_1 (hp_runV (As := [.int a1, .int a2]) (rest := []) C Bh_1 (t_X8_toThing Γ l α Bh_1.2.2.1 b_3 (cw_k Bh_1.2.2 kb_3) a1 a2) lb_X8_toThing lv_X8_toThing lk_X11_267 (cw_k Bh_1.2.2 kb_3) rfl (by decide) rfl hl.1 rfl (Nat.le_of_ble_eq_true rfl) dX11_steps_20 ⟨Nat.le_refl _, Nat.le_refl _⟩) (fun _ h => cw_tr Bh_1.2.2 h (by decide)) rfl (fun αh_4 Hh_4 Lh_4 ph_4 Bh_4 => ?_)
    refine lv_aload_n hx hb dX11_steps_23 rfl (lv_at hl 0 rfl) (hp_n (n := 24) rfl ?_)
    refine lv_aload_n hx hb dX11_steps_24 rfl (lv_at hl 0 rfl) (hp_n (n := 25) rfl ?_)
    have t_5 : b_3 = hp_R αh_4 612 a0 := by rw [cw_R ph_4 a0 (by decide)]; exact eb_3
    refine q_gets (κ := 12) (k := 12) (φ := 612) (pc' := 28) C Bh_4 (cw_k Bh_4.2.2 k0) fl_X11_62 rfl rfl rfl t_5 dX11_steps_25 rfl ?_
    refine q_geti (κ := 9) (k := 3) (φ := 453) (pc' := 31) C Bh_4 (cw_k Bh_4.2.2 kb_3) fl_X11_312 rfl rfl rfl dX11_steps_28 rfl (fun x_6 ex_6 => ?_)
    obtain ⟨gx_6a, gx_6b⟩ : 0 ≤ x_6.toInt ∧ x_6.toInt ≤ 64 := by rw [ex_6]; exact Bh_4.2.2.1.1 453 b_3 rfl
    refine q_ci (pc' := 34) Bh_4 (hp_runV (As := [.int x_6]) (rest := []) C Bh_4 (t_X11_answer Γ l αh_4 Bh_4.2.2.1 a0 (cw_k Bh_4.2.2 k0) x_6) lb_X11_answer lv_X11_answer lk_X11_115 (cw_k Bh_4.2.2 k0) rfl (by decide) rfl hl.1 rfl (Nat.le_of_ble_eq_true rfl) dX11_steps_31 ⟨Nat.le_refl _, Nat.le_refl _⟩) (fun _ _ h => cw_tr Bh_4.2.2 h (by decide)) rfl (fun rh_7 αh_7 Hh_7 Lh_7 ph_7 Bh_7 => ?_)
    exact q_iret C Bh_7 hr hlk Bh_7.2.2 dX11_steps_34
  ·
    have jc_2 := il_eq c_2
    refine lv_aload_n hx hb dX11_steps_8 rfl (lv_at hl 0 rfl) (hp_n (n := 9) rfl ?_)
    refine lv_iconst (v := 1) hx hb dX11_steps_9 (by decide) (hp_n (n := 10) rfl ?_)
    refine q_ci (pc' := 13) Bh_1 (hp_runV (As := [.int 1]) (rest := []) C Bh_1 (t_X11_refuse Γ l α Bh_1.2.2.1 a0 (cw_k Bh_1.2.2 k0) 1) lb_X11_refuse lv_X11_refuse lk_X11_98 (cw_k Bh_1.2.2 k0) rfl (by decide) rfl hl.1 rfl (Nat.le_of_ble_eq_true rfl) dX11_steps_10 ⟨Nat.le_refl _, Nat.le_refl _⟩) (fun _ _ h => cw_tr Bh_1.2.2 h (by decide)) rfl (fun rh_8 αh_8 Hh_8 Lh_8 ph_8 Bh_8 => ?_)
    exact q_iret C Bh_8 hr hlk Bh_8.2.2 dX11_steps_13
abbrev w_X11_climbs : cw_W := ([453, 454, 600], [], [21, 22, 23], [])
set_option maxRecDepth 100000 in
set_option maxHeartbeats 4000000 in
theorem t_X11_climbs (Γ : hp_G) (l : Launch) (α : hp_T) (g : GC α) (a0 : Nat) (k0 : hp_K α a0 = 12) (a1 : Int32) (a2 : Int32) : Met l yX11_climbs (hp_ws yX11_climbs cX11_climbs 3 (some .int)) (hp_rm 4 0 0) (hp_Pc Γ α [.ref a0, .int a1, .int a2]) (hp_Qi Γ (fun r β => cw w_X11_climbs α β)) 0 0 (hp_A Γ) := by
  refine hp_start (by decide) ?_
  intro p e s m below meth c C hr hlk B0 hnm
  have C : hp_C Γ p m c cX11_climbs 3 s ([.ref a0, .int a1, .int a2] : List Value).toArray RX11 := C
  have hx := C.1.1
  have hb := C.1.2.1
  have hown := C.1.2.2.2.1
  have hts := C.1.2.2.2.2
  have B : hp_B Γ (cw w_X11_climbs) s α α s.heap [] := ⟨B0.1, B0.2.1, cw_rf g⟩
  have lit0 : (0 : Int32).toInt = 0 := by decide
  have lit1 : (1 : Int32).toInt = 1 := by decide
  have hl := lv_entry ([.ref a0, .int a1, .int a2]) (n := 3) (Nat.le_of_ble_eq_true rfl)
  show W p l e (hp_rm 4 0 0) s m ([.ref a0, .int a1, .int a2] : List Value).toArray below meth c s.heap [] 0 0 (MQ below (hp_Qi Γ (fun r β => cw w_X11_climbs α β)) ([.ref a0, .int a1, .int a2] : List Value).toArray s 0 0 (hp_A Γ)) (entryFrame m ([.ref a0, .int a1, .int a2] : List Value).toArray 3)
  rw [lg_entry_eq]
  generalize (lg_sl ([.ref a0, .int a1, .int a2]) ++ List.replicate (3 - (lg_sl ([.ref a0, .int a1, .int a2])).length) Slot.unset).toArray = ls at hl ⊢
  have hl : lv_has ls 3 [(0, .ref a0), (1, .int a1), (2, .int a2)] := hl
  refine lv_iload_n hx hb dX11_climbs_0 rfl (lv_at hl 1 rfl) (hp_n (n := 1) rfl ?_)
  have J9 : ∀ (Hh_1 : Heap) (Lh_1 : List Loc) (Bh_1 : hp_B Γ (cw w_X11_climbs) s α α Hh_1 Lh_1) (ls : Array Slot) (hl : lv_has ls 3 [(0, .ref a0)]), W p l e (hp_rm 4 0 0) s m ([.ref a0, .int a1, .int a2] : List Value).toArray below meth c Hh_1 Lh_1 0 0 (MQ below (hp_Qi Γ (fun r β => cw w_X11_climbs α β)) ([.ref a0, .int a1, .int a2] : List Value).toArray s 0 0 (hp_A Γ)) (F0 m 9 ls []) := by
    intro Hh_1 Lh_1 Bh_1 ls hl
    refine lv_aload_n hx hb dX11_climbs_9 rfl (lv_at hl 0 rfl) (hp_n (n := 10) rfl ?_)
    refine lv_iconst (v := 1) hx hb dX11_climbs_10 (by decide) (hp_n (n := 11) rfl ?_)
    refine q_ci (pc' := 14) Bh_1 (hp_runV (As := [.int 1]) (rest := []) C Bh_1 (t_X11_refuse Γ l α Bh_1.2.2.1 a0 (cw_k Bh_1.2.2 k0) 1) lb_X11_refuse lv_X11_refuse lk_X11_98 (cw_k Bh_1.2.2 k0) rfl (by decide) rfl hl.1 rfl (Nat.le_of_ble_eq_true rfl) dX11_climbs_11 ⟨Nat.le_refl _, Nat.le_refl _⟩) (fun _ _ h => cw_tr Bh_1.2.2 h (by decide)) rfl (fun rh_2 αh_2 Hh_2 Lh_2 ph_2 Bh_2 => ?_)
    exact q_iret C Bh_2 hr hlk Bh_2.2.2 dX11_climbs_14
  refine lv_if_lt (tgt := 9) hx hb dX11_climbs_1 (by decide) (fun c_3 => ?_) (fun c_3 => hp_n (n := 4) rfl ?_)
  ·
    have jc_3 := il_lt c_3
    exact J9 s.heap [] B ls (lv_sub hl [0] rfl)
  ·
    have jc_3 := il_nlt c_3
    refine lv_iload_n hx hb dX11_climbs_4 rfl (lv_at hl 1 rfl) (hp_n (n := 5) rfl ?_)
    refine lv_iload_n hx hb dX11_climbs_5 rfl (lv_at hl 2 rfl) (hp_n (n := 6) rfl ?_)
    refine lv_icmp_le (tgt := 15) hx hb dX11_climbs_6 (by decide) (fun c_4 => ?_) (fun c_4 => hp_n (n := 9) rfl ?_)
    ·
      have jc_4 := il_le c_4
      refine lv_aload_n hx hb dX11_climbs_15 rfl (lv_at hl 0 rfl) (hp_n (n := 16) rfl ?_)
      refine q_getr (κ := 12) (k := 12) (φ := 612) (pc' := 19) C B (cw_k B.2.2 k0) fl_X11_62 rfl rfl rfl (cw_r B.2.2 k0 rfl rfl (by decide) (by decide)) dX11_climbs_16 rfl (fun b_5 eb_5 kb_5 => ?_)
      refine lv_iload_n hx hb dX11_climbs_19 rfl (lv_at hl 1 rfl) (hp_n (n := 20) rfl ?_)
      refine lv_iload_n hx hb dX11_climbs_20 rfl (lv_at hl 2 rfl) (hp_n (n := 21) rfl ?_)
      refine q_cv (pc' := 24) B (hp_runV (As := [.int a1, .int a2]) (rest := []) C B (t_X8_toGrowth Γ l α B.2.2.1 b_5 (cw_k B.2.2 kb_5) a1 a2) lb_X8_toGrowth lv_X8_toGrowth lk_X11_274 (cw_k B.2.2 kb_5) rfl (by decide) rfl hl.1 rfl (Nat.le_of_ble_eq_true rfl) dX11_climbs_21 ⟨Nat.le_refl _, Nat.le_refl _⟩) (fun _ h => cw_tr B.2.2 h (by decide)) rfl (fun αh_6 Hh_6 Lh_6 ph_6 Bh_6 => ?_)
      refine lv_aload_n hx hb dX11_climbs_24 rfl (lv_at hl 0 rfl) (hp_n (n := 25) rfl ?_)
      refine lv_aload_n hx hb dX11_climbs_25 rfl (lv_at hl 0 rfl) (hp_n (n := 26) rfl ?_)
      have t_7 : b_5 = hp_R αh_6 612 a0 := by rw [cw_R ph_6 a0 (by decide)]; exact eb_5
      refine q_gets (κ := 12) (k := 12) (φ := 612) (pc' := 29) C Bh_6 (cw_k Bh_6.2.2 k0) fl_X11_62 rfl rfl rfl t_7 dX11_climbs_26 rfl ?_
      refine q_geti (κ := 9) (k := 3) (φ := 453) (pc' := 32) C Bh_6 (cw_k Bh_6.2.2 kb_5) fl_X11_312 rfl rfl rfl dX11_climbs_29 rfl (fun x_8 ex_8 => ?_)
      obtain ⟨gx_8a, gx_8b⟩ : 0 ≤ x_8.toInt ∧ x_8.toInt ≤ 64 := by rw [ex_8]; exact Bh_6.2.2.1.1 453 b_5 rfl
      refine q_ci (pc' := 35) Bh_6 (hp_runV (As := [.int x_8]) (rest := []) C Bh_6 (t_X11_answer Γ l αh_6 Bh_6.2.2.1 a0 (cw_k Bh_6.2.2 k0) x_8) lb_X11_answer lv_X11_answer lk_X11_115 (cw_k Bh_6.2.2 k0) rfl (by decide) rfl hl.1 rfl (Nat.le_of_ble_eq_true rfl) dX11_climbs_32 ⟨Nat.le_refl _, Nat.le_refl _⟩) (fun _ _ h => cw_tr Bh_6.2.2 h (by decide)) rfl (fun rh_9 αh_9 Hh_9 Lh_9 ph_9 Bh_9 => ?_)
      exact q_iret C Bh_9 hr hlk Bh_9.2.2 dX11_climbs_35
    ·
      have jc_4 := il_nle c_4
      exact J9 s.heap [] B ls (lv_sub hl [0] rfl)
abbrev w_X11_agree : cw_W := ([600], [], [33], [])
set_option maxRecDepth 100000 in
set_option maxHeartbeats 4000000 in
theorem t_X11_agree (Γ : hp_G) (l : Launch) (α : hp_T) (g : GC α) (a0 : Nat) (k0 : hp_K α a0 = 12) (a1 : Int32) (a2 : Int32) : Met l yX11_agree (hp_ws yX11_agree cX11_agree 5 (some .int)) (hp_rm 5 0 0) (hp_Pc Γ α [.ref a0, .int a1, .int a2]) (hp_Qi Γ (fun r β => cw w_X11_agree α β)) 0 0 (hp_A Γ) := by
  refine hp_start (by decide) ?_
  intro p e s m below meth c C hr hlk B0 hnm
  have C : hp_C Γ p m c cX11_agree 5 s ([.ref a0, .int a1, .int a2] : List Value).toArray RX11 := C
  have hx := C.1.1
  have hb := C.1.2.1
  have hown := C.1.2.2.2.1
  have hts := C.1.2.2.2.2
  have B : hp_B Γ (cw w_X11_agree) s α α s.heap [] := ⟨B0.1, B0.2.1, cw_rf g⟩
  have lit0 : (0 : Int32).toInt = 0 := by decide
  have lit1 : (1 : Int32).toInt = 1 := by decide
  have lit2 : (2 : Int32).toInt = 2 := by decide
  have hl := lv_entry ([.ref a0, .int a1, .int a2]) (n := 5) (Nat.le_of_ble_eq_true rfl)
  show W p l e (hp_rm 5 0 0) s m ([.ref a0, .int a1, .int a2] : List Value).toArray below meth c s.heap [] 0 0 (MQ below (hp_Qi Γ (fun r β => cw w_X11_agree α β)) ([.ref a0, .int a1, .int a2] : List Value).toArray s 0 0 (hp_A Γ)) (entryFrame m ([.ref a0, .int a1, .int a2] : List Value).toArray 5)
  rw [lg_entry_eq]
  generalize (lg_sl ([.ref a0, .int a1, .int a2]) ++ List.replicate (5 - (lg_sl ([.ref a0, .int a1, .int a2])).length) Slot.unset).toArray = ls at hl ⊢
  have hl : lv_has ls 5 [(0, .ref a0), (1, .int a1), (2, .int a2)] := hl
  refine lv_aload_n hx hb dX11_agree_0 rfl (lv_at hl 0 rfl) (hp_n (n := 1) rfl ?_)
  refine q_getr (κ := 12) (k := 1) (φ := 601) (pc' := 4) C B (cw_k B.2.2 k0) fl_X11_16 rfl rfl rfl (cw_r B.2.2 k0 rfl rfl (by decide) (by decide)) dX11_agree_1 rfl (fun b_1 eb_1 kb_1 => ?_)
  refine lv_iload_n hx hb dX11_agree_4 rfl (lv_at hl 1 rfl) (hp_n (n := 5) rfl ?_)
  refine q_cq (pc' := 8) B (hp_runV (As := [.int a1]) (rest := []) C B (t_X10_watcherAt Γ l α B.2.2.1 b_1 (cw_k B.2.2 kb_1) a1) lb_X10_watcherAt lv_X10_watcherAt lk_X11_220 (cw_k B.2.2 kb_1) rfl (by decide) rfl hl.1 rfl (Nat.le_of_ble_eq_true rfl) dX11_agree_5 ⟨Nat.le_refl _, Nat.le_refl _⟩) (fun _ _ h => by rw [h.1]; exact B.2.2) rfl (fun rh_2 αh_2 Hh_2 Lh_2 ph_2 Bh_2 => ?_)
  rw [ph_2.1] at Bh_2
  rcases rh_2 with _ | bh_2
  ·
    refine lv_astore_nN (lv' := [(3, .null), (0, .ref a0), (1, .int a1), (2, .int a2)]) hx hb dX11_agree_8 rfl hl (by decide) rfl (fun ls hl => hp_n (n := 9) rfl ?_)
    refine lv_aload_n hx hb dX11_agree_9 rfl (lv_at hl 1 rfl) (hp_n (n := 10) rfl ?_)
    refine q_gets (κ := 12) (k := 1) (φ := 601) (pc' := 13) C Bh_2 (cw_k Bh_2.2.2 k0) fl_X11_16 rfl rfl rfl eb_1 dX11_agree_10 rfl ?_
    refine lv_iload_n hx hb dX11_agree_13 rfl (lv_at hl 3 rfl) (hp_n (n := 14) rfl ?_)
    refine q_cq (pc' := 17) Bh_2 (hp_runV (As := [.int a2]) (rest := []) C Bh_2 (t_X10_watcherAt Γ l α Bh_2.2.2.1 b_1 (cw_k Bh_2.2.2 kb_1) a2) lb_X10_watcherAt lv_X10_watcherAt lk_X11_220 (cw_k Bh_2.2.2 kb_1) rfl (by decide) rfl hl.1 rfl (Nat.le_of_ble_eq_true rfl) dX11_agree_14 ⟨Nat.le_refl _, Nat.le_refl _⟩) (fun _ _ h => by rw [h.1]; exact Bh_2.2.2) rfl (fun rh_3 αh_3 Hh_3 Lh_3 ph_3 Bh_3 => ?_)
    rw [ph_3.1] at Bh_3
    rcases rh_3 with _ | bh_3
    ·
      refine lv_astoreN (lv' := [(4, .null), (3, .null), (0, .ref a0), (1, .int a1), (2, .int a2)]) hx hb dX11_agree_17 hl (by decide) rfl (fun ls hl => hp_n (n := 19) rfl ?_)
      refine lv_aload_nN hx hb dX11_agree_19 rfl (lv_at hl 1 rfl) (hp_n (n := 20) rfl ?_)
      have J28 : ∀ (Hh_4 : Heap) (Lh_4 : List Loc) (Bh_4 : hp_B Γ (cw w_X11_agree) s α α Hh_4 Lh_4) (ls : Array Slot) (hl : lv_has ls 5 [(0, .ref a0)]), W p l e (hp_rm 5 0 0) s m ([.ref a0, .int a1, .int a2] : List Value).toArray below meth c Hh_4 Lh_4 0 0 (MQ below (hp_Qi Γ (fun r β => cw w_X11_agree α β)) ([.ref a0, .int a1, .int a2] : List Value).toArray s 0 0 (hp_A Γ)) (F0 m 28 ls []) := by
        intro Hh_4 Lh_4 Bh_4 ls hl
        refine lv_aload_n hx hb dX11_agree_28 rfl (lv_at hl 0 rfl) (hp_n (n := 29) rfl ?_)
        refine lv_iconst (v := 2) hx hb dX11_agree_29 (by decide) (hp_n (n := 30) rfl ?_)
        refine q_ci (pc' := 33) Bh_4 (hp_runV (As := [.int 2]) (rest := []) C Bh_4 (t_X11_refuse Γ l α Bh_4.2.2.1 a0 (cw_k Bh_4.2.2 k0) 2) lb_X11_refuse lv_X11_refuse lk_X11_98 (cw_k Bh_4.2.2 k0) rfl (by decide) rfl hl.1 rfl (Nat.le_of_ble_eq_true rfl) dX11_agree_30 ⟨Nat.le_refl _, Nat.le_refl _⟩) (fun _ _ h => cw_tr Bh_4.2.2 h (by decide)) rfl (fun rh_5 αh_5 Hh_5 Lh_5 ph_5 Bh_5 => ?_)
        exact q_iret C Bh_5 hr hlk Bh_5.2.2 dX11_agree_33
      refine lv_ifnullN (tgt := 28) hx hb dX11_agree_20 (by decide) ?_
      exact J28 Hh_3 Lh_3 Bh_3 ls (lv_sub hl [2] rfl)
    ·
      have kbh_3 : hp_K α bh_3 = 8 := cw_k' Bh_3.2.2 (ph_3.2 bh_3 rfl)
      refine lv_astore (lv' := [(4, .ref bh_3), (3, .null), (0, .ref a0), (1, .int a1), (2, .int a2)]) hx hb dX11_agree_17 hl (by decide) rfl (fun ls hl => hp_n (n := 19) rfl ?_)
      refine lv_aload_nN hx hb dX11_agree_19 rfl (lv_at hl 1 rfl) (hp_n (n := 20) rfl ?_)
      have J28 : ∀ (Hh_6 : Heap) (Lh_6 : List Loc) (Bh_6 : hp_B Γ (cw w_X11_agree) s α α Hh_6 Lh_6) (ls : Array Slot) (hl : lv_has ls 5 [(0, .ref a0)]), W p l e (hp_rm 5 0 0) s m ([.ref a0, .int a1, .int a2] : List Value).toArray below meth c Hh_6 Lh_6 0 0 (MQ below (hp_Qi Γ (fun r β => cw w_X11_agree α β)) ([.ref a0, .int a1, .int a2] : List Value).toArray s 0 0 (hp_A Γ)) (F0 m 28 ls []) := by
        intro Hh_6 Lh_6 Bh_6 ls hl
        refine lv_aload_n hx hb dX11_agree_28 rfl (lv_at hl 0 rfl) (hp_n (n := 29) rfl ?_)
        refine lv_iconst (v := 2) hx hb dX11_agree_29 (by decide) (hp_n (n := 30) rfl ?_)
        refine q_ci (pc' := 33) Bh_6 (hp_runV (As := [.int 2]) (rest := []) C Bh_6 (t_X11_refuse Γ l α Bh_6.2.2.1 a0 (cw_k Bh_6.2.2 k0) 2) lb_X11_refuse lv_X11_refuse lk_X11_98 (cw_k Bh_6.2.2 k0) rfl (by decide) rfl hl.1 rfl (Nat.le_of_ble_eq_true rfl) dX11_agree_30 ⟨Nat.le_refl _, Nat.le_refl _⟩) (fun _ _ h => cw_tr Bh_6.2.2 h (by decide)) rfl (fun rh_7 αh_7 Hh_7 Lh_7 ph_7 Bh_7 => ?_)
        exact q_iret C Bh_7 hr hlk Bh_7.2.2 dX11_agree_33
      refine lv_ifnullN (tgt := 28) hx hb dX11_agree_20 (by decide) ?_
      exact J28 Hh_3 Lh_3 Bh_3 ls (lv_sub hl [2] rfl)
  ·
    have kbh_2 : hp_K α bh_2 = 8 := cw_k' Bh_2.2.2 (ph_2.2 bh_2 rfl)
    refine lv_astore_n (lv' := [(3, .ref bh_2), (0, .ref a0), (1, .int a1), (2, .int a2)]) hx hb dX11_agree_8 rfl hl (by decide) rfl (fun ls hl => hp_n (n := 9) rfl ?_)
    refine lv_aload_n hx hb dX11_agree_9 rfl (lv_at hl 1 rfl) (hp_n (n := 10) rfl ?_)
    refine q_gets (κ := 12) (k := 1) (φ := 601) (pc' := 13) C Bh_2 (cw_k Bh_2.2.2 k0) fl_X11_16 rfl rfl rfl eb_1 dX11_agree_10 rfl ?_
    refine lv_iload_n hx hb dX11_agree_13 rfl (lv_at hl 3 rfl) (hp_n (n := 14) rfl ?_)
    refine q_cq (pc' := 17) Bh_2 (hp_runV (As := [.int a2]) (rest := []) C Bh_2 (t_X10_watcherAt Γ l α Bh_2.2.2.1 b_1 (cw_k Bh_2.2.2 kb_1) a2) lb_X10_watcherAt lv_X10_watcherAt lk_X11_220 (cw_k Bh_2.2.2 kb_1) rfl (by decide) rfl hl.1 rfl (Nat.le_of_ble_eq_true rfl) dX11_agree_14 ⟨Nat.le_refl _, Nat.le_refl _⟩) (fun _ _ h => by rw [h.1]; exact Bh_2.2.2) rfl (fun rh_8 αh_8 Hh_8 Lh_8 ph_8 Bh_8 => ?_)
    rw [ph_8.1] at Bh_8
    rcases rh_8 with _ | bh_8
    ·
      refine lv_astoreN (lv' := [(4, .null), (3, .ref bh_2), (0, .ref a0), (1, .int a1), (2, .int a2)]) hx hb dX11_agree_17 hl (by decide) rfl (fun ls hl => hp_n (n := 19) rfl ?_)
      refine lv_aload_n hx hb dX11_agree_19 rfl (lv_at hl 1 rfl) (hp_n (n := 20) rfl ?_)
      have J28 : ∀ (Hh_9 : Heap) (Lh_9 : List Loc) (Bh_9 : hp_B Γ (cw w_X11_agree) s α α Hh_9 Lh_9) (ls : Array Slot) (hl : lv_has ls 5 [(0, .ref a0)]), W p l e (hp_rm 5 0 0) s m ([.ref a0, .int a1, .int a2] : List Value).toArray below meth c Hh_9 Lh_9 0 0 (MQ below (hp_Qi Γ (fun r β => cw w_X11_agree α β)) ([.ref a0, .int a1, .int a2] : List Value).toArray s 0 0 (hp_A Γ)) (F0 m 28 ls []) := by
        intro Hh_9 Lh_9 Bh_9 ls hl
        refine lv_aload_n hx hb dX11_agree_28 rfl (lv_at hl 0 rfl) (hp_n (n := 29) rfl ?_)
        refine lv_iconst (v := 2) hx hb dX11_agree_29 (by decide) (hp_n (n := 30) rfl ?_)
        refine q_ci (pc' := 33) Bh_9 (hp_runV (As := [.int 2]) (rest := []) C Bh_9 (t_X11_refuse Γ l α Bh_9.2.2.1 a0 (cw_k Bh_9.2.2 k0) 2) lb_X11_refuse lv_X11_refuse lk_X11_98 (cw_k Bh_9.2.2 k0) rfl (by decide) rfl hl.1 rfl (Nat.le_of_ble_eq_true rfl) dX11_agree_30 ⟨Nat.le_refl _, Nat.le_refl _⟩) (fun _ _ h => cw_tr Bh_9.2.2 h (by decide)) rfl (fun rh_10 αh_10 Hh_10 Lh_10 ph_10 Bh_10 => ?_)
        exact q_iret C Bh_10 hr hlk Bh_10.2.2 dX11_agree_33
      refine lv_ifnull hx hb dX11_agree_20 (hp_n (n := 23) rfl ?_)
      refine lv_aloadN hx hb dX11_agree_23 (lv_at hl 0 rfl) (hp_n (n := 25) rfl ?_)
      refine lv_ifnonnullN hx hb dX11_agree_25 (hp_n (n := 28) rfl ?_)
      exact J28 Hh_8 Lh_8 Bh_8 ls (lv_sub hl [2] rfl)
    ·
      have kbh_8 : hp_K α bh_8 = 8 := cw_k' Bh_8.2.2 (ph_8.2 bh_8 rfl)
      refine lv_astore (lv' := [(4, .ref bh_8), (3, .ref bh_2), (0, .ref a0), (1, .int a1), (2, .int a2)]) hx hb dX11_agree_17 hl (by decide) rfl (fun ls hl => hp_n (n := 19) rfl ?_)
      refine lv_aload_n hx hb dX11_agree_19 rfl (lv_at hl 1 rfl) (hp_n (n := 20) rfl ?_)
      have J28 : ∀ (Hh_11 : Heap) (Lh_11 : List Loc) (Bh_11 : hp_B Γ (cw w_X11_agree) s α α Hh_11 Lh_11) (ls : Array Slot) (hl : lv_has ls 5 [(0, .ref a0)]), W p l e (hp_rm 5 0 0) s m ([.ref a0, .int a1, .int a2] : List Value).toArray below meth c Hh_11 Lh_11 0 0 (MQ below (hp_Qi Γ (fun r β => cw w_X11_agree α β)) ([.ref a0, .int a1, .int a2] : List Value).toArray s 0 0 (hp_A Γ)) (F0 m 28 ls []) := by
        intro Hh_11 Lh_11 Bh_11 ls hl
        refine lv_aload_n hx hb dX11_agree_28 rfl (lv_at hl 0 rfl) (hp_n (n := 29) rfl ?_)
        refine lv_iconst (v := 2) hx hb dX11_agree_29 (by decide) (hp_n (n := 30) rfl ?_)
        refine q_ci (pc' := 33) Bh_11 (hp_runV (As := [.int 2]) (rest := []) C Bh_11 (t_X11_refuse Γ l α Bh_11.2.2.1 a0 (cw_k Bh_11.2.2 k0) 2) lb_X11_refuse lv_X11_refuse lk_X11_98 (cw_k Bh_11.2.2 k0) rfl (by decide) rfl hl.1 rfl (Nat.le_of_ble_eq_true rfl) dX11_agree_30 ⟨Nat.le_refl _, Nat.le_refl _⟩) (fun _ _ h => cw_tr Bh_11.2.2 h (by decide)) rfl (fun rh_12 αh_12 Hh_12 Lh_12 ph_12 Bh_12 => ?_)
        exact q_iret C Bh_12 hr hlk Bh_12.2.2 dX11_agree_33
      refine lv_ifnull hx hb dX11_agree_20 (hp_n (n := 23) rfl ?_)
      refine lv_aload hx hb dX11_agree_23 (lv_at hl 0 rfl) (hp_n (n := 25) rfl ?_)
      refine lv_ifnonnull (tgt := 34) hx hb dX11_agree_25 (by decide) ?_
      refine lv_aload_n hx hb dX11_agree_34 rfl (lv_at hl 2 rfl) (hp_n (n := 35) rfl ?_)
      refine lv_aload_n hx hb dX11_agree_35 rfl (lv_at hl 2 rfl) (hp_n (n := 36) rfl ?_)
      refine q_gets (κ := 12) (k := 1) (φ := 601) (pc' := 39) C Bh_8 (cw_k Bh_8.2.2 k0) fl_X11_16 rfl rfl rfl eb_1 dX11_agree_36 rfl ?_
      refine lv_aload_n hx hb dX11_agree_39 rfl (lv_at hl 1 rfl) (hp_n (n := 40) rfl ?_)
      refine lv_aload hx hb dX11_agree_40 (lv_at hl 0 rfl) (hp_n (n := 42) rfl ?_)
      refine q_ci (pc' := 45) Bh_8 (hp_runV (As := [va_rf (some bh_2), va_rf (some bh_8)]) (rest := [.ref a0]) C Bh_8 (t_X10_doAgree Γ l α Bh_8.2.2.1 b_1 (cw_k Bh_8.2.2 kb_1) (some bh_2) (fun b h => by cases h; exact (cw_k Bh_8.2.2 kbh_2)) (some bh_8) (fun b h => by cases h; exact (cw_k Bh_8.2.2 kbh_8))) lb_X10_doAgree lv_X10_doAgree lk_X11_319 (cw_k Bh_8.2.2 kb_1) rfl (by decide) rfl hl.1 rfl (Nat.le_of_ble_eq_true rfl) dX11_agree_42 ⟨Nat.le_refl _, Nat.le_refl _⟩) (fun _ _ h => cw_tr Bh_8.2.2 h.1 (by decide)) rfl (fun rh_13 αh_13 Hh_13 Lh_13 ph_13 Bh_13 => ?_)
      have zh_13 := ph_13.2
      refine lv_if_eq (tgt := 52) hx hb dX11_agree_45 (by decide) (fun c_14 => ?_) (fun c_14 => hp_n (n := 48) rfl ?_)
      ·
        have jc_14 := il_eq c_14
        refine lv_iconst (v := 0) hx hb dX11_agree_52 (by decide) (hp_n (n := 53) rfl ?_)
        refine q_ci (pc' := 56) Bh_13 (hp_runV (As := [.int 0]) (rest := []) C Bh_13 (t_X11_answer Γ l αh_13 Bh_13.2.2.1 a0 (cw_k Bh_13.2.2 k0) 0) lb_X11_answer lv_X11_answer lk_X11_115 (cw_k Bh_13.2.2 k0) rfl (by decide) rfl hl.1 rfl (Nat.le_of_ble_eq_true rfl) dX11_agree_53 ⟨Nat.le_refl _, Nat.le_refl _⟩) (fun _ _ h => cw_tr Bh_13.2.2 h (by decide)) rfl (fun rh_15 αh_15 Hh_15 Lh_15 ph_15 Bh_15 => ?_)
        exact q_iret C Bh_15 hr hlk Bh_15.2.2 dX11_agree_56
      ·
        have jc_14 := il_ne c_14
        refine lv_iconst (v := 1) hx hb dX11_agree_48 (by decide) (hp_n (n := 49) rfl ?_)
        refine lv_goto (tgt := 53) hx hb dX11_agree_49 (by decide) ?_
        refine q_ci (pc' := 56) Bh_13 (hp_runV (As := [.int 1]) (rest := []) C Bh_13 (t_X11_answer Γ l αh_13 Bh_13.2.2.1 a0 (cw_k Bh_13.2.2 k0) 1) lb_X11_answer lv_X11_answer lk_X11_115 (cw_k Bh_13.2.2 k0) rfl (by decide) rfl hl.1 rfl (Nat.le_of_ble_eq_true rfl) dX11_agree_53 ⟨Nat.le_refl _, Nat.le_refl _⟩) (fun _ _ h => cw_tr Bh_13.2.2 h (by decide)) rfl (fun rh_16 αh_16 Hh_16 Lh_16 ph_16 Bh_16 => ?_)
        exact q_iret C Bh_16 hr hlk Bh_16.2.2 dX11_agree_56
abbrev w_X11_where : cw_W := ([600], [], [], [])
set_option maxRecDepth 100000 in
set_option maxHeartbeats 4000000 in
theorem t_X11_where (Γ : hp_G) (l : Launch) (α : hp_T) (g : GC α) (a0 : Nat) (k0 : hp_K α a0 = 12) (a1 : Int32) (a2 : Int32) : Met l yX11_where (hp_ws yX11_where cX11_where 5 (some .int)) (hp_rm 3 0 0) (hp_Pc Γ α [.ref a0, .int a1, .int a2]) (hp_Qi Γ (fun r β => cw w_X11_where α β)) 0 0 (hp_A Γ) := by
  refine hp_start (by decide) ?_
  intro p e s m below meth c C hr hlk B0 hnm
  have C : hp_C Γ p m c cX11_where 5 s ([.ref a0, .int a1, .int a2] : List Value).toArray RX11 := C
  have hx := C.1.1
  have hb := C.1.2.1
  have hown := C.1.2.2.2.1
  have hts := C.1.2.2.2.2
  have B : hp_B Γ (cw w_X11_where) s α α s.heap [] := ⟨B0.1, B0.2.1, cw_rf g⟩
  have lit0 : (0 : Int32).toInt = 0 := by decide
  have lit1 : (1 : Int32).toInt = 1 := by decide
  have lit2 : (2 : Int32).toInt = 2 := by decide
  have lit5 : (5 : Int32).toInt = 5 := by decide
  have hl := lv_entry ([.ref a0, .int a1, .int a2]) (n := 5) (Nat.le_of_ble_eq_true rfl)
  show W p l e (hp_rm 3 0 0) s m ([.ref a0, .int a1, .int a2] : List Value).toArray below meth c s.heap [] 0 0 (MQ below (hp_Qi Γ (fun r β => cw w_X11_where α β)) ([.ref a0, .int a1, .int a2] : List Value).toArray s 0 0 (hp_A Γ)) (entryFrame m ([.ref a0, .int a1, .int a2] : List Value).toArray 5)
  rw [lg_entry_eq]
  generalize (lg_sl ([.ref a0, .int a1, .int a2]) ++ List.replicate (5 - (lg_sl ([.ref a0, .int a1, .int a2])).length) Slot.unset).toArray = ls at hl ⊢
  have hl : lv_has ls 5 [(0, .ref a0), (1, .int a1), (2, .int a2)] := hl
  refine lv_iload_n hx hb dX11_where_0 rfl (lv_at hl 2 rfl) (hp_n (n := 1) rfl ?_)
  have J9 : ∀ (Hh_1 : Heap) (Lh_1 : List Loc) (Bh_1 : hp_B Γ (cw w_X11_where) s α α Hh_1 Lh_1) (ls : Array Slot) (hl : lv_has ls 5 [(0, .ref a0)]), W p l e (hp_rm 3 0 0) s m ([.ref a0, .int a1, .int a2] : List Value).toArray below meth c Hh_1 Lh_1 0 0 (MQ below (hp_Qi Γ (fun r β => cw w_X11_where α β)) ([.ref a0, .int a1, .int a2] : List Value).toArray s 0 0 (hp_A Γ)) (F0 m 9 ls []) := by
    intro Hh_1 Lh_1 Bh_1 ls hl
    refine lv_aload_n hx hb dX11_where_9 rfl (lv_at hl 0 rfl) (hp_n (n := 10) rfl ?_)
    refine lv_iconst (v := 1) hx hb dX11_where_10 (by decide) (hp_n (n := 11) rfl ?_)
    refine q_ci (pc' := 14) Bh_1 (hp_runV (As := [.int 1]) (rest := []) C Bh_1 (t_X11_refuse Γ l α Bh_1.2.2.1 a0 (cw_k Bh_1.2.2 k0) 1) lb_X11_refuse lv_X11_refuse lk_X11_98 (cw_k Bh_1.2.2 k0) rfl (by decide) rfl hl.1 rfl (Nat.le_of_ble_eq_true rfl) dX11_where_11 ⟨Nat.le_refl _, Nat.le_refl _⟩) (fun _ _ h => cw_tr Bh_1.2.2 h (by decide)) rfl (fun rh_2 αh_2 Hh_2 Lh_2 ph_2 Bh_2 => ?_)
    exact q_iret C Bh_2 hr hlk Bh_2.2.2 dX11_where_14
  refine lv_if_lt (tgt := 9) hx hb dX11_where_1 (by decide) (fun c_3 => ?_) (fun c_3 => hp_n (n := 4) rfl ?_)
  ·
    have jc_3 := il_lt c_3
    exact J9 s.heap [] B ls (lv_sub hl [0] rfl)
  ·
    have jc_3 := il_nlt c_3
    refine lv_iload_n hx hb dX11_where_4 rfl (lv_at hl 2 rfl) (hp_n (n := 5) rfl ?_)
    refine lv_iconst (v := 1) hx hb dX11_where_5 (by decide) (hp_n (n := 6) rfl ?_)
    refine lv_icmp_le (tgt := 15) hx hb dX11_where_6 (by decide) (fun c_4 => ?_) (fun c_4 => hp_n (n := 9) rfl ?_)
    ·
      have jc_4 := il_le c_4
      refine lv_aload_n hx hb dX11_where_15 rfl (lv_at hl 0 rfl) (hp_n (n := 16) rfl ?_)
      refine q_getr (κ := 12) (k := 1) (φ := 601) (pc' := 19) C B (cw_k B.2.2 k0) fl_X11_16 rfl rfl rfl (cw_r B.2.2 k0 rfl rfl (by decide) (by decide)) dX11_where_16 rfl (fun b_5 eb_5 kb_5 => ?_)
      refine lv_iload_n hx hb dX11_where_19 rfl (lv_at hl 1 rfl) (hp_n (n := 20) rfl ?_)
      refine q_cq (pc' := 23) B (hp_runV (As := [.int a1]) (rest := []) C B (t_X10_logAt Γ l α B.2.2.1 b_5 (cw_k B.2.2 kb_5) a1) lb_X10_logAt lv_X10_logAt lk_X11_163 (cw_k B.2.2 kb_5) rfl (by decide) rfl hl.1 rfl (Nat.le_of_ble_eq_true rfl) dX11_where_20 ⟨Nat.le_refl _, Nat.le_refl _⟩) (fun _ _ h => by rw [h.1]; exact B.2.2) rfl (fun rh_6 αh_6 Hh_6 Lh_6 ph_6 Bh_6 => ?_)
      rw [ph_6.1] at Bh_6
      rcases rh_6 with _ | bh_6
      ·
        refine lv_astore_nN (lv' := [(3, .null), (0, .ref a0), (1, .int a1), (2, .int a2)]) hx hb dX11_where_23 rfl hl (by decide) rfl (fun ls hl => hp_n (n := 24) rfl ?_)
        refine lv_aload_nN hx hb dX11_where_24 rfl (lv_at hl 0 rfl) (hp_n (n := 25) rfl ?_)
        refine lv_ifnonnullN hx hb dX11_where_25 (hp_n (n := 28) rfl ?_)
        refine lv_aload_n hx hb dX11_where_28 rfl (lv_at hl 1 rfl) (hp_n (n := 29) rfl ?_)
        refine lv_iconst (v := 2) hx hb dX11_where_29 (by decide) (hp_n (n := 30) rfl ?_)
        refine q_ci (pc' := 33) Bh_6 (hp_runV (As := [.int 2]) (rest := []) C Bh_6 (t_X11_refuse Γ l α Bh_6.2.2.1 a0 (cw_k Bh_6.2.2 k0) 2) lb_X11_refuse lv_X11_refuse lk_X11_98 (cw_k Bh_6.2.2 k0) rfl (by decide) rfl hl.1 rfl (Nat.le_of_ble_eq_true rfl) dX11_where_30 ⟨Nat.le_refl _, Nat.le_refl _⟩) (fun _ _ h => cw_tr Bh_6.2.2 h (by decide)) rfl (fun rh_7 αh_7 Hh_7 Lh_7 ph_7 Bh_7 => ?_)
        exact q_iret C Bh_7 hr hlk Bh_7.2.2 dX11_where_33
      ·
        have kbh_6 : hp_K α bh_6 = 3 := cw_k' Bh_6.2.2 (ph_6.2 bh_6 rfl)
        refine lv_astore_n (lv' := [(3, .ref bh_6), (0, .ref a0), (1, .int a1), (2, .int a2)]) hx hb dX11_where_23 rfl hl (by decide) rfl (fun ls hl => hp_n (n := 24) rfl ?_)
        refine lv_aload_n hx hb dX11_where_24 rfl (lv_at hl 0 rfl) (hp_n (n := 25) rfl ?_)
        refine lv_ifnonnull (tgt := 34) hx hb dX11_where_25 (by decide) ?_
        refine lv_iload_n hx hb dX11_where_34 rfl (lv_at hl 3 rfl) (hp_n (n := 35) rfl ?_)
        refine lv_iconst (v := 1) hx hb dX11_where_35 (by decide) (hp_n (n := 36) rfl ?_)
        refine lv_icmp_ne (tgt := 52) hx hb dX11_where_36 (by decide) (fun c_8 => ?_) (fun c_8 => hp_n (n := 39) rfl ?_)
        ·
          have jc_8 := il_ne c_8
          refine lv_aload_n hx hb dX11_where_52 rfl (lv_at hl 0 rfl) (hp_n (n := 53) rfl ?_)
          refine lv_aload_n hx hb dX11_where_53 rfl (lv_at hl 1 rfl) (hp_n (n := 54) rfl ?_)
          refine q_getr (κ := 12) (k := 6) (φ := 606) (pc' := 57) C Bh_6 (cw_k Bh_6.2.2 k0) fl_X11_40 rfl rfl rfl (cw_r Bh_6.2.2 k0 rfl rfl (by decide) (by decide)) dX11_where_54 rfl (fun b_9 eb_9 kb_9 => ?_)
          refine q_ci (pc' := 60) Bh_6 (hp_runV (As := [.ref b_9]) (rest := []) C Bh_6 (t_X2_firstLike Γ l α Bh_6.2.2.1 bh_6 (cw_k Bh_6.2.2 kbh_6) b_9 (cw_k Bh_6.2.2 kb_9)) lb_X2_firstLike lv_X2_firstLike lk_X11_327 (cw_k Bh_6.2.2 kbh_6) rfl (by decide) rfl hl.1 rfl (Nat.le_of_ble_eq_true rfl) dX11_where_57 ⟨Nat.le_refl _, Nat.le_refl _⟩) (fun _ _ h => by rw [h]; exact Bh_6.2.2) rfl (fun rh_10 αh_10 Hh_10 Lh_10 ph_10 Bh_10 => ?_)
          rw [ph_10] at Bh_10
          refine lv_istore (lv' := [(4, .int rh_10), (3, .ref bh_6), (0, .ref a0), (1, .int a1), (2, .int a2)]) hx hb dX11_where_60 hl (by decide) rfl (fun ls hl => hp_n (n := 62) rfl ?_)
          refine lv_iload hx hb dX11_where_62 (lv_at hl 0 rfl) (hp_n (n := 64) rfl ?_)
          refine lv_if_ge (tgt := 75) hx hb dX11_where_64 (by decide) (fun c_11 => ?_) (fun c_11 => hp_n (n := 67) rfl ?_)
          ·
            have jc_11 := il_le c_11
            refine lv_aload_n hx hb dX11_where_75 rfl (lv_at hl 2 rfl) (hp_n (n := 76) rfl ?_)
            refine lv_iload hx hb dX11_where_76 (lv_at hl 0 rfl) (hp_n (n := 78) rfl ?_)
            refine q_ci (pc' := 81) Bh_10 (hp_runV (As := [.int rh_10]) (rest := []) C Bh_10 (t_X11_answer Γ l α Bh_10.2.2.1 a0 (cw_k Bh_10.2.2 k0) rh_10) lb_X11_answer lv_X11_answer lk_X11_115 (cw_k Bh_10.2.2 k0) rfl (by decide) rfl hl.1 rfl (Nat.le_of_ble_eq_true rfl) dX11_where_78 ⟨Nat.le_refl _, Nat.le_refl _⟩) (fun _ _ h => cw_tr Bh_10.2.2 h (by decide)) rfl (fun rh_12 αh_12 Hh_12 Lh_12 ph_12 Bh_12 => ?_)
            exact q_iret C Bh_12 hr hlk Bh_12.2.2 dX11_where_81
          ·
            have jc_11 := il_nle c_11
            refine lv_aload_n hx hb dX11_where_67 rfl (lv_at hl 2 rfl) (hp_n (n := 68) rfl ?_)
            refine lv_iconst (v := 5) hx hb dX11_where_68 (by decide) (hp_n (n := 69) rfl ?_)
            refine q_ci (pc' := 72) Bh_10 (hp_runV (As := [.int 5]) (rest := []) C Bh_10 (t_X11_refuse Γ l α Bh_10.2.2.1 a0 (cw_k Bh_10.2.2 k0) 5) lb_X11_refuse lv_X11_refuse lk_X11_98 (cw_k Bh_10.2.2 k0) rfl (by decide) rfl hl.1 rfl (Nat.le_of_ble_eq_true rfl) dX11_where_69 ⟨Nat.le_refl _, Nat.le_refl _⟩) (fun _ _ h => cw_tr Bh_10.2.2 h (by decide)) rfl (fun rh_13 αh_13 Hh_13 Lh_13 ph_13 Bh_13 => ?_)
            refine lv_goto (tgt := 81) hx hb dX11_where_72 (by decide) ?_
            exact q_iret C Bh_13 hr hlk Bh_13.2.2 dX11_where_81
        ·
          have jc_8 := il_eq c_8
          refine lv_aload_n hx hb dX11_where_39 rfl (lv_at hl 1 rfl) (hp_n (n := 40) rfl ?_)
          refine lv_aload_n hx hb dX11_where_40 rfl (lv_at hl 0 rfl) (hp_n (n := 41) rfl ?_)
          refine lv_aload_n hx hb dX11_where_41 rfl (lv_at hl 1 rfl) (hp_n (n := 42) rfl ?_)
          refine q_getr (κ := 12) (k := 6) (φ := 606) (pc' := 45) C Bh_6 (cw_k Bh_6.2.2 k0) fl_X11_40 rfl rfl rfl (cw_r Bh_6.2.2 k0 rfl rfl (by decide) (by decide)) dX11_where_42 rfl (fun b_14 eb_14 kb_14 => ?_)
          refine q_ci (pc' := 48) Bh_6 (hp_runV (As := [.ref b_14]) (rest := [.ref a0]) C Bh_6 (t_X2_countLike Γ l α Bh_6.2.2.1 bh_6 (cw_k Bh_6.2.2 kbh_6) b_14 (cw_k Bh_6.2.2 kb_14)) lb_X2_countLike lv_X2_countLike lk_X11_323 (cw_k Bh_6.2.2 kbh_6) rfl (by decide) rfl hl.1 rfl (Nat.le_of_ble_eq_true rfl) dX11_where_45 ⟨Nat.le_refl _, Nat.le_refl _⟩) (fun _ _ h => by rw [h]; exact Bh_6.2.2) rfl (fun rh_15 αh_15 Hh_15 Lh_15 ph_15 Bh_15 => ?_)
          rw [ph_15] at Bh_15
          refine q_ci (pc' := 51) Bh_15 (hp_runV (As := [.int rh_15]) (rest := []) C Bh_15 (t_X11_answer Γ l α Bh_15.2.2.1 a0 (cw_k Bh_15.2.2 k0) rh_15) lb_X11_answer lv_X11_answer lk_X11_115 (cw_k Bh_15.2.2 k0) rfl (by decide) rfl hl.1 rfl (Nat.le_of_ble_eq_true rfl) dX11_where_48 ⟨Nat.le_refl _, Nat.le_refl _⟩) (fun _ _ h => cw_tr Bh_15.2.2 h (by decide)) rfl (fun rh_16 αh_16 Hh_16 Lh_16 ph_16 Bh_16 => ?_)
          exact q_iret C Bh_16 hr hlk Bh_16.2.2 dX11_where_51
    ·
      have jc_4 := il_nle c_4
      exact J9 s.heap [] B ls (lv_sub hl [0] rfl)
abbrev w_X11_tree : cw_W := ([453, 454, 600], [], [21, 22, 23, 33], [])
set_option maxRecDepth 100000 in
set_option maxHeartbeats 4000000 in
theorem t_X11_tree (Γ : hp_G) (l : Launch) (α : hp_T) (g : GC α) (a0 : Nat) (k0 : hp_K α a0 = 12) (a1 : Int32) (a2 : Int32) (a3 : Int32) (a4 : Int32) : Met l yX11_tree (hp_ws yX11_tree cX11_tree 7 (some .int)) (hp_rm 4 0 0) (hp_Pc Γ α [.ref a0, .int a1, .int a2, .int a3, .int a4]) (hp_Qi Γ (fun r β => cw w_X11_tree α β)) 0 0 (hp_A Γ) := by
  refine hp_start (by decide) ?_
  intro p e s m below meth c C hr hlk B0 hnm
  have C : hp_C Γ p m c cX11_tree 7 s ([.ref a0, .int a1, .int a2, .int a3, .int a4] : List Value).toArray RX11 := C
  have hx := C.1.1
  have hb := C.1.2.1
  have hown := C.1.2.2.2.1
  have hts := C.1.2.2.2.2
  have B : hp_B Γ (cw w_X11_tree) s α α s.heap [] := ⟨B0.1, B0.2.1, cw_rf g⟩
  have lit0 : (0 : Int32).toInt = 0 := by decide
  have lit1 : (1 : Int32).toInt = 1 := by decide
  have lit2 : (2 : Int32).toInt = 2 := by decide
  have lit5 : (5 : Int32).toInt = 5 := by decide
  have hl := lv_entry ([.ref a0, .int a1, .int a2, .int a3, .int a4]) (n := 7) (Nat.le_of_ble_eq_true rfl)
  show W p l e (hp_rm 4 0 0) s m ([.ref a0, .int a1, .int a2, .int a3, .int a4] : List Value).toArray below meth c s.heap [] 0 0 (MQ below (hp_Qi Γ (fun r β => cw w_X11_tree α β)) ([.ref a0, .int a1, .int a2, .int a3, .int a4] : List Value).toArray s 0 0 (hp_A Γ)) (entryFrame m ([.ref a0, .int a1, .int a2, .int a3, .int a4] : List Value).toArray 7)
  rw [lg_entry_eq]
  generalize (lg_sl ([.ref a0, .int a1, .int a2, .int a3, .int a4]) ++ List.replicate (7 - (lg_sl ([.ref a0, .int a1, .int a2, .int a3, .int a4])).length) Slot.unset).toArray = ls at hl ⊢
  have hl : lv_has ls 7 [(0, .ref a0), (1, .int a1), (2, .int a2), (3, .int a3), (4, .int a4)] := hl
  refine lv_iload_n hx hb dX11_tree_0 rfl (lv_at hl 3 rfl) (hp_n (n := 1) rfl ?_)
  have J15 : ∀ (Hh_1 : Heap) (Lh_1 : List Loc) (Bh_1 : hp_B Γ (cw w_X11_tree) s α α Hh_1 Lh_1) (ls : Array Slot) (hl : lv_has ls 7 [(0, .ref a0)]), W p l e (hp_rm 4 0 0) s m ([.ref a0, .int a1, .int a2, .int a3, .int a4] : List Value).toArray below meth c Hh_1 Lh_1 0 0 (MQ below (hp_Qi Γ (fun r β => cw w_X11_tree α β)) ([.ref a0, .int a1, .int a2, .int a3, .int a4] : List Value).toArray s 0 0 (hp_A Γ)) (F0 m 15 ls []) := by
    intro Hh_1 Lh_1 Bh_1 ls hl
    refine lv_aload_n hx hb dX11_tree_15 rfl (lv_at hl 0 rfl) (hp_n (n := 16) rfl ?_)
    refine lv_iconst (v := 1) hx hb dX11_tree_16 (by decide) (hp_n (n := 17) rfl ?_)
    refine q_ci (pc' := 20) Bh_1 (hp_runV (As := [.int 1]) (rest := []) C Bh_1 (t_X11_refuse Γ l α Bh_1.2.2.1 a0 (cw_k Bh_1.2.2 k0) 1) lb_X11_refuse lv_X11_refuse lk_X11_98 (cw_k Bh_1.2.2 k0) rfl (by decide) rfl hl.1 rfl (Nat.le_of_ble_eq_true rfl) dX11_tree_17 ⟨Nat.le_refl _, Nat.le_refl _⟩) (fun _ _ h => cw_tr Bh_1.2.2 h (by decide)) rfl (fun rh_2 αh_2 Hh_2 Lh_2 ph_2 Bh_2 => ?_)
    exact q_iret C Bh_2 hr hlk Bh_2.2.2 dX11_tree_20
  refine lv_if_lt (tgt := 15) hx hb dX11_tree_1 (by decide) (fun c_3 => ?_) (fun c_3 => hp_n (n := 4) rfl ?_)
  ·
    have jc_3 := il_lt c_3
    exact J15 s.heap [] B ls (lv_sub hl [0] rfl)
  ·
    have jc_3 := il_nlt c_3
    refine lv_iload hx hb dX11_tree_4 (lv_at hl 4 rfl) (hp_n (n := 6) rfl ?_)
    refine lv_if_lt (tgt := 15) hx hb dX11_tree_6 (by decide) (fun c_4 => ?_) (fun c_4 => hp_n (n := 9) rfl ?_)
    ·
      have jc_4 := il_lt c_4
      exact J15 s.heap [] B ls (lv_sub hl [0] rfl)
    ·
      have jc_4 := il_nlt c_4
      refine lv_iload hx hb dX11_tree_9 (lv_at hl 4 rfl) (hp_n (n := 11) rfl ?_)
      refine lv_iconst (v := 2) hx hb dX11_tree_11 (by decide) (hp_n (n := 12) rfl ?_)
      refine lv_icmp_le (tgt := 21) hx hb dX11_tree_12 (by decide) (fun c_5 => ?_) (fun c_5 => hp_n (n := 15) rfl ?_)
      ·
        have jc_5 := il_le c_5
        refine lv_aload_n hx hb dX11_tree_21 rfl (lv_at hl 0 rfl) (hp_n (n := 22) rfl ?_)
        refine q_getr (κ := 12) (k := 1) (φ := 601) (pc' := 25) C B (cw_k B.2.2 k0) fl_X11_16 rfl rfl rfl (cw_r B.2.2 k0 rfl rfl (by decide) (by decide)) dX11_tree_22 rfl (fun b_6 eb_6 kb_6 => ?_)
        refine lv_iload_n hx hb dX11_tree_25 rfl (lv_at hl 1 rfl) (hp_n (n := 26) rfl ?_)
        refine q_cq (pc' := 29) B (hp_runV (As := [.int a1]) (rest := []) C B (t_X10_logAt Γ l α B.2.2.1 b_6 (cw_k B.2.2 kb_6) a1) lb_X10_logAt lv_X10_logAt lk_X11_163 (cw_k B.2.2 kb_6) rfl (by decide) rfl hl.1 rfl (Nat.le_of_ble_eq_true rfl) dX11_tree_26 ⟨Nat.le_refl _, Nat.le_refl _⟩) (fun _ _ h => by rw [h.1]; exact B.2.2) rfl (fun rh_7 αh_7 Hh_7 Lh_7 ph_7 Bh_7 => ?_)
        rw [ph_7.1] at Bh_7
        rcases rh_7 with _ | bh_7
        ·
          refine lv_astoreN (lv' := [(5, .null), (0, .ref a0), (1, .int a1), (2, .int a2), (3, .int a3), (4, .int a4)]) hx hb dX11_tree_29 hl (by decide) rfl (fun ls hl => hp_n (n := 31) rfl ?_)
          refine lv_aloadN hx hb dX11_tree_31 (lv_at hl 0 rfl) (hp_n (n := 33) rfl ?_)
          refine lv_iconst (v := 0) hx hb dX11_tree_33 (by decide) (hp_n (n := 34) rfl ?_)
          refine lv_iload_n hx hb dX11_tree_34 rfl (lv_at hl 3 rfl) (hp_n (n := 35) rfl ?_)
          refine q_ci (pc' := 38) Bh_7 (hp_runS (As := [va_rf none, .int 0, .int a2]) (rest := []) C Bh_7 (t_X11_wrongGrowth Γ l α Bh_7.2.2.1 none (fun b h => by cases h) 0 a2) lb_X11_wrongGrowth ls_X11_wrongGrowth lk_X11_180 rfl (by decide) rfl hl.1 rfl (Nat.le_of_ble_eq_true rfl) dX11_tree_35 ⟨Nat.le_refl _, Nat.le_refl _⟩) (fun _ _ h => by rw [h]; exact Bh_7.2.2) rfl (fun rh_8 αh_8 Hh_8 Lh_8 ph_8 Bh_8 => ?_)
          rw [ph_8] at Bh_8
          refine lv_istore (lv' := [(6, .int rh_8), (5, .null), (0, .ref a0), (1, .int a1), (2, .int a2), (3, .int a3), (4, .int a4)]) hx hb dX11_tree_38 hl (by decide) rfl (fun ls hl => hp_n (n := 40) rfl ?_)
          refine lv_iload hx hb dX11_tree_40 (lv_at hl 0 rfl) (hp_n (n := 42) rfl ?_)
          refine lv_if_eq (tgt := 52) hx hb dX11_tree_42 (by decide) (fun c_9 => ?_) (fun c_9 => hp_n (n := 45) rfl ?_)
          ·
            have jc_9 := il_eq c_9
            refine lv_iload_n hx hb dX11_tree_52 rfl (lv_at hl 5 rfl) (hp_n (n := 53) rfl ?_)
            refine lv_iconst (v := 2) hx hb dX11_tree_53 (by decide) (hp_n (n := 54) rfl ?_)
            refine lv_iload_n hx hb dX11_tree_54 rfl (lv_at hl 4 rfl) (hp_n (n := 55) rfl ?_)
            refine lv_imul hx hb dX11_tree_55 (hp_n (n := 56) rfl (lv_topi (fun x_10 ex_10 => ?_)))
            refine lv_iconst (v := 2) hx hb dX11_tree_56 (by decide) (hp_n (n := 57) rfl ?_)
            refine lv_isub hx hb dX11_tree_57 (hp_n (n := 58) rfl (lv_topi (fun x_11 ex_11 => ?_)))
            refine lv_icmp_le (tgt := 67) hx hb dX11_tree_58 (by decide) (fun c_12 => ?_) (fun c_12 => hp_n (n := 61) rfl ?_)
            ·
              have jc_12 := il_le c_12
              refine lv_aload_n hx hb dX11_tree_67 rfl (lv_at hl 2 rfl) (hp_n (n := 68) rfl ?_)
              refine q_getr (κ := 12) (k := 12) (φ := 612) (pc' := 71) C Bh_8 (cw_k Bh_8.2.2 k0) fl_X11_62 rfl rfl rfl (cw_r Bh_8.2.2 k0 rfl rfl (by decide) (by decide)) dX11_tree_68 rfl (fun b_13 eb_13 kb_13 => ?_)
              refine lv_iload_n hx hb dX11_tree_71 rfl (lv_at hl 5 rfl) (hp_n (n := 72) rfl ?_)
              refine lv_iload_n hx hb dX11_tree_72 rfl (lv_at hl 4 rfl) (hp_n (n := 73) rfl ?_)
              refine q_cv (pc' := 76) Bh_8 (hp_runV (As := [.int a3, .int a2]) (rest := []) C Bh_8 (t_X8_toTree Γ l α Bh_8.2.2.1 b_13 (cw_k Bh_8.2.2 kb_13) a3 a2) lb_X8_toTree lv_X8_toTree lk_X11_330 (cw_k Bh_8.2.2 kb_13) rfl (by decide) rfl hl.1 rfl (Nat.le_of_ble_eq_true rfl) dX11_tree_73 ⟨Nat.le_refl _, Nat.le_refl _⟩) (fun _ h => cw_tr Bh_8.2.2 h (by decide)) rfl (fun αh_14 Hh_14 Lh_14 ph_14 Bh_14 => ?_)
              refine lv_iload hx hb dX11_tree_76 (lv_at hl 6 rfl) (hp_n (n := 78) rfl ?_)
              refine lv_if_ne (tgt := 94) hx hb dX11_tree_78 (by decide) (fun c_15 => ?_) (fun c_15 => hp_n (n := 81) rfl ?_)
              ·
                have jc_15 := il_ne c_15
                refine lv_aload_n hx hb dX11_tree_94 rfl (lv_at hl 2 rfl) (hp_n (n := 95) rfl ?_)
                refine lv_iload hx hb dX11_tree_95 (lv_at hl 6 rfl) (hp_n (n := 97) rfl ?_)
                refine lv_iconst (v := 1) hx hb dX11_tree_97 (by decide) (hp_n (n := 98) rfl ?_)
                refine lv_icmp_ne (tgt := 112) hx hb dX11_tree_98 (by decide) (fun c_16 => ?_) (fun c_16 => hp_n (n := 101) rfl ?_)
                ·
                  have jc_16 := il_ne c_16
                  refine lv_aload_n hx hb dX11_tree_112 rfl (lv_at hl 2 rfl) (hp_n (n := 113) rfl ?_)
                  have t_17 : b_6 = hp_R αh_14 601 a0 := by rw [cw_R ph_14 a0 (by decide)]; exact eb_6
                  refine q_gets (κ := 12) (k := 1) (φ := 601) (pc' := 116) C Bh_14 (cw_k Bh_14.2.2 k0) fl_X11_16 rfl rfl rfl t_17 dX11_tree_113 rfl ?_
                  refine lv_aloadN hx hb dX11_tree_116 (lv_at hl 1 rfl) (hp_n (n := 118) rfl ?_)
                  refine lv_aload_n hx hb dX11_tree_118 rfl (lv_at hl 2 rfl) (hp_n (n := 119) rfl ?_)
                  have t_18 : b_13 = hp_R αh_14 612 a0 := by rw [cw_R ph_14 a0 (by decide)]; exact eb_13
                  refine q_gets (κ := 12) (k := 12) (φ := 612) (pc' := 122) C Bh_14 (cw_k Bh_14.2.2 k0) fl_X11_62 rfl rfl rfl t_18 dX11_tree_119 rfl ?_
                  refine lv_iconst (v := 0) hx hb dX11_tree_122 (by decide) (hp_n (n := 123) rfl ?_)
                  refine q_ci (pc' := 126) Bh_14 (hp_runV (As := [.int 0]) (rest := [.null, .ref b_6, .ref a0]) C Bh_14 (t_X8_firstAt Γ l αh_14 Bh_14.2.2.1 b_13 (cw_k Bh_14.2.2 kb_13) 0) lb_X8_firstAt lv_X8_firstAt lk_X11_333 (cw_k Bh_14.2.2 kb_13) rfl (by decide) rfl hl.1 rfl (Nat.le_of_ble_eq_true rfl) dX11_tree_123 ⟨Nat.le_refl _, Nat.le_refl _⟩) (fun _ _ h => by rw [h]; exact Bh_14.2.2) rfl (fun rh_19 αh_19 Hh_19 Lh_19 ph_19 Bh_19 => ?_)
                  rw [ph_19] at Bh_19
                  refine lv_aload_n hx hb dX11_tree_126 rfl (lv_at hl 2 rfl) (hp_n (n := 127) rfl ?_)
                  refine q_gets (κ := 12) (k := 12) (φ := 612) (pc' := 130) C Bh_19 (cw_k Bh_19.2.2 k0) fl_X11_62 rfl rfl rfl t_18 dX11_tree_127 rfl ?_
                  refine lv_iconst (v := 0) hx hb dX11_tree_130 (by decide) (hp_n (n := 131) rfl ?_)
                  refine q_ci (pc' := 134) Bh_19 (hp_runV (As := [.int 0]) (rest := [.int rh_19, .null, .ref b_6, .ref a0]) C Bh_19 (t_X8_manyAt Γ l αh_14 Bh_19.2.2.1 b_13 (cw_k Bh_19.2.2 kb_13) 0) lb_X8_manyAt lv_X8_manyAt lk_X11_336 (cw_k Bh_19.2.2 kb_13) rfl (by decide) rfl hl.1 rfl (Nat.le_of_ble_eq_true rfl) dX11_tree_131 ⟨Nat.le_refl _, Nat.le_refl _⟩) (fun _ _ h => by rw [h]; exact Bh_19.2.2) rfl (fun rh_20 αh_20 Hh_20 Lh_20 ph_20 Bh_20 => ?_)
                  rw [ph_20] at Bh_20
                  refine q_ci (pc' := 137) Bh_20 (hp_runV (As := [va_rf none, .int rh_19, .int rh_20]) (rest := [.ref a0]) C Bh_20 (t_X10_treeMark Γ l αh_14 Bh_20.2.2.1 b_6 (cw_k Bh_20.2.2 kb_6) none (fun b h => by cases h) rh_19 rh_20) lb_X10_treeMark lv_X10_treeMark lk_X11_339 (cw_k Bh_20.2.2 kb_6) rfl (by decide) rfl hl.1 rfl (Nat.le_of_ble_eq_true rfl) dX11_tree_134 ⟨Nat.le_refl _, Nat.le_refl _⟩) (fun _ _ h => cw_tr Bh_20.2.2 h (by decide)) rfl (fun rh_21 αh_21 Hh_21 Lh_21 ph_21 Bh_21 => ?_)
                  refine q_ci (pc' := 140) Bh_21 (hp_runV (As := [.int rh_21]) (rest := []) C Bh_21 (t_X11_answer Γ l αh_21 Bh_21.2.2.1 a0 (cw_k Bh_21.2.2 k0) rh_21) lb_X11_answer lv_X11_answer lk_X11_115 (cw_k Bh_21.2.2 k0) rfl (by decide) rfl hl.1 rfl (Nat.le_of_ble_eq_true rfl) dX11_tree_137 ⟨Nat.le_refl _, Nat.le_refl _⟩) (fun _ _ h => cw_tr Bh_21.2.2 h (by decide)) rfl (fun rh_22 αh_22 Hh_22 Lh_22 ph_22 Bh_22 => ?_)
                  exact q_iret C Bh_22 hr hlk Bh_22.2.2 dX11_tree_140
                ·
                  have jc_16 := il_eq c_16
                  refine lv_aload_n hx hb dX11_tree_101 rfl (lv_at hl 2 rfl) (hp_n (n := 102) rfl ?_)
                  have t_23 : b_13 = hp_R αh_14 612 a0 := by rw [cw_R ph_14 a0 (by decide)]; exact eb_13
                  refine q_gets (κ := 12) (k := 12) (φ := 612) (pc' := 105) C Bh_14 (cw_k Bh_14.2.2 k0) fl_X11_62 rfl rfl rfl t_23 dX11_tree_102 rfl ?_
                  refine lv_iconst (v := 0) hx hb dX11_tree_105 (by decide) (hp_n (n := 106) rfl ?_)
                  refine q_ci (pc' := 109) Bh_14 (hp_runV (As := [.int 0]) (rest := [.ref a0]) C Bh_14 (t_X8_manyAt Γ l αh_14 Bh_14.2.2.1 b_13 (cw_k Bh_14.2.2 kb_13) 0) lb_X8_manyAt lv_X8_manyAt lk_X11_336 (cw_k Bh_14.2.2 kb_13) rfl (by decide) rfl hl.1 rfl (Nat.le_of_ble_eq_true rfl) dX11_tree_106 ⟨Nat.le_refl _, Nat.le_refl _⟩) (fun _ _ h => by rw [h]; exact Bh_14.2.2) rfl (fun rh_24 αh_24 Hh_24 Lh_24 ph_24 Bh_24 => ?_)
                  rw [ph_24] at Bh_24
                  refine lv_goto (tgt := 137) hx hb dX11_tree_109 (by decide) ?_
                  refine q_ci (pc' := 140) Bh_24 (hp_runV (As := [.int rh_24]) (rest := []) C Bh_24 (t_X11_answer Γ l αh_14 Bh_24.2.2.1 a0 (cw_k Bh_24.2.2 k0) rh_24) lb_X11_answer lv_X11_answer lk_X11_115 (cw_k Bh_24.2.2 k0) rfl (by decide) rfl hl.1 rfl (Nat.le_of_ble_eq_true rfl) dX11_tree_137 ⟨Nat.le_refl _, Nat.le_refl _⟩) (fun _ _ h => cw_tr Bh_24.2.2 h (by decide)) rfl (fun rh_25 αh_25 Hh_25 Lh_25 ph_25 Bh_25 => ?_)
                  exact q_iret C Bh_25 hr hlk Bh_25.2.2 dX11_tree_140
              ·
                have jc_15 := il_eq c_15
                refine lv_aload_n hx hb dX11_tree_81 rfl (lv_at hl 2 rfl) (hp_n (n := 82) rfl ?_)
                refine lv_aload_n hx hb dX11_tree_82 rfl (lv_at hl 2 rfl) (hp_n (n := 83) rfl ?_)
                have t_26 : b_13 = hp_R αh_14 612 a0 := by rw [cw_R ph_14 a0 (by decide)]; exact eb_13
                refine q_gets (κ := 12) (k := 12) (φ := 612) (pc' := 86) C Bh_14 (cw_k Bh_14.2.2 k0) fl_X11_62 rfl rfl rfl t_26 dX11_tree_83 rfl ?_
                refine lv_iconst (v := 0) hx hb dX11_tree_86 (by decide) (hp_n (n := 87) rfl ?_)
                refine q_ci (pc' := 90) Bh_14 (hp_runV (As := [.int 0]) (rest := [.ref a0]) C Bh_14 (t_X8_firstAt Γ l αh_14 Bh_14.2.2.1 b_13 (cw_k Bh_14.2.2 kb_13) 0) lb_X8_firstAt lv_X8_firstAt lk_X11_333 (cw_k Bh_14.2.2 kb_13) rfl (by decide) rfl hl.1 rfl (Nat.le_of_ble_eq_true rfl) dX11_tree_87 ⟨Nat.le_refl _, Nat.le_refl _⟩) (fun _ _ h => by rw [h]; exact Bh_14.2.2) rfl (fun rh_27 αh_27 Hh_27 Lh_27 ph_27 Bh_27 => ?_)
                rw [ph_27] at Bh_27
                refine q_ci (pc' := 93) Bh_27 (hp_runV (As := [.int rh_27]) (rest := []) C Bh_27 (t_X11_answer Γ l αh_14 Bh_27.2.2.1 a0 (cw_k Bh_27.2.2 k0) rh_27) lb_X11_answer lv_X11_answer lk_X11_115 (cw_k Bh_27.2.2 k0) rfl (by decide) rfl hl.1 rfl (Nat.le_of_ble_eq_true rfl) dX11_tree_90 ⟨Nat.le_refl _, Nat.le_refl _⟩) (fun _ _ h => cw_tr Bh_27.2.2 h (by decide)) rfl (fun rh_28 αh_28 Hh_28 Lh_28 ph_28 Bh_28 => ?_)
                exact q_iret C Bh_28 hr hlk Bh_28.2.2 dX11_tree_93
            ·
              have jc_12 := il_nle c_12
              refine lv_aload_n hx hb dX11_tree_61 rfl (lv_at hl 2 rfl) (hp_n (n := 62) rfl ?_)
              refine lv_iconst (v := 5) hx hb dX11_tree_62 (by decide) (hp_n (n := 63) rfl ?_)
              refine q_ci (pc' := 66) Bh_8 (hp_runV (As := [.int 5]) (rest := []) C Bh_8 (t_X11_refuse Γ l α Bh_8.2.2.1 a0 (cw_k Bh_8.2.2 k0) 5) lb_X11_refuse lv_X11_refuse lk_X11_98 (cw_k Bh_8.2.2 k0) rfl (by decide) rfl hl.1 rfl (Nat.le_of_ble_eq_true rfl) dX11_tree_63 ⟨Nat.le_refl _, Nat.le_refl _⟩) (fun _ _ h => cw_tr Bh_8.2.2 h (by decide)) rfl (fun rh_29 αh_29 Hh_29 Lh_29 ph_29 Bh_29 => ?_)
              exact q_iret C Bh_29 hr hlk Bh_29.2.2 dX11_tree_66
          ·
            have jc_9 := il_ne c_9
            refine lv_aload_n hx hb dX11_tree_45 rfl (lv_at hl 2 rfl) (hp_n (n := 46) rfl ?_)
            refine lv_iload hx hb dX11_tree_46 (lv_at hl 0 rfl) (hp_n (n := 48) rfl ?_)
            refine q_ci (pc' := 51) Bh_8 (hp_runV (As := [.int rh_8]) (rest := []) C Bh_8 (t_X11_refuse Γ l α Bh_8.2.2.1 a0 (cw_k Bh_8.2.2 k0) rh_8) lb_X11_refuse lv_X11_refuse lk_X11_98 (cw_k Bh_8.2.2 k0) rfl (by decide) rfl hl.1 rfl (Nat.le_of_ble_eq_true rfl) dX11_tree_48 ⟨Nat.le_refl _, Nat.le_refl _⟩) (fun _ _ h => cw_tr Bh_8.2.2 h (by decide)) rfl (fun rh_30 αh_30 Hh_30 Lh_30 ph_30 Bh_30 => ?_)
            exact q_iret C Bh_30 hr hlk Bh_30.2.2 dX11_tree_51
        ·
          have kbh_7 : hp_K α bh_7 = 3 := cw_k' Bh_7.2.2 (ph_7.2 bh_7 rfl)
          refine lv_astore (lv' := [(5, .ref bh_7), (0, .ref a0), (1, .int a1), (2, .int a2), (3, .int a3), (4, .int a4)]) hx hb dX11_tree_29 hl (by decide) rfl (fun ls hl => hp_n (n := 31) rfl ?_)
          refine lv_aload hx hb dX11_tree_31 (lv_at hl 0 rfl) (hp_n (n := 33) rfl ?_)
          refine lv_iconst (v := 0) hx hb dX11_tree_33 (by decide) (hp_n (n := 34) rfl ?_)
          refine lv_iload_n hx hb dX11_tree_34 rfl (lv_at hl 3 rfl) (hp_n (n := 35) rfl ?_)
          refine q_ci (pc' := 38) Bh_7 (hp_runS (As := [va_rf (some bh_7), .int 0, .int a2]) (rest := []) C Bh_7 (t_X11_wrongGrowth Γ l α Bh_7.2.2.1 (some bh_7) (fun b h => by cases h; exact (cw_k Bh_7.2.2 kbh_7)) 0 a2) lb_X11_wrongGrowth ls_X11_wrongGrowth lk_X11_180 rfl (by decide) rfl hl.1 rfl (Nat.le_of_ble_eq_true rfl) dX11_tree_35 ⟨Nat.le_refl _, Nat.le_refl _⟩) (fun _ _ h => by rw [h]; exact Bh_7.2.2) rfl (fun rh_31 αh_31 Hh_31 Lh_31 ph_31 Bh_31 => ?_)
          rw [ph_31] at Bh_31
          refine lv_istore (lv' := [(6, .int rh_31), (5, .ref bh_7), (0, .ref a0), (1, .int a1), (2, .int a2), (3, .int a3), (4, .int a4)]) hx hb dX11_tree_38 hl (by decide) rfl (fun ls hl => hp_n (n := 40) rfl ?_)
          refine lv_iload hx hb dX11_tree_40 (lv_at hl 0 rfl) (hp_n (n := 42) rfl ?_)
          refine lv_if_eq (tgt := 52) hx hb dX11_tree_42 (by decide) (fun c_32 => ?_) (fun c_32 => hp_n (n := 45) rfl ?_)
          ·
            have jc_32 := il_eq c_32
            refine lv_iload_n hx hb dX11_tree_52 rfl (lv_at hl 5 rfl) (hp_n (n := 53) rfl ?_)
            refine lv_iconst (v := 2) hx hb dX11_tree_53 (by decide) (hp_n (n := 54) rfl ?_)
            refine lv_iload_n hx hb dX11_tree_54 rfl (lv_at hl 4 rfl) (hp_n (n := 55) rfl ?_)
            refine lv_imul hx hb dX11_tree_55 (hp_n (n := 56) rfl (lv_topi (fun x_33 ex_33 => ?_)))
            refine lv_iconst (v := 2) hx hb dX11_tree_56 (by decide) (hp_n (n := 57) rfl ?_)
            refine lv_isub hx hb dX11_tree_57 (hp_n (n := 58) rfl (lv_topi (fun x_34 ex_34 => ?_)))
            refine lv_icmp_le (tgt := 67) hx hb dX11_tree_58 (by decide) (fun c_35 => ?_) (fun c_35 => hp_n (n := 61) rfl ?_)
            ·
              have jc_35 := il_le c_35
              refine lv_aload_n hx hb dX11_tree_67 rfl (lv_at hl 2 rfl) (hp_n (n := 68) rfl ?_)
              refine q_getr (κ := 12) (k := 12) (φ := 612) (pc' := 71) C Bh_31 (cw_k Bh_31.2.2 k0) fl_X11_62 rfl rfl rfl (cw_r Bh_31.2.2 k0 rfl rfl (by decide) (by decide)) dX11_tree_68 rfl (fun b_36 eb_36 kb_36 => ?_)
              refine lv_iload_n hx hb dX11_tree_71 rfl (lv_at hl 5 rfl) (hp_n (n := 72) rfl ?_)
              refine lv_iload_n hx hb dX11_tree_72 rfl (lv_at hl 4 rfl) (hp_n (n := 73) rfl ?_)
              refine q_cv (pc' := 76) Bh_31 (hp_runV (As := [.int a3, .int a2]) (rest := []) C Bh_31 (t_X8_toTree Γ l α Bh_31.2.2.1 b_36 (cw_k Bh_31.2.2 kb_36) a3 a2) lb_X8_toTree lv_X8_toTree lk_X11_330 (cw_k Bh_31.2.2 kb_36) rfl (by decide) rfl hl.1 rfl (Nat.le_of_ble_eq_true rfl) dX11_tree_73 ⟨Nat.le_refl _, Nat.le_refl _⟩) (fun _ h => cw_tr Bh_31.2.2 h (by decide)) rfl (fun αh_37 Hh_37 Lh_37 ph_37 Bh_37 => ?_)
              refine lv_iload hx hb dX11_tree_76 (lv_at hl 6 rfl) (hp_n (n := 78) rfl ?_)
              refine lv_if_ne (tgt := 94) hx hb dX11_tree_78 (by decide) (fun c_38 => ?_) (fun c_38 => hp_n (n := 81) rfl ?_)
              ·
                have jc_38 := il_ne c_38
                refine lv_aload_n hx hb dX11_tree_94 rfl (lv_at hl 2 rfl) (hp_n (n := 95) rfl ?_)
                refine lv_iload hx hb dX11_tree_95 (lv_at hl 6 rfl) (hp_n (n := 97) rfl ?_)
                refine lv_iconst (v := 1) hx hb dX11_tree_97 (by decide) (hp_n (n := 98) rfl ?_)
                refine lv_icmp_ne (tgt := 112) hx hb dX11_tree_98 (by decide) (fun c_39 => ?_) (fun c_39 => hp_n (n := 101) rfl ?_)
                ·
                  have jc_39 := il_ne c_39
                  refine lv_aload_n hx hb dX11_tree_112 rfl (lv_at hl 2 rfl) (hp_n (n := 113) rfl ?_)
                  have t_40 : b_6 = hp_R αh_37 601 a0 := by rw [cw_R ph_37 a0 (by decide)]; exact eb_6
                  refine q_gets (κ := 12) (k := 1) (φ := 601) (pc' := 116) C Bh_37 (cw_k Bh_37.2.2 k0) fl_X11_16 rfl rfl rfl t_40 dX11_tree_113 rfl ?_
                  refine lv_aload hx hb dX11_tree_116 (lv_at hl 1 rfl) (hp_n (n := 118) rfl ?_)
                  refine lv_aload_n hx hb dX11_tree_118 rfl (lv_at hl 2 rfl) (hp_n (n := 119) rfl ?_)
                  have t_41 : b_36 = hp_R αh_37 612 a0 := by rw [cw_R ph_37 a0 (by decide)]; exact eb_36
                  refine q_gets (κ := 12) (k := 12) (φ := 612) (pc' := 122) C Bh_37 (cw_k Bh_37.2.2 k0) fl_X11_62 rfl rfl rfl t_41 dX11_tree_119 rfl ?_
                  refine lv_iconst (v := 0) hx hb dX11_tree_122 (by decide) (hp_n (n := 123) rfl ?_)
                  refine q_ci (pc' := 126) Bh_37 (hp_runV (As := [.int 0]) (rest := [.ref bh_7, .ref b_6, .ref a0]) C Bh_37 (t_X8_firstAt Γ l αh_37 Bh_37.2.2.1 b_36 (cw_k Bh_37.2.2 kb_36) 0) lb_X8_firstAt lv_X8_firstAt lk_X11_333 (cw_k Bh_37.2.2 kb_36) rfl (by decide) rfl hl.1 rfl (Nat.le_of_ble_eq_true rfl) dX11_tree_123 ⟨Nat.le_refl _, Nat.le_refl _⟩) (fun _ _ h => by rw [h]; exact Bh_37.2.2) rfl (fun rh_42 αh_42 Hh_42 Lh_42 ph_42 Bh_42 => ?_)
                  rw [ph_42] at Bh_42
                  refine lv_aload_n hx hb dX11_tree_126 rfl (lv_at hl 2 rfl) (hp_n (n := 127) rfl ?_)
                  refine q_gets (κ := 12) (k := 12) (φ := 612) (pc' := 130) C Bh_42 (cw_k Bh_42.2.2 k0) fl_X11_62 rfl rfl rfl t_41 dX11_tree_127 rfl ?_
                  refine lv_iconst (v := 0) hx hb dX11_tree_130 (by decide) (hp_n (n := 131) rfl ?_)
                  refine q_ci (pc' := 134) Bh_42 (hp_runV (As := [.int 0]) (rest := [.int rh_42, .ref bh_7, .ref b_6, .ref a0]) C Bh_42 (t_X8_manyAt Γ l αh_37 Bh_42.2.2.1 b_36 (cw_k Bh_42.2.2 kb_36) 0) lb_X8_manyAt lv_X8_manyAt lk_X11_336 (cw_k Bh_42.2.2 kb_36) rfl (by decide) rfl hl.1 rfl (Nat.le_of_ble_eq_true rfl) dX11_tree_131 ⟨Nat.le_refl _, Nat.le_refl _⟩) (fun _ _ h => by rw [h]; exact Bh_42.2.2) rfl (fun rh_43 αh_43 Hh_43 Lh_43 ph_43 Bh_43 => ?_)
                  rw [ph_43] at Bh_43
                  refine q_ci (pc' := 137) Bh_43 (hp_runV (As := [va_rf (some bh_7), .int rh_42, .int rh_43]) (rest := [.ref a0]) C Bh_43 (t_X10_treeMark Γ l αh_37 Bh_43.2.2.1 b_6 (cw_k Bh_43.2.2 kb_6) (some bh_7) (fun b h => by cases h; exact (cw_k Bh_43.2.2 kbh_7)) rh_42 rh_43) lb_X10_treeMark lv_X10_treeMark lk_X11_339 (cw_k Bh_43.2.2 kb_6) rfl (by decide) rfl hl.1 rfl (Nat.le_of_ble_eq_true rfl) dX11_tree_134 ⟨Nat.le_refl _, Nat.le_refl _⟩) (fun _ _ h => cw_tr Bh_43.2.2 h (by decide)) rfl (fun rh_44 αh_44 Hh_44 Lh_44 ph_44 Bh_44 => ?_)
                  refine q_ci (pc' := 140) Bh_44 (hp_runV (As := [.int rh_44]) (rest := []) C Bh_44 (t_X11_answer Γ l αh_44 Bh_44.2.2.1 a0 (cw_k Bh_44.2.2 k0) rh_44) lb_X11_answer lv_X11_answer lk_X11_115 (cw_k Bh_44.2.2 k0) rfl (by decide) rfl hl.1 rfl (Nat.le_of_ble_eq_true rfl) dX11_tree_137 ⟨Nat.le_refl _, Nat.le_refl _⟩) (fun _ _ h => cw_tr Bh_44.2.2 h (by decide)) rfl (fun rh_45 αh_45 Hh_45 Lh_45 ph_45 Bh_45 => ?_)
                  exact q_iret C Bh_45 hr hlk Bh_45.2.2 dX11_tree_140
                ·
                  have jc_39 := il_eq c_39
                  refine lv_aload_n hx hb dX11_tree_101 rfl (lv_at hl 2 rfl) (hp_n (n := 102) rfl ?_)
                  have t_46 : b_36 = hp_R αh_37 612 a0 := by rw [cw_R ph_37 a0 (by decide)]; exact eb_36
                  refine q_gets (κ := 12) (k := 12) (φ := 612) (pc' := 105) C Bh_37 (cw_k Bh_37.2.2 k0) fl_X11_62 rfl rfl rfl t_46 dX11_tree_102 rfl ?_
                  refine lv_iconst (v := 0) hx hb dX11_tree_105 (by decide) (hp_n (n := 106) rfl ?_)
                  refine q_ci (pc' := 109) Bh_37 (hp_runV (As := [.int 0]) (rest := [.ref a0]) C Bh_37 (t_X8_manyAt Γ l αh_37 Bh_37.2.2.1 b_36 (cw_k Bh_37.2.2 kb_36) 0) lb_X8_manyAt lv_X8_manyAt lk_X11_336 (cw_k Bh_37.2.2 kb_36) rfl (by decide) rfl hl.1 rfl (Nat.le_of_ble_eq_true rfl) dX11_tree_106 ⟨Nat.le_refl _, Nat.le_refl _⟩) (fun _ _ h => by rw [h]; exact Bh_37.2.2) rfl (fun rh_47 αh_47 Hh_47 Lh_47 ph_47 Bh_47 => ?_)
                  rw [ph_47] at Bh_47
                  refine lv_goto (tgt := 137) hx hb dX11_tree_109 (by decide) ?_
                  refine q_ci (pc' := 140) Bh_47 (hp_runV (As := [.int rh_47]) (rest := []) C Bh_47 (t_X11_answer Γ l αh_37 Bh_47.2.2.1 a0 (cw_k Bh_47.2.2 k0) rh_47) lb_X11_answer lv_X11_answer lk_X11_115 (cw_k Bh_47.2.2 k0) rfl (by decide) rfl hl.1 rfl (Nat.le_of_ble_eq_true rfl) dX11_tree_137 ⟨Nat.le_refl _, Nat.le_refl _⟩) (fun _ _ h => cw_tr Bh_47.2.2 h (by decide)) rfl (fun rh_48 αh_48 Hh_48 Lh_48 ph_48 Bh_48 => ?_)
                  exact q_iret C Bh_48 hr hlk Bh_48.2.2 dX11_tree_140
              ·
                have jc_38 := il_eq c_38
                refine lv_aload_n hx hb dX11_tree_81 rfl (lv_at hl 2 rfl) (hp_n (n := 82) rfl ?_)
                refine lv_aload_n hx hb dX11_tree_82 rfl (lv_at hl 2 rfl) (hp_n (n := 83) rfl ?_)
                have t_49 : b_36 = hp_R αh_37 612 a0 := by rw [cw_R ph_37 a0 (by decide)]; exact eb_36
                refine q_gets (κ := 12) (k := 12) (φ := 612) (pc' := 86) C Bh_37 (cw_k Bh_37.2.2 k0) fl_X11_62 rfl rfl rfl t_49 dX11_tree_83 rfl ?_
                refine lv_iconst (v := 0) hx hb dX11_tree_86 (by decide) (hp_n (n := 87) rfl ?_)
                refine q_ci (pc' := 90) Bh_37 (hp_runV (As := [.int 0]) (rest := [.ref a0]) C Bh_37 (t_X8_firstAt Γ l αh_37 Bh_37.2.2.1 b_36 (cw_k Bh_37.2.2 kb_36) 0) lb_X8_firstAt lv_X8_firstAt lk_X11_333 (cw_k Bh_37.2.2 kb_36) rfl (by decide) rfl hl.1 rfl (Nat.le_of_ble_eq_true rfl) dX11_tree_87 ⟨Nat.le_refl _, Nat.le_refl _⟩) (fun _ _ h => by rw [h]; exact Bh_37.2.2) rfl (fun rh_50 αh_50 Hh_50 Lh_50 ph_50 Bh_50 => ?_)
                rw [ph_50] at Bh_50
                refine q_ci (pc' := 93) Bh_50 (hp_runV (As := [.int rh_50]) (rest := []) C Bh_50 (t_X11_answer Γ l αh_37 Bh_50.2.2.1 a0 (cw_k Bh_50.2.2 k0) rh_50) lb_X11_answer lv_X11_answer lk_X11_115 (cw_k Bh_50.2.2 k0) rfl (by decide) rfl hl.1 rfl (Nat.le_of_ble_eq_true rfl) dX11_tree_90 ⟨Nat.le_refl _, Nat.le_refl _⟩) (fun _ _ h => cw_tr Bh_50.2.2 h (by decide)) rfl (fun rh_51 αh_51 Hh_51 Lh_51 ph_51 Bh_51 => ?_)
                exact q_iret C Bh_51 hr hlk Bh_51.2.2 dX11_tree_93
            ·
              have jc_35 := il_nle c_35
              refine lv_aload_n hx hb dX11_tree_61 rfl (lv_at hl 2 rfl) (hp_n (n := 62) rfl ?_)
              refine lv_iconst (v := 5) hx hb dX11_tree_62 (by decide) (hp_n (n := 63) rfl ?_)
              refine q_ci (pc' := 66) Bh_31 (hp_runV (As := [.int 5]) (rest := []) C Bh_31 (t_X11_refuse Γ l α Bh_31.2.2.1 a0 (cw_k Bh_31.2.2 k0) 5) lb_X11_refuse lv_X11_refuse lk_X11_98 (cw_k Bh_31.2.2 k0) rfl (by decide) rfl hl.1 rfl (Nat.le_of_ble_eq_true rfl) dX11_tree_63 ⟨Nat.le_refl _, Nat.le_refl _⟩) (fun _ _ h => cw_tr Bh_31.2.2 h (by decide)) rfl (fun rh_52 αh_52 Hh_52 Lh_52 ph_52 Bh_52 => ?_)
              exact q_iret C Bh_52 hr hlk Bh_52.2.2 dX11_tree_66
          ·
            have jc_32 := il_ne c_32
            refine lv_aload_n hx hb dX11_tree_45 rfl (lv_at hl 2 rfl) (hp_n (n := 46) rfl ?_)
            refine lv_iload hx hb dX11_tree_46 (lv_at hl 0 rfl) (hp_n (n := 48) rfl ?_)
            refine q_ci (pc' := 51) Bh_31 (hp_runV (As := [.int rh_31]) (rest := []) C Bh_31 (t_X11_refuse Γ l α Bh_31.2.2.1 a0 (cw_k Bh_31.2.2 k0) rh_31) lb_X11_refuse lv_X11_refuse lk_X11_98 (cw_k Bh_31.2.2 k0) rfl (by decide) rfl hl.1 rfl (Nat.le_of_ble_eq_true rfl) dX11_tree_48 ⟨Nat.le_refl _, Nat.le_refl _⟩) (fun _ _ h => cw_tr Bh_31.2.2 h (by decide)) rfl (fun rh_53 αh_53 Hh_53 Lh_53 ph_53 Bh_53 => ?_)
            exact q_iret C Bh_53 hr hlk Bh_53.2.2 dX11_tree_51
      ·
        have jc_5 := il_nle c_5
        exact J15 s.heap [] B ls (lv_sub hl [0] rfl)
abbrev w_X11_proves : cw_W := ([301, 453, 454, 600], [], [20, 21, 22, 23, 33], [])
set_option maxRecDepth 100000 in
set_option maxHeartbeats 4000000 in
theorem t_X11_proves (Γ : hp_G) (l : Launch) (α : hp_T) (g : GC α) (a0 : Nat) (k0 : hp_K α a0 = 12) (a1 : Int32) (a2 : Int32) : Met l yX11_proves (hp_ws yX11_proves cX11_proves 6 (some .int)) (hp_rm 6 0 0) (hp_Pc Γ α [.ref a0, .int a1, .int a2]) (hp_Qi Γ (fun r β => cw w_X11_proves α β)) 0 0 (hp_A Γ) := by
  refine hp_start (by decide) ?_
  intro p e s m below meth c C hr hlk B0 hnm
  have C : hp_C Γ p m c cX11_proves 6 s ([.ref a0, .int a1, .int a2] : List Value).toArray RX11 := C
  have hx := C.1.1
  have hb := C.1.2.1
  have hown := C.1.2.2.2.1
  have hts := C.1.2.2.2.2
  have B : hp_B Γ (cw w_X11_proves) s α α s.heap [] := ⟨B0.1, B0.2.1, cw_rf g⟩
  have lit0 : (0 : Int32).toInt = 0 := by decide
  have lit1 : (1 : Int32).toInt = 1 := by decide
  have lit5 : (5 : Int32).toInt = 5 := by decide
  have hl := lv_entry ([.ref a0, .int a1, .int a2]) (n := 6) (Nat.le_of_ble_eq_true rfl)
  show W p l e (hp_rm 6 0 0) s m ([.ref a0, .int a1, .int a2] : List Value).toArray below meth c s.heap [] 0 0 (MQ below (hp_Qi Γ (fun r β => cw w_X11_proves α β)) ([.ref a0, .int a1, .int a2] : List Value).toArray s 0 0 (hp_A Γ)) (entryFrame m ([.ref a0, .int a1, .int a2] : List Value).toArray 6)
  rw [lg_entry_eq]
  generalize (lg_sl ([.ref a0, .int a1, .int a2]) ++ List.replicate (6 - (lg_sl ([.ref a0, .int a1, .int a2])).length) Slot.unset).toArray = ls at hl ⊢
  have hl : lv_has ls 6 [(0, .ref a0), (1, .int a1), (2, .int a2)] := hl
  refine lv_iload_n hx hb dX11_proves_0 rfl (lv_at hl 1 rfl) (hp_n (n := 1) rfl ?_)
  have J8 : ∀ (Hh_1 : Heap) (Lh_1 : List Loc) (Bh_1 : hp_B Γ (cw w_X11_proves) s α α Hh_1 Lh_1) (ls : Array Slot) (hl : lv_has ls 6 [(0, .ref a0)]), W p l e (hp_rm 6 0 0) s m ([.ref a0, .int a1, .int a2] : List Value).toArray below meth c Hh_1 Lh_1 0 0 (MQ below (hp_Qi Γ (fun r β => cw w_X11_proves α β)) ([.ref a0, .int a1, .int a2] : List Value).toArray s 0 0 (hp_A Γ)) (F0 m 8 ls []) := by
    intro Hh_1 Lh_1 Bh_1 ls hl
    refine lv_aload_n hx hb dX11_proves_8 rfl (lv_at hl 0 rfl) (hp_n (n := 9) rfl ?_)
    refine lv_iconst (v := 1) hx hb dX11_proves_9 (by decide) (hp_n (n := 10) rfl ?_)
    refine q_ci (pc' := 13) Bh_1 (hp_runV (As := [.int 1]) (rest := []) C Bh_1 (t_X11_refuse Γ l α Bh_1.2.2.1 a0 (cw_k Bh_1.2.2 k0) 1) lb_X11_refuse lv_X11_refuse lk_X11_98 (cw_k Bh_1.2.2 k0) rfl (by decide) rfl hl.1 rfl (Nat.le_of_ble_eq_true rfl) dX11_proves_10 ⟨Nat.le_refl _, Nat.le_refl _⟩) (fun _ _ h => cw_tr Bh_1.2.2 h (by decide)) rfl (fun rh_2 αh_2 Hh_2 Lh_2 ph_2 Bh_2 => ?_)
    exact q_iret C Bh_2 hr hlk Bh_2.2.2 dX11_proves_13
  refine lv_if_lt (tgt := 8) hx hb dX11_proves_1 (by decide) (fun c_3 => ?_) (fun c_3 => hp_n (n := 4) rfl ?_)
  ·
    have jc_3 := il_lt c_3
    exact J8 s.heap [] B ls (lv_sub hl [0] rfl)
  ·
    have jc_3 := il_nlt c_3
    refine lv_iload_n hx hb dX11_proves_4 rfl (lv_at hl 2 rfl) (hp_n (n := 5) rfl ?_)
    refine lv_if_ge (tgt := 14) hx hb dX11_proves_5 (by decide) (fun c_4 => ?_) (fun c_4 => hp_n (n := 8) rfl ?_)
    ·
      have jc_4 := il_le c_4
      refine lv_aload_n hx hb dX11_proves_14 rfl (lv_at hl 0 rfl) (hp_n (n := 15) rfl ?_)
      refine q_getr (κ := 12) (k := 1) (φ := 601) (pc' := 18) C B (cw_k B.2.2 k0) fl_X11_16 rfl rfl rfl (cw_r B.2.2 k0 rfl rfl (by decide) (by decide)) dX11_proves_15 rfl (fun b_5 eb_5 kb_5 => ?_)
      refine lv_iload_n hx hb dX11_proves_18 rfl (lv_at hl 1 rfl) (hp_n (n := 19) rfl ?_)
      refine q_cq (pc' := 22) B (hp_runV (As := [.int a1]) (rest := []) C B (t_X10_frozenAt Γ l α B.2.2.1 b_5 (cw_k B.2.2 kb_5) a1) lb_X10_frozenAt lv_X10_frozenAt lk_X11_198 (cw_k B.2.2 kb_5) rfl (by decide) rfl hl.1 rfl (Nat.le_of_ble_eq_true rfl) dX11_proves_19 ⟨Nat.le_refl _, Nat.le_refl _⟩) (fun _ _ h => by rw [h.1]; exact B.2.2) rfl (fun rh_6 αh_6 Hh_6 Lh_6 ph_6 Bh_6 => ?_)
      rw [ph_6.1] at Bh_6
      rcases rh_6 with _ | bh_6
      ·
        refine lv_astore_nN (lv' := [(3, .null), (0, .ref a0), (1, .int a1), (2, .int a2)]) hx hb dX11_proves_22 rfl hl (by decide) rfl (fun ls hl => hp_n (n := 23) rfl ?_)
        refine lv_aload_n hx hb dX11_proves_23 rfl (lv_at hl 1 rfl) (hp_n (n := 24) rfl ?_)
        refine q_gets (κ := 12) (k := 1) (φ := 601) (pc' := 27) C Bh_6 (cw_k Bh_6.2.2 k0) fl_X11_16 rfl rfl rfl eb_5 dX11_proves_24 rfl ?_
        refine lv_iload_n hx hb dX11_proves_27 rfl (lv_at hl 3 rfl) (hp_n (n := 28) rfl ?_)
        refine q_cq (pc' := 31) Bh_6 (hp_runV (As := [.int a2]) (rest := []) C Bh_6 (t_X10_frozenAt Γ l α Bh_6.2.2.1 b_5 (cw_k Bh_6.2.2 kb_5) a2) lb_X10_frozenAt lv_X10_frozenAt lk_X11_198 (cw_k Bh_6.2.2 kb_5) rfl (by decide) rfl hl.1 rfl (Nat.le_of_ble_eq_true rfl) dX11_proves_28 ⟨Nat.le_refl _, Nat.le_refl _⟩) (fun _ _ h => by rw [h.1]; exact Bh_6.2.2) rfl (fun rh_7 αh_7 Hh_7 Lh_7 ph_7 Bh_7 => ?_)
        rw [ph_7.1] at Bh_7
        rcases rh_7 with _ | bh_7
        ·
          refine lv_astoreN (lv' := [(4, .null), (3, .null), (0, .ref a0), (1, .int a1), (2, .int a2)]) hx hb dX11_proves_31 hl (by decide) rfl (fun ls hl => hp_n (n := 33) rfl ?_)
          refine lv_aload_nN hx hb dX11_proves_33 rfl (lv_at hl 1 rfl) (hp_n (n := 34) rfl ?_)
          have J54 : ∀ (Hh_8 : Heap) (Lh_8 : List Loc) (Bh_8 : hp_B Γ (cw w_X11_proves) s α α Hh_8 Lh_8) (ls : Array Slot) (hl : lv_has ls 6 [(0, .ref a0)]), W p l e (hp_rm 6 0 0) s m ([.ref a0, .int a1, .int a2] : List Value).toArray below meth c Hh_8 Lh_8 0 0 (MQ below (hp_Qi Γ (fun r β => cw w_X11_proves α β)) ([.ref a0, .int a1, .int a2] : List Value).toArray s 0 0 (hp_A Γ)) (F0 m 54 ls []) := by
            intro Hh_8 Lh_8 Bh_8 ls hl
            refine lv_aload_n hx hb dX11_proves_54 rfl (lv_at hl 0 rfl) (hp_n (n := 55) rfl ?_)
            refine lv_iconst (v := 5) hx hb dX11_proves_55 (by decide) (hp_n (n := 56) rfl ?_)
            refine q_ci (pc' := 59) Bh_8 (hp_runV (As := [.int 5]) (rest := []) C Bh_8 (t_X11_refuse Γ l α Bh_8.2.2.1 a0 (cw_k Bh_8.2.2 k0) 5) lb_X11_refuse lv_X11_refuse lk_X11_98 (cw_k Bh_8.2.2 k0) rfl (by decide) rfl hl.1 rfl (Nat.le_of_ble_eq_true rfl) dX11_proves_56 ⟨Nat.le_refl _, Nat.le_refl _⟩) (fun _ _ h => cw_tr Bh_8.2.2 h (by decide)) rfl (fun rh_9 αh_9 Hh_9 Lh_9 ph_9 Bh_9 => ?_)
            exact q_iret C Bh_9 hr hlk Bh_9.2.2 dX11_proves_59
          refine lv_ifnullN (tgt := 54) hx hb dX11_proves_34 (by decide) ?_
          exact J54 Hh_7 Lh_7 Bh_7 ls (lv_sub hl [2] rfl)
        ·
          have kbh_7 : hp_K α bh_7 = 2 := cw_k' Bh_7.2.2 (ph_7.2 bh_7 rfl)
          refine lv_astore (lv' := [(4, .ref bh_7), (3, .null), (0, .ref a0), (1, .int a1), (2, .int a2)]) hx hb dX11_proves_31 hl (by decide) rfl (fun ls hl => hp_n (n := 33) rfl ?_)
          refine lv_aload_nN hx hb dX11_proves_33 rfl (lv_at hl 1 rfl) (hp_n (n := 34) rfl ?_)
          have J54 : ∀ (Hh_10 : Heap) (Lh_10 : List Loc) (Bh_10 : hp_B Γ (cw w_X11_proves) s α α Hh_10 Lh_10) (ls : Array Slot) (hl : lv_has ls 6 [(0, .ref a0)]), W p l e (hp_rm 6 0 0) s m ([.ref a0, .int a1, .int a2] : List Value).toArray below meth c Hh_10 Lh_10 0 0 (MQ below (hp_Qi Γ (fun r β => cw w_X11_proves α β)) ([.ref a0, .int a1, .int a2] : List Value).toArray s 0 0 (hp_A Γ)) (F0 m 54 ls []) := by
            intro Hh_10 Lh_10 Bh_10 ls hl
            refine lv_aload_n hx hb dX11_proves_54 rfl (lv_at hl 0 rfl) (hp_n (n := 55) rfl ?_)
            refine lv_iconst (v := 5) hx hb dX11_proves_55 (by decide) (hp_n (n := 56) rfl ?_)
            refine q_ci (pc' := 59) Bh_10 (hp_runV (As := [.int 5]) (rest := []) C Bh_10 (t_X11_refuse Γ l α Bh_10.2.2.1 a0 (cw_k Bh_10.2.2 k0) 5) lb_X11_refuse lv_X11_refuse lk_X11_98 (cw_k Bh_10.2.2 k0) rfl (by decide) rfl hl.1 rfl (Nat.le_of_ble_eq_true rfl) dX11_proves_56 ⟨Nat.le_refl _, Nat.le_refl _⟩) (fun _ _ h => cw_tr Bh_10.2.2 h (by decide)) rfl (fun rh_11 αh_11 Hh_11 Lh_11 ph_11 Bh_11 => ?_)
            exact q_iret C Bh_11 hr hlk Bh_11.2.2 dX11_proves_59
          refine lv_ifnullN (tgt := 54) hx hb dX11_proves_34 (by decide) ?_
          exact J54 Hh_7 Lh_7 Bh_7 ls (lv_sub hl [2] rfl)
      ·
        have kbh_6 : hp_K α bh_6 = 2 := cw_k' Bh_6.2.2 (ph_6.2 bh_6 rfl)
        refine lv_astore_n (lv' := [(3, .ref bh_6), (0, .ref a0), (1, .int a1), (2, .int a2)]) hx hb dX11_proves_22 rfl hl (by decide) rfl (fun ls hl => hp_n (n := 23) rfl ?_)
        refine lv_aload_n hx hb dX11_proves_23 rfl (lv_at hl 1 rfl) (hp_n (n := 24) rfl ?_)
        refine q_gets (κ := 12) (k := 1) (φ := 601) (pc' := 27) C Bh_6 (cw_k Bh_6.2.2 k0) fl_X11_16 rfl rfl rfl eb_5 dX11_proves_24 rfl ?_
        refine lv_iload_n hx hb dX11_proves_27 rfl (lv_at hl 3 rfl) (hp_n (n := 28) rfl ?_)
        refine q_cq (pc' := 31) Bh_6 (hp_runV (As := [.int a2]) (rest := []) C Bh_6 (t_X10_frozenAt Γ l α Bh_6.2.2.1 b_5 (cw_k Bh_6.2.2 kb_5) a2) lb_X10_frozenAt lv_X10_frozenAt lk_X11_198 (cw_k Bh_6.2.2 kb_5) rfl (by decide) rfl hl.1 rfl (Nat.le_of_ble_eq_true rfl) dX11_proves_28 ⟨Nat.le_refl _, Nat.le_refl _⟩) (fun _ _ h => by rw [h.1]; exact Bh_6.2.2) rfl (fun rh_12 αh_12 Hh_12 Lh_12 ph_12 Bh_12 => ?_)
        rw [ph_12.1] at Bh_12
        rcases rh_12 with _ | bh_12
        ·
          refine lv_astoreN (lv' := [(4, .null), (3, .ref bh_6), (0, .ref a0), (1, .int a1), (2, .int a2)]) hx hb dX11_proves_31 hl (by decide) rfl (fun ls hl => hp_n (n := 33) rfl ?_)
          refine lv_aload_n hx hb dX11_proves_33 rfl (lv_at hl 1 rfl) (hp_n (n := 34) rfl ?_)
          have J54 : ∀ (Hh_13 : Heap) (Lh_13 : List Loc) (Bh_13 : hp_B Γ (cw w_X11_proves) s α α Hh_13 Lh_13) (ls : Array Slot) (hl : lv_has ls 6 [(0, .ref a0)]), W p l e (hp_rm 6 0 0) s m ([.ref a0, .int a1, .int a2] : List Value).toArray below meth c Hh_13 Lh_13 0 0 (MQ below (hp_Qi Γ (fun r β => cw w_X11_proves α β)) ([.ref a0, .int a1, .int a2] : List Value).toArray s 0 0 (hp_A Γ)) (F0 m 54 ls []) := by
            intro Hh_13 Lh_13 Bh_13 ls hl
            refine lv_aload_n hx hb dX11_proves_54 rfl (lv_at hl 0 rfl) (hp_n (n := 55) rfl ?_)
            refine lv_iconst (v := 5) hx hb dX11_proves_55 (by decide) (hp_n (n := 56) rfl ?_)
            refine q_ci (pc' := 59) Bh_13 (hp_runV (As := [.int 5]) (rest := []) C Bh_13 (t_X11_refuse Γ l α Bh_13.2.2.1 a0 (cw_k Bh_13.2.2 k0) 5) lb_X11_refuse lv_X11_refuse lk_X11_98 (cw_k Bh_13.2.2 k0) rfl (by decide) rfl hl.1 rfl (Nat.le_of_ble_eq_true rfl) dX11_proves_56 ⟨Nat.le_refl _, Nat.le_refl _⟩) (fun _ _ h => cw_tr Bh_13.2.2 h (by decide)) rfl (fun rh_14 αh_14 Hh_14 Lh_14 ph_14 Bh_14 => ?_)
            exact q_iret C Bh_14 hr hlk Bh_14.2.2 dX11_proves_59
          refine lv_ifnull hx hb dX11_proves_34 (hp_n (n := 37) rfl ?_)
          refine lv_aloadN hx hb dX11_proves_37 (lv_at hl 0 rfl) (hp_n (n := 39) rfl ?_)
          refine lv_ifnullN (tgt := 54) hx hb dX11_proves_39 (by decide) ?_
          exact J54 Hh_12 Lh_12 Bh_12 ls (lv_sub hl [2] rfl)
        ·
          have kbh_12 : hp_K α bh_12 = 2 := cw_k' Bh_12.2.2 (ph_12.2 bh_12 rfl)
          refine lv_astore (lv' := [(4, .ref bh_12), (3, .ref bh_6), (0, .ref a0), (1, .int a1), (2, .int a2)]) hx hb dX11_proves_31 hl (by decide) rfl (fun ls hl => hp_n (n := 33) rfl ?_)
          refine lv_aload_n hx hb dX11_proves_33 rfl (lv_at hl 1 rfl) (hp_n (n := 34) rfl ?_)
          have J54 : ∀ (Hh_15 : Heap) (Lh_15 : List Loc) (Bh_15 : hp_B Γ (cw w_X11_proves) s α α Hh_15 Lh_15) (ls : Array Slot) (hl : lv_has ls 6 [(0, .ref a0)]), W p l e (hp_rm 6 0 0) s m ([.ref a0, .int a1, .int a2] : List Value).toArray below meth c Hh_15 Lh_15 0 0 (MQ below (hp_Qi Γ (fun r β => cw w_X11_proves α β)) ([.ref a0, .int a1, .int a2] : List Value).toArray s 0 0 (hp_A Γ)) (F0 m 54 ls []) := by
            intro Hh_15 Lh_15 Bh_15 ls hl
            refine lv_aload_n hx hb dX11_proves_54 rfl (lv_at hl 0 rfl) (hp_n (n := 55) rfl ?_)
            refine lv_iconst (v := 5) hx hb dX11_proves_55 (by decide) (hp_n (n := 56) rfl ?_)
            refine q_ci (pc' := 59) Bh_15 (hp_runV (As := [.int 5]) (rest := []) C Bh_15 (t_X11_refuse Γ l α Bh_15.2.2.1 a0 (cw_k Bh_15.2.2 k0) 5) lb_X11_refuse lv_X11_refuse lk_X11_98 (cw_k Bh_15.2.2 k0) rfl (by decide) rfl hl.1 rfl (Nat.le_of_ble_eq_true rfl) dX11_proves_56 ⟨Nat.le_refl _, Nat.le_refl _⟩) (fun _ _ h => cw_tr Bh_15.2.2 h (by decide)) rfl (fun rh_16 αh_16 Hh_16 Lh_16 ph_16 Bh_16 => ?_)
            exact q_iret C Bh_16 hr hlk Bh_16.2.2 dX11_proves_59
          refine lv_ifnull hx hb dX11_proves_34 (hp_n (n := 37) rfl ?_)
          refine lv_aload hx hb dX11_proves_37 (lv_at hl 0 rfl) (hp_n (n := 39) rfl ?_)
          refine lv_ifnull hx hb dX11_proves_39 (hp_n (n := 42) rfl ?_)
          refine lv_aload_n hx hb dX11_proves_42 rfl (lv_at hl 1 rfl) (hp_n (n := 43) rfl ?_)
          refine q_geti (κ := 2) (k := 1) (φ := 101) (pc' := 46) C Bh_12 (cw_k Bh_12.2.2 kbh_6) fl_X11_207 rfl rfl rfl dX11_proves_43 rfl (fun x_17 ex_17 => ?_)
          refine lv_aload hx hb dX11_proves_46 (lv_at hl 0 rfl) (hp_n (n := 48) rfl ?_)
          refine q_geti (κ := 2) (k := 1) (φ := 101) (pc' := 51) C Bh_12 (cw_k Bh_12.2.2 kbh_12) fl_X11_207 rfl rfl rfl dX11_proves_48 rfl (fun x_18 ex_18 => ?_)
          refine lv_icmp_le (tgt := 60) hx hb dX11_proves_51 (by decide) (fun c_19 => ?_) (fun c_19 => hp_n (n := 54) rfl ?_)
          ·
            have jc_19 := il_le c_19
            refine lv_aload_n hx hb dX11_proves_60 rfl (lv_at hl 2 rfl) (hp_n (n := 61) rfl ?_)
            refine q_gets (κ := 12) (k := 1) (φ := 601) (pc' := 64) C Bh_12 (cw_k Bh_12.2.2 k0) fl_X11_16 rfl rfl rfl eb_5 dX11_proves_61 rfl ?_
            refine lv_aload hx hb dX11_proves_64 (lv_at hl 0 rfl) (hp_n (n := 66) rfl ?_)
            refine q_geti (κ := 2) (k := 0) (φ := 100) (pc' := 69) C Bh_12 (cw_k Bh_12.2.2 kbh_12) fl_X11_202 rfl rfl rfl dX11_proves_66 rfl (fun x_20 ex_20 => ?_)
            refine q_cq (pc' := 72) Bh_12 (hp_runV (As := [.int x_20]) (rest := []) C Bh_12 (t_X10_logAt Γ l α Bh_12.2.2.1 b_5 (cw_k Bh_12.2.2 kb_5) x_20) lb_X10_logAt lv_X10_logAt lk_X11_163 (cw_k Bh_12.2.2 kb_5) rfl (by decide) rfl hl.1 rfl (Nat.le_of_ble_eq_true rfl) dX11_proves_69 ⟨Nat.le_refl _, Nat.le_refl _⟩) (fun _ _ h => by rw [h.1]; exact Bh_12.2.2) rfl (fun rh_21 αh_21 Hh_21 Lh_21 ph_21 Bh_21 => ?_)
            rw [ph_21.1] at Bh_21
            rcases rh_21 with _ | bh_21
            ·
              refine lv_astoreN (lv' := [(5, .null), (4, .ref bh_12), (3, .ref bh_6), (0, .ref a0), (1, .int a1), (2, .int a2)]) hx hb dX11_proves_72 hl (by decide) rfl (fun ls hl => hp_n (n := 74) rfl ?_)
              refine lv_aload_n hx hb dX11_proves_74 rfl (lv_at hl 3 rfl) (hp_n (n := 75) rfl ?_)
              refine lv_aload_n hx hb dX11_proves_75 rfl (lv_at hl 3 rfl) (hp_n (n := 76) rfl ?_)
              refine q_gets (κ := 12) (k := 1) (φ := 601) (pc' := 79) C Bh_21 (cw_k Bh_21.2.2 k0) fl_X11_16 rfl rfl rfl eb_5 dX11_proves_76 rfl ?_
              refine lv_aloadN hx hb dX11_proves_79 (lv_at hl 0 rfl) (hp_n (n := 81) rfl ?_)
              refine lv_aload_n hx hb dX11_proves_81 rfl (lv_at hl 2 rfl) (hp_n (n := 82) rfl ?_)
              refine q_getj (κ := 2) (k := 1) (φ := 101) (pc' := 85) C Bh_21 (cw_k Bh_21.2.2 kbh_6) fl_X11_207 rfl rfl rfl ex_17 dX11_proves_82 rfl ?_
              refine lv_aload_n hx hb dX11_proves_85 rfl (lv_at hl 2 rfl) (hp_n (n := 86) rfl ?_)
              refine q_geti (κ := 2) (k := 2) (φ := 102) (pc' := 89) C Bh_21 (cw_k Bh_21.2.2 kbh_6) fl_X11_210 rfl rfl rfl dX11_proves_86 rfl (fun x_22 ex_22 => ?_)
              refine lv_aload hx hb dX11_proves_89 (lv_at hl 1 rfl) (hp_n (n := 91) rfl ?_)
              refine q_getj (κ := 2) (k := 1) (φ := 101) (pc' := 94) C Bh_21 (cw_k Bh_21.2.2 kbh_12) fl_X11_207 rfl rfl rfl ex_18 dX11_proves_91 rfl ?_
              refine lv_aload hx hb dX11_proves_94 (lv_at hl 1 rfl) (hp_n (n := 96) rfl ?_)
              refine q_geti (κ := 2) (k := 2) (φ := 102) (pc' := 99) C Bh_21 (cw_k Bh_21.2.2 kbh_12) fl_X11_210 rfl rfl rfl dX11_proves_96 rfl (fun x_23 ex_23 => ?_)
              refine q_ci (pc' := 102) Bh_21 (hp_runV (As := [va_rf none, .int x_17, .int x_22, .int x_18, .int x_23]) (rest := [.ref a0]) C Bh_21 (t_X10_whyGrown Γ l α Bh_21.2.2.1 b_5 (cw_k Bh_21.2.2 kb_5) none (fun b h => by cases h) x_17 x_22 x_18 x_23) lb_X10_whyGrown lv_X10_whyGrown lk_X11_342 (cw_k Bh_21.2.2 kb_5) rfl (by decide) rfl hl.1 rfl (Nat.le_of_ble_eq_true rfl) dX11_proves_99 ⟨Nat.le_refl _, Nat.le_refl _⟩) (fun _ _ h => cw_tr Bh_21.2.2 h (by decide)) rfl (fun rh_24 αh_24 Hh_24 Lh_24 ph_24 Bh_24 => ?_)
              refine q_ci (pc' := 105) Bh_24 (hp_runV (As := [.int rh_24]) (rest := []) C Bh_24 (t_X11_answer Γ l αh_24 Bh_24.2.2.1 a0 (cw_k Bh_24.2.2 k0) rh_24) lb_X11_answer lv_X11_answer lk_X11_115 (cw_k Bh_24.2.2 k0) rfl (by decide) rfl hl.1 rfl (Nat.le_of_ble_eq_true rfl) dX11_proves_102 ⟨Nat.le_refl _, Nat.le_refl _⟩) (fun _ _ h => cw_tr Bh_24.2.2 h (by decide)) rfl (fun rh_25 αh_25 Hh_25 Lh_25 ph_25 Bh_25 => ?_)
              exact q_iret C Bh_25 hr hlk Bh_25.2.2 dX11_proves_105
            ·
              have kbh_21 : hp_K α bh_21 = 3 := cw_k' Bh_21.2.2 (ph_21.2 bh_21 rfl)
              refine lv_astore (lv' := [(5, .ref bh_21), (4, .ref bh_12), (3, .ref bh_6), (0, .ref a0), (1, .int a1), (2, .int a2)]) hx hb dX11_proves_72 hl (by decide) rfl (fun ls hl => hp_n (n := 74) rfl ?_)
              refine lv_aload_n hx hb dX11_proves_74 rfl (lv_at hl 3 rfl) (hp_n (n := 75) rfl ?_)
              refine lv_aload_n hx hb dX11_proves_75 rfl (lv_at hl 3 rfl) (hp_n (n := 76) rfl ?_)
              refine q_gets (κ := 12) (k := 1) (φ := 601) (pc' := 79) C Bh_21 (cw_k Bh_21.2.2 k0) fl_X11_16 rfl rfl rfl eb_5 dX11_proves_76 rfl ?_
              refine lv_aload hx hb dX11_proves_79 (lv_at hl 0 rfl) (hp_n (n := 81) rfl ?_)
              refine lv_aload_n hx hb dX11_proves_81 rfl (lv_at hl 2 rfl) (hp_n (n := 82) rfl ?_)
              refine q_getj (κ := 2) (k := 1) (φ := 101) (pc' := 85) C Bh_21 (cw_k Bh_21.2.2 kbh_6) fl_X11_207 rfl rfl rfl ex_17 dX11_proves_82 rfl ?_
              refine lv_aload_n hx hb dX11_proves_85 rfl (lv_at hl 2 rfl) (hp_n (n := 86) rfl ?_)
              refine q_geti (κ := 2) (k := 2) (φ := 102) (pc' := 89) C Bh_21 (cw_k Bh_21.2.2 kbh_6) fl_X11_210 rfl rfl rfl dX11_proves_86 rfl (fun x_26 ex_26 => ?_)
              refine lv_aload hx hb dX11_proves_89 (lv_at hl 1 rfl) (hp_n (n := 91) rfl ?_)
              refine q_getj (κ := 2) (k := 1) (φ := 101) (pc' := 94) C Bh_21 (cw_k Bh_21.2.2 kbh_12) fl_X11_207 rfl rfl rfl ex_18 dX11_proves_91 rfl ?_
              refine lv_aload hx hb dX11_proves_94 (lv_at hl 1 rfl) (hp_n (n := 96) rfl ?_)
              refine q_geti (κ := 2) (k := 2) (φ := 102) (pc' := 99) C Bh_21 (cw_k Bh_21.2.2 kbh_12) fl_X11_210 rfl rfl rfl dX11_proves_96 rfl (fun x_27 ex_27 => ?_)
              refine q_ci (pc' := 102) Bh_21 (hp_runV (As := [va_rf (some bh_21), .int x_17, .int x_26, .int x_18, .int x_27]) (rest := [.ref a0]) C Bh_21 (t_X10_whyGrown Γ l α Bh_21.2.2.1 b_5 (cw_k Bh_21.2.2 kb_5) (some bh_21) (fun b h => by cases h; exact (cw_k Bh_21.2.2 kbh_21)) x_17 x_26 x_18 x_27) lb_X10_whyGrown lv_X10_whyGrown lk_X11_342 (cw_k Bh_21.2.2 kb_5) rfl (by decide) rfl hl.1 rfl (Nat.le_of_ble_eq_true rfl) dX11_proves_99 ⟨Nat.le_refl _, Nat.le_refl _⟩) (fun _ _ h => cw_tr Bh_21.2.2 h (by decide)) rfl (fun rh_28 αh_28 Hh_28 Lh_28 ph_28 Bh_28 => ?_)
              refine q_ci (pc' := 105) Bh_28 (hp_runV (As := [.int rh_28]) (rest := []) C Bh_28 (t_X11_answer Γ l αh_28 Bh_28.2.2.1 a0 (cw_k Bh_28.2.2 k0) rh_28) lb_X11_answer lv_X11_answer lk_X11_115 (cw_k Bh_28.2.2 k0) rfl (by decide) rfl hl.1 rfl (Nat.le_of_ble_eq_true rfl) dX11_proves_102 ⟨Nat.le_refl _, Nat.le_refl _⟩) (fun _ _ h => cw_tr Bh_28.2.2 h (by decide)) rfl (fun rh_29 αh_29 Hh_29 Lh_29 ph_29 Bh_29 => ?_)
              exact q_iret C Bh_29 hr hlk Bh_29.2.2 dX11_proves_105
          ·
            have jc_19 := il_nle c_19
            exact J54 Hh_12 Lh_12 Bh_12 ls (lv_sub hl [2] rfl)
    ·
      have jc_4 := il_nle c_4
      exact J8 s.heap [] B ls (lv_sub hl [0] rfl)
abbrev w_X11_longest : cw_W := ([453, 454, 600], [], [21, 22, 23], [])
set_option maxRecDepth 100000 in
set_option maxHeartbeats 4000000 in
theorem t_X11_longest (Γ : hp_G) (l : Launch) (α : hp_T) (g : GC α) (a0 : Nat) (k0 : hp_K α a0 = 12) (a1 : Int32) (a2 : Int32) : Met l yX11_longest (hp_ws yX11_longest cX11_longest 7 (some .int)) (hp_rm 4 0 0) (hp_Pc Γ α [.ref a0, .int a1, .int a2]) (hp_Qi Γ (fun r β => cw w_X11_longest α β)) 0 0 (hp_A Γ) := by
  refine hp_start (by decide) ?_
  intro p e s m below meth c C hr hlk B0 hnm
  have C : hp_C Γ p m c cX11_longest 7 s ([.ref a0, .int a1, .int a2] : List Value).toArray RX11 := C
  have hx := C.1.1
  have hb := C.1.2.1
  have hown := C.1.2.2.2.1
  have hts := C.1.2.2.2.2
  have B : hp_B Γ (cw w_X11_longest) s α α s.heap [] := ⟨B0.1, B0.2.1, cw_rf g⟩
  have lit0 : (0 : Int32).toInt = 0 := by decide
  have lit1 : (1 : Int32).toInt = 1 := by decide
  have lit2 : (2 : Int32).toInt = 2 := by decide
  have lit512 : (512 : Int32).toInt = 512 := by decide
  have hl := lv_entry ([.ref a0, .int a1, .int a2]) (n := 7) (Nat.le_of_ble_eq_true rfl)
  show W p l e (hp_rm 4 0 0) s m ([.ref a0, .int a1, .int a2] : List Value).toArray below meth c s.heap [] 0 0 (MQ below (hp_Qi Γ (fun r β => cw w_X11_longest α β)) ([.ref a0, .int a1, .int a2] : List Value).toArray s 0 0 (hp_A Γ)) (entryFrame m ([.ref a0, .int a1, .int a2] : List Value).toArray 7)
  rw [lg_entry_eq]
  generalize (lg_sl ([.ref a0, .int a1, .int a2]) ++ List.replicate (7 - (lg_sl ([.ref a0, .int a1, .int a2])).length) Slot.unset).toArray = ls at hl ⊢
  have hl : lv_has ls 7 [(0, .ref a0), (1, .int a1), (2, .int a2)] := hl
  refine lv_iload_n hx hb dX11_longest_0 rfl (lv_at hl 1 rfl) (hp_n (n := 1) rfl ?_)
  refine lv_iconst (v := 1) hx hb dX11_longest_1 (by decide) (hp_n (n := 2) rfl ?_)
  have J21 : ∀ (Hh_1 : Heap) (Lh_1 : List Loc) (Bh_1 : hp_B Γ (cw w_X11_longest) s α α Hh_1 Lh_1) (ls : Array Slot) (hl : lv_has ls 7 [(0, .ref a0)]), W p l e (hp_rm 4 0 0) s m ([.ref a0, .int a1, .int a2] : List Value).toArray below meth c Hh_1 Lh_1 0 0 (MQ below (hp_Qi Γ (fun r β => cw w_X11_longest α β)) ([.ref a0, .int a1, .int a2] : List Value).toArray s 0 0 (hp_A Γ)) (F0 m 21 ls []) := by
    intro Hh_1 Lh_1 Bh_1 ls hl
    refine lv_aload_n hx hb dX11_longest_21 rfl (lv_at hl 0 rfl) (hp_n (n := 22) rfl ?_)
    refine lv_iconst (v := 1) hx hb dX11_longest_22 (by decide) (hp_n (n := 23) rfl ?_)
    refine q_ci (pc' := 26) Bh_1 (hp_runV (As := [.int 1]) (rest := []) C Bh_1 (t_X11_refuse Γ l α Bh_1.2.2.1 a0 (cw_k Bh_1.2.2 k0) 1) lb_X11_refuse lv_X11_refuse lk_X11_98 (cw_k Bh_1.2.2 k0) rfl (by decide) rfl hl.1 rfl (Nat.le_of_ble_eq_true rfl) dX11_longest_23 ⟨Nat.le_refl _, Nat.le_refl _⟩) (fun _ _ h => cw_tr Bh_1.2.2 h (by decide)) rfl (fun rh_2 αh_2 Hh_2 Lh_2 ph_2 Bh_2 => ?_)
    exact q_iret C Bh_2 hr hlk Bh_2.2.2 dX11_longest_26
  refine lv_icmp_lt (tgt := 21) hx hb dX11_longest_2 (by decide) (fun c_3 => ?_) (fun c_3 => hp_n (n := 5) rfl ?_)
  ·
    have jc_3 := il_lt c_3
    exact J21 s.heap [] B ls (lv_sub hl [0] rfl)
  ·
    have jc_3 := il_nlt c_3
    refine lv_iload_n hx hb dX11_longest_5 rfl (lv_at hl 1 rfl) (hp_n (n := 6) rfl ?_)
    refine lv_sipush (v := 512) hx hb dX11_longest_6 (by decide) (hp_n (n := 9) rfl ?_)
    refine lv_icmp_gt (tgt := 21) hx hb dX11_longest_9 (by decide) (fun c_4 => ?_) (fun c_4 => hp_n (n := 12) rfl ?_)
    ·
      have jc_4 := il_lt c_4
      exact J21 s.heap [] B ls (lv_sub hl [0] rfl)
    ·
      have jc_4 := il_nlt c_4
      refine lv_iload_n hx hb dX11_longest_12 rfl (lv_at hl 2 rfl) (hp_n (n := 13) rfl ?_)
      refine lv_if_lt (tgt := 21) hx hb dX11_longest_13 (by decide) (fun c_5 => ?_) (fun c_5 => hp_n (n := 16) rfl ?_)
      ·
        have jc_5 := il_lt c_5
        exact J21 s.heap [] B ls (lv_sub hl [0] rfl)
      ·
        have jc_5 := il_nlt c_5
        refine lv_iload_n hx hb dX11_longest_16 rfl (lv_at hl 2 rfl) (hp_n (n := 17) rfl ?_)
        refine lv_iconst (v := 2) hx hb dX11_longest_17 (by decide) (hp_n (n := 18) rfl ?_)
        refine lv_icmp_le (tgt := 27) hx hb dX11_longest_18 (by decide) (fun c_6 => ?_) (fun c_6 => hp_n (n := 21) rfl ?_)
        ·
          have jc_6 := il_le c_6
          refine lv_iconst (v := 0) hx hb dX11_longest_27 (by decide) (hp_n (n := 28) rfl ?_)
          refine lv_istore_n (lv' := [(3, .int 0), (0, .ref a0), (1, .int a1), (2, .int a2)]) hx hb dX11_longest_28 rfl hl (by decide) rfl (fun ls hl => hp_n (n := 29) rfl ?_)
          refine lv_iconst (v := 0) hx hb dX11_longest_29 (by decide) (hp_n (n := 30) rfl ?_)
          refine lv_istore (lv' := [(4, .int 0), (3, .int 0), (0, .ref a0), (1, .int a1), (2, .int a2)]) hx hb dX11_longest_30 hl (by decide) rfl (fun ls hl => hp_n (n := 32) rfl ?_)
          refine lv_iconst (v := 0) hx hb dX11_longest_32 (by decide) (hp_n (n := 33) rfl ?_)
          refine lv_istore (lv' := [(5, .int 0), (4, .int 0), (3, .int 0), (0, .ref a0), (1, .int a1), (2, .int a2)]) hx hb dX11_longest_33 hl (by decide) rfl (fun ls hl => hp_n (n := 35) rfl ?_)
          refine lv_iconst (v := 0) hx hb dX11_longest_35 (by decide) (hp_n (n := 36) rfl ?_)
          have J38 : ∀ (nq : Nat) (αh_7 : hp_T) (Hh_7 : Heap) (Lh_7 : List Loc) (Bh_7 : hp_B Γ (cw w_X11_longest) s α αh_7 Hh_7 Lh_7) (v3_h_7 : Int32) (v4_h_7 : Int32) (v5_h_7 : Int32) (v6_h_7 : Int32) (ih_7_0 : 0 ≤ v6_h_7.toInt) (ls : Array Slot) (hl : lv_has ls 7 [(0, .ref a0), (1, .int a1), (2, .int a2), (3, .int v3_h_7), (4, .int v4_h_7), (5, .int v5_h_7), (6, .int v6_h_7)]) (hmu38 : (2147483647 - v6_h_7.toInt).toNat = nq), W p l e (hp_rm 4 0 0) s m ([.ref a0, .int a1, .int a2] : List Value).toArray below meth c Hh_7 Lh_7 0 0 (MQ below (hp_Qi Γ (fun r β => cw w_X11_longest α β)) ([.ref a0, .int a1, .int a2] : List Value).toArray s 0 0 (hp_A Γ)) (F0 m 38 ls []) := by
            intro nq
            induction nq using Nat.strongRecOn with
            | ind nq ih38 =>
            intro αh_7 Hh_7 Lh_7 Bh_7 v3_h_7 v4_h_7 v5_h_7 v6_h_7 ih_7_0 ls hl hmu38
            have inv38_0 := ih_7_0
            refine lv_iload hx hb dX11_longest_38 (lv_at hl 6 rfl) (hp_n (n := 40) rfl ?_)
            refine lv_iload_n hx hb dX11_longest_40 rfl (lv_at hl 1 rfl) (hp_n (n := 41) rfl ?_)
            refine lv_icmp_ge (tgt := 95) hx hb dX11_longest_41 (by decide) (fun c_8 => ?_) (fun c_8 => hp_n (n := 44) rfl ?_)
            ·
              have jc_8 := il_le c_8
              refine lv_iload_n hx hb dX11_longest_95 rfl (lv_at hl 2 rfl) (hp_n (n := 96) rfl ?_)
              refine lv_if_ne (tgt := 105) hx hb dX11_longest_96 (by decide) (fun c_9 => ?_) (fun c_9 => hp_n (n := 99) rfl ?_)
              ·
                have jc_9 := il_ne c_9
                refine lv_aload_n hx hb dX11_longest_105 rfl (lv_at hl 0 rfl) (hp_n (n := 106) rfl ?_)
                refine lv_iload_n hx hb dX11_longest_106 rfl (lv_at hl 2 rfl) (hp_n (n := 107) rfl ?_)
                refine lv_iconst (v := 1) hx hb dX11_longest_107 (by decide) (hp_n (n := 108) rfl ?_)
                refine lv_icmp_ne (tgt := 116) hx hb dX11_longest_108 (by decide) (fun c_10 => ?_) (fun c_10 => hp_n (n := 111) rfl ?_)
                ·
                  have jc_10 := il_ne c_10
                  refine lv_iload hx hb dX11_longest_116 (lv_at hl 5 rfl) (hp_n (n := 118) rfl ?_)
                  refine q_ci (pc' := 121) Bh_7 (hp_runV (As := [.int v5_h_7]) (rest := []) C Bh_7 (t_X11_answer Γ l αh_7 Bh_7.2.2.1 a0 (cw_k Bh_7.2.2 k0) v5_h_7) lb_X11_answer lv_X11_answer lk_X11_115 (cw_k Bh_7.2.2 k0) rfl (by decide) rfl hl.1 rfl (Nat.le_of_ble_eq_true rfl) dX11_longest_118 ⟨Nat.le_refl _, Nat.le_refl _⟩) (fun _ _ h => cw_tr Bh_7.2.2 h (by decide)) rfl (fun rh_11 αh_11 Hh_11 Lh_11 ph_11 Bh_11 => ?_)
                  exact q_iret C Bh_11 hr hlk Bh_11.2.2 dX11_longest_121
                ·
                  have jc_10 := il_eq c_10
                  refine lv_iload hx hb dX11_longest_111 (lv_at hl 4 rfl) (hp_n (n := 113) rfl ?_)
                  refine lv_goto (tgt := 118) hx hb dX11_longest_113 (by decide) ?_
                  refine q_ci (pc' := 121) Bh_7 (hp_runV (As := [.int v4_h_7]) (rest := []) C Bh_7 (t_X11_answer Γ l αh_7 Bh_7.2.2.1 a0 (cw_k Bh_7.2.2 k0) v4_h_7) lb_X11_answer lv_X11_answer lk_X11_115 (cw_k Bh_7.2.2 k0) rfl (by decide) rfl hl.1 rfl (Nat.le_of_ble_eq_true rfl) dX11_longest_118 ⟨Nat.le_refl _, Nat.le_refl _⟩) (fun _ _ h => cw_tr Bh_7.2.2 h (by decide)) rfl (fun rh_12 αh_12 Hh_12 Lh_12 ph_12 Bh_12 => ?_)
                  exact q_iret C Bh_12 hr hlk Bh_12.2.2 dX11_longest_121
              ·
                have jc_9 := il_eq c_9
                refine lv_aload_n hx hb dX11_longest_99 rfl (lv_at hl 0 rfl) (hp_n (n := 100) rfl ?_)
                refine lv_iload_n hx hb dX11_longest_100 rfl (lv_at hl 3 rfl) (hp_n (n := 101) rfl ?_)
                refine q_ci (pc' := 104) Bh_7 (hp_runV (As := [.int v3_h_7]) (rest := []) C Bh_7 (t_X11_answer Γ l αh_7 Bh_7.2.2.1 a0 (cw_k Bh_7.2.2 k0) v3_h_7) lb_X11_answer lv_X11_answer lk_X11_115 (cw_k Bh_7.2.2 k0) rfl (by decide) rfl hl.1 rfl (Nat.le_of_ble_eq_true rfl) dX11_longest_101 ⟨Nat.le_refl _, Nat.le_refl _⟩) (fun _ _ h => cw_tr Bh_7.2.2 h (by decide)) rfl (fun rh_13 αh_13 Hh_13 Lh_13 ph_13 Bh_13 => ?_)
                exact q_iret C Bh_13 hr hlk Bh_13.2.2 dX11_longest_104
            ·
              have jc_8 := il_nle c_8
              refine lv_aload_n hx hb dX11_longest_44 rfl (lv_at hl 0 rfl) (hp_n (n := 45) rfl ?_)
              refine q_getr (κ := 12) (k := 12) (φ := 612) (pc' := 48) C Bh_7 (cw_k Bh_7.2.2 k0) fl_X11_62 rfl rfl rfl (cw_r Bh_7.2.2 k0 rfl rfl (by decide) (by decide)) dX11_longest_45 rfl (fun b_14 eb_14 kb_14 => ?_)
              refine lv_iload hx hb dX11_longest_48 (lv_at hl 6 rfl) (hp_n (n := 50) rfl ?_)
              refine lv_iload_n hx hb dX11_longest_50 rfl (lv_at hl 1 rfl) (hp_n (n := 51) rfl ?_)
              refine q_cv (pc' := 54) Bh_7 (hp_runV (As := [.int v6_h_7, .int a1]) (rest := []) C Bh_7 (t_X8_toThing Γ l αh_7 Bh_7.2.2.1 b_14 (cw_k Bh_7.2.2 kb_14) v6_h_7 a1) lb_X8_toThing lv_X8_toThing lk_X11_267 (cw_k Bh_7.2.2 kb_14) rfl (by decide) rfl hl.1 rfl (Nat.le_of_ble_eq_true rfl) dX11_longest_51 ⟨Nat.le_refl _, Nat.le_refl _⟩) (fun _ h => cw_tr Bh_7.2.2 h (by decide)) rfl (fun αh_15 Hh_15 Lh_15 ph_15 Bh_15 => ?_)
              refine lv_iload hx hb dX11_longest_54 (lv_at hl 5 rfl) (hp_n (n := 56) rfl ?_)
              refine lv_aload_n hx hb dX11_longest_56 rfl (lv_at hl 0 rfl) (hp_n (n := 57) rfl ?_)
              have t_16 : b_14 = hp_R αh_15 612 a0 := by rw [cw_R ph_15 a0 (by decide)]; exact eb_14
              refine q_gets (κ := 12) (k := 12) (φ := 612) (pc' := 60) C Bh_15 (cw_k Bh_15.2.2 k0) fl_X11_62 rfl rfl rfl t_16 dX11_longest_57 rfl ?_
              refine q_geti (κ := 9) (k := 3) (φ := 453) (pc' := 63) C Bh_15 (cw_k Bh_15.2.2 kb_14) fl_X11_312 rfl rfl rfl dX11_longest_60 rfl (fun x_17 ex_17 => ?_)
              obtain ⟨gx_17a, gx_17b⟩ : 0 ≤ x_17.toInt ∧ x_17.toInt ≤ 64 := by rw [ex_17]; exact Bh_15.2.2.1.1 453 b_14 rfl
              refine lv_iadd hx hb dX11_longest_63 (hp_n (n := 64) rfl (lv_topi (fun x_18 ex_18 => ?_)))
              refine lv_istore (lv' := [(5, .int x_18), (0, .ref a0), (1, .int a1), (2, .int a2), (3, .int v3_h_7), (4, .int v4_h_7), (6, .int v6_h_7)]) hx hb dX11_longest_64 hl (by decide) rfl (fun ls hl => hp_n (n := 66) rfl ?_)
              refine lv_aload_n hx hb dX11_longest_66 rfl (lv_at hl 1 rfl) (hp_n (n := 67) rfl ?_)
              refine q_gets (κ := 12) (k := 12) (φ := 612) (pc' := 70) C Bh_15 (cw_k Bh_15.2.2 k0) fl_X11_62 rfl rfl rfl t_16 dX11_longest_67 rfl ?_
              refine q_getj (κ := 9) (k := 3) (φ := 453) (pc' := 73) C Bh_15 (cw_k Bh_15.2.2 kb_14) fl_X11_312 rfl rfl rfl ex_17 dX11_longest_70 rfl ?_
              refine lv_iload_n hx hb dX11_longest_73 rfl (lv_at hl 4 rfl) (hp_n (n := 74) rfl ?_)
              refine lv_icmp_le (tgt := 89) hx hb dX11_longest_74 (by decide) (fun c_19 => ?_) (fun c_19 => hp_n (n := 77) rfl ?_)
              ·
                have jc_19 := il_le c_19
                obtain ⟨x_20, ex_20⟩ : ∃ y : Int32, y = v6_h_7 + 1 := ⟨_, rfl⟩
                have qx_20 : x_20.toInt = v6_h_7.toInt + 1 := by have q0 := ib_hi a1; have qa := ib_lo v6_h_7; rw [ex_20]; exact ii_add (by omega) (by omega)
                refine lv_iinc (v := x_20) (lv' := [(6, .int x_20), (5, .int x_18), (0, .ref a0), (1, .int a1), (2, .int a2), (3, .int v3_h_7), (4, .int v4_h_7)]) hx hb dX11_longest_89 hl (k := 6) rfl (by rw [ex_20]; rfl) (by decide) rfl (fun ls hl => hp_n (n := 92) rfl ?_)
                refine lv_goto (tgt := 38) hx hb dX11_longest_92 (by decide) ?_
                exact ih38 _ (by have q0 := ib_hi a1; have q1 := ib_lo a1; have qa := ib_hi v6_h_7; have qb := ib_lo v6_h_7; have qc : (v6_h_7 + 1).toInt = v6_h_7.toInt + (1 : Int32).toInt := ii_add (by omega) (by omega); rw [ex_20]; omega) αh_15 Hh_15 Lh_15 Bh_15 v3_h_7 v4_h_7 x_18 x_20 (by omega) ls (lv_sub hl [2, 3, 4, 5, 6, 1, 0] rfl) rfl
              ·
                have jc_19 := il_nle c_19
                refine lv_aload_n hx hb dX11_longest_77 rfl (lv_at hl 1 rfl) (hp_n (n := 78) rfl ?_)
                refine q_gets (κ := 12) (k := 12) (φ := 612) (pc' := 81) C Bh_15 (cw_k Bh_15.2.2 k0) fl_X11_62 rfl rfl rfl t_16 dX11_longest_78 rfl ?_
                refine q_getj (κ := 9) (k := 3) (φ := 453) (pc' := 84) C Bh_15 (cw_k Bh_15.2.2 kb_14) fl_X11_312 rfl rfl rfl ex_17 dX11_longest_81 rfl ?_
                refine lv_istore_n (lv' := [(3, .int x_17), (5, .int x_18), (0, .ref a0), (1, .int a1), (2, .int a2), (4, .int v4_h_7), (6, .int v6_h_7)]) hx hb dX11_longest_84 rfl hl (by decide) rfl (fun ls hl => hp_n (n := 85) rfl ?_)
                refine lv_iload hx hb dX11_longest_85 (lv_at hl 6 rfl) (hp_n (n := 87) rfl ?_)
                refine lv_istore (lv' := [(4, .int v6_h_7), (3, .int x_17), (5, .int x_18), (0, .ref a0), (1, .int a1), (2, .int a2), (6, .int v6_h_7)]) hx hb dX11_longest_87 hl (by decide) rfl (fun ls hl => hp_n (n := 89) rfl ?_)
                obtain ⟨x_21, ex_21⟩ : ∃ y : Int32, y = v6_h_7 + 1 := ⟨_, rfl⟩
                have qx_21 : x_21.toInt = v6_h_7.toInt + 1 := by have q0 := ib_hi a1; have qa := ib_lo v6_h_7; rw [ex_21]; exact ii_add (by omega) (by omega)
                refine lv_iinc (v := x_21) (lv' := [(6, .int x_21), (4, .int v6_h_7), (3, .int x_17), (5, .int x_18), (0, .ref a0), (1, .int a1), (2, .int a2)]) hx hb dX11_longest_89 hl (k := 6) rfl (by rw [ex_21]; rfl) (by decide) rfl (fun ls hl => hp_n (n := 92) rfl ?_)
                refine lv_goto (tgt := 38) hx hb dX11_longest_92 (by decide) ?_
                exact ih38 _ (by have q0 := ib_hi a1; have q1 := ib_lo a1; have qa := ib_hi v6_h_7; have qb := ib_lo v6_h_7; have qc : (v6_h_7 + 1).toInt = v6_h_7.toInt + (1 : Int32).toInt := ii_add (by omega) (by omega); rw [ex_21]; omega) αh_15 Hh_15 Lh_15 Bh_15 x_17 v6_h_7 x_18 x_21 (by omega) ls (lv_sub hl [4, 5, 6, 2, 1, 3, 0] rfl) rfl
          refine lv_istore (lv' := [(6, .int 0), (5, .int 0), (4, .int 0), (3, .int 0), (0, .ref a0), (1, .int a1), (2, .int a2)]) hx hb dX11_longest_36 hl (by decide) rfl (fun ls hl => hp_n (n := 38) rfl ?_)
          exact J38 _ α s.heap [] B 0 0 0 0 (by omega) ls (lv_sub hl [4, 5, 6, 3, 2, 1, 0] rfl) rfl
        ·
          have jc_6 := il_nle c_6
          exact J21 s.heap [] B ls (lv_sub hl [0] rfl)
abbrev w_X11_part : cw_W := ([600], [], [33], [])
set_option maxRecDepth 100000 in
set_option maxHeartbeats 4000000 in
theorem t_X11_part (Γ : hp_G) (l : Launch) (α : hp_T) (g : GC α) (a0 : Nat) (k0 : hp_K α a0 = 12) (a1 : Int32) (a2 : Int32) (a3 : Int32) : Met l yX11_part (hp_ws yX11_part cX11_part 6 (some .int)) (hp_rm 5 0 0) (hp_Pc Γ α [.ref a0, .int a1, .int a2, .int a3]) (hp_Qi Γ (fun r β => cw w_X11_part α β)) 0 0 (hp_A Γ) := by
  refine hp_start (by decide) ?_
  intro p e s m below meth c C hr hlk B0 hnm
  have C : hp_C Γ p m c cX11_part 6 s ([.ref a0, .int a1, .int a2, .int a3] : List Value).toArray RX11 := C
  have hx := C.1.1
  have hb := C.1.2.1
  have hown := C.1.2.2.2.1
  have hts := C.1.2.2.2.2
  have B : hp_B Γ (cw w_X11_part) s α α s.heap [] := ⟨B0.1, B0.2.1, cw_rf g⟩
  have lit0 : (0 : Int32).toInt = 0 := by decide
  have lit1 : (1 : Int32).toInt = 1 := by decide
  have lit2 : (2 : Int32).toInt = 2 := by decide
  have hl := lv_entry ([.ref a0, .int a1, .int a2, .int a3]) (n := 6) (Nat.le_of_ble_eq_true rfl)
  show W p l e (hp_rm 5 0 0) s m ([.ref a0, .int a1, .int a2, .int a3] : List Value).toArray below meth c s.heap [] 0 0 (MQ below (hp_Qi Γ (fun r β => cw w_X11_part α β)) ([.ref a0, .int a1, .int a2, .int a3] : List Value).toArray s 0 0 (hp_A Γ)) (entryFrame m ([.ref a0, .int a1, .int a2, .int a3] : List Value).toArray 6)
  rw [lg_entry_eq]
  generalize (lg_sl ([.ref a0, .int a1, .int a2, .int a3]) ++ List.replicate (6 - (lg_sl ([.ref a0, .int a1, .int a2, .int a3])).length) Slot.unset).toArray = ls at hl ⊢
  have hl : lv_has ls 6 [(0, .ref a0), (1, .int a1), (2, .int a2), (3, .int a3)] := hl
  refine lv_iload_n hx hb dX11_part_0 rfl (lv_at hl 3 rfl) (hp_n (n := 1) rfl ?_)
  have J9 : ∀ (Hh_1 : Heap) (Lh_1 : List Loc) (Bh_1 : hp_B Γ (cw w_X11_part) s α α Hh_1 Lh_1) (ls : Array Slot) (hl : lv_has ls 6 [(0, .ref a0)]), W p l e (hp_rm 5 0 0) s m ([.ref a0, .int a1, .int a2, .int a3] : List Value).toArray below meth c Hh_1 Lh_1 0 0 (MQ below (hp_Qi Γ (fun r β => cw w_X11_part α β)) ([.ref a0, .int a1, .int a2, .int a3] : List Value).toArray s 0 0 (hp_A Γ)) (F0 m 9 ls []) := by
    intro Hh_1 Lh_1 Bh_1 ls hl
    refine lv_aload_n hx hb dX11_part_9 rfl (lv_at hl 0 rfl) (hp_n (n := 10) rfl ?_)
    refine lv_iconst (v := 1) hx hb dX11_part_10 (by decide) (hp_n (n := 11) rfl ?_)
    refine q_ci (pc' := 14) Bh_1 (hp_runV (As := [.int 1]) (rest := []) C Bh_1 (t_X11_refuse Γ l α Bh_1.2.2.1 a0 (cw_k Bh_1.2.2 k0) 1) lb_X11_refuse lv_X11_refuse lk_X11_98 (cw_k Bh_1.2.2 k0) rfl (by decide) rfl hl.1 rfl (Nat.le_of_ble_eq_true rfl) dX11_part_11 ⟨Nat.le_refl _, Nat.le_refl _⟩) (fun _ _ h => cw_tr Bh_1.2.2 h (by decide)) rfl (fun rh_2 αh_2 Hh_2 Lh_2 ph_2 Bh_2 => ?_)
    exact q_iret C Bh_2 hr hlk Bh_2.2.2 dX11_part_14
  refine lv_if_lt (tgt := 9) hx hb dX11_part_1 (by decide) (fun c_3 => ?_) (fun c_3 => hp_n (n := 4) rfl ?_)
  ·
    have jc_3 := il_lt c_3
    exact J9 s.heap [] B ls (lv_sub hl [0] rfl)
  ·
    have jc_3 := il_nlt c_3
    refine lv_iload_n hx hb dX11_part_4 rfl (lv_at hl 3 rfl) (hp_n (n := 5) rfl ?_)
    refine lv_iconst (v := 1) hx hb dX11_part_5 (by decide) (hp_n (n := 6) rfl ?_)
    refine lv_icmp_le (tgt := 15) hx hb dX11_part_6 (by decide) (fun c_4 => ?_) (fun c_4 => hp_n (n := 9) rfl ?_)
    ·
      have jc_4 := il_le c_4
      refine lv_aload_n hx hb dX11_part_15 rfl (lv_at hl 0 rfl) (hp_n (n := 16) rfl ?_)
      refine q_getr (κ := 12) (k := 1) (φ := 601) (pc' := 19) C B (cw_k B.2.2 k0) fl_X11_16 rfl rfl rfl (cw_r B.2.2 k0 rfl rfl (by decide) (by decide)) dX11_part_16 rfl (fun b_5 eb_5 kb_5 => ?_)
      refine lv_iload_n hx hb dX11_part_19 rfl (lv_at hl 1 rfl) (hp_n (n := 20) rfl ?_)
      refine q_cq (pc' := 23) B (hp_runV (As := [.int a1]) (rest := []) C B (t_X10_logAt Γ l α B.2.2.1 b_5 (cw_k B.2.2 kb_5) a1) lb_X10_logAt lv_X10_logAt lk_X11_163 (cw_k B.2.2 kb_5) rfl (by decide) rfl hl.1 rfl (Nat.le_of_ble_eq_true rfl) dX11_part_20 ⟨Nat.le_refl _, Nat.le_refl _⟩) (fun _ _ h => by rw [h.1]; exact B.2.2) rfl (fun rh_6 αh_6 Hh_6 Lh_6 ph_6 Bh_6 => ?_)
      rw [ph_6.1] at Bh_6
      rcases rh_6 with _ | bh_6
      ·
        refine lv_astoreN (lv' := [(4, .null), (0, .ref a0), (1, .int a1), (2, .int a2), (3, .int a3)]) hx hb dX11_part_23 hl (by decide) rfl (fun ls hl => hp_n (n := 25) rfl ?_)
        refine lv_aload_n hx hb dX11_part_25 rfl (lv_at hl 1 rfl) (hp_n (n := 26) rfl ?_)
        refine q_gets (κ := 12) (k := 1) (φ := 601) (pc' := 29) C Bh_6 (cw_k Bh_6.2.2 k0) fl_X11_16 rfl rfl rfl eb_5 dX11_part_26 rfl ?_
        refine lv_iload_n hx hb dX11_part_29 rfl (lv_at hl 3 rfl) (hp_n (n := 30) rfl ?_)
        refine q_cq (pc' := 33) Bh_6 (hp_runV (As := [.int a2]) (rest := []) C Bh_6 (t_X10_logAt Γ l α Bh_6.2.2.1 b_5 (cw_k Bh_6.2.2 kb_5) a2) lb_X10_logAt lv_X10_logAt lk_X11_163 (cw_k Bh_6.2.2 kb_5) rfl (by decide) rfl hl.1 rfl (Nat.le_of_ble_eq_true rfl) dX11_part_30 ⟨Nat.le_refl _, Nat.le_refl _⟩) (fun _ _ h => by rw [h.1]; exact Bh_6.2.2) rfl (fun rh_7 αh_7 Hh_7 Lh_7 ph_7 Bh_7 => ?_)
        rw [ph_7.1] at Bh_7
        rcases rh_7 with _ | bh_7
        ·
          refine lv_astoreN (lv' := [(5, .null), (4, .null), (0, .ref a0), (1, .int a1), (2, .int a2), (3, .int a3)]) hx hb dX11_part_33 hl (by decide) rfl (fun ls hl => hp_n (n := 35) rfl ?_)
          refine lv_aloadN hx hb dX11_part_35 (lv_at hl 1 rfl) (hp_n (n := 37) rfl ?_)
          have J45 : ∀ (Hh_8 : Heap) (Lh_8 : List Loc) (Bh_8 : hp_B Γ (cw w_X11_part) s α α Hh_8 Lh_8) (ls : Array Slot) (hl : lv_has ls 6 [(0, .ref a0)]), W p l e (hp_rm 5 0 0) s m ([.ref a0, .int a1, .int a2, .int a3] : List Value).toArray below meth c Hh_8 Lh_8 0 0 (MQ below (hp_Qi Γ (fun r β => cw w_X11_part α β)) ([.ref a0, .int a1, .int a2, .int a3] : List Value).toArray s 0 0 (hp_A Γ)) (F0 m 45 ls []) := by
            intro Hh_8 Lh_8 Bh_8 ls hl
            refine lv_aload_n hx hb dX11_part_45 rfl (lv_at hl 0 rfl) (hp_n (n := 46) rfl ?_)
            refine lv_iconst (v := 2) hx hb dX11_part_46 (by decide) (hp_n (n := 47) rfl ?_)
            refine q_ci (pc' := 50) Bh_8 (hp_runV (As := [.int 2]) (rest := []) C Bh_8 (t_X11_refuse Γ l α Bh_8.2.2.1 a0 (cw_k Bh_8.2.2 k0) 2) lb_X11_refuse lv_X11_refuse lk_X11_98 (cw_k Bh_8.2.2 k0) rfl (by decide) rfl hl.1 rfl (Nat.le_of_ble_eq_true rfl) dX11_part_47 ⟨Nat.le_refl _, Nat.le_refl _⟩) (fun _ _ h => cw_tr Bh_8.2.2 h (by decide)) rfl (fun rh_9 αh_9 Hh_9 Lh_9 ph_9 Bh_9 => ?_)
            exact q_iret C Bh_9 hr hlk Bh_9.2.2 dX11_part_50
          refine lv_ifnullN (tgt := 45) hx hb dX11_part_37 (by decide) ?_
          exact J45 Hh_7 Lh_7 Bh_7 ls (lv_sub hl [2] rfl)
        ·
          have kbh_7 : hp_K α bh_7 = 3 := cw_k' Bh_7.2.2 (ph_7.2 bh_7 rfl)
          refine lv_astore (lv' := [(5, .ref bh_7), (4, .null), (0, .ref a0), (1, .int a1), (2, .int a2), (3, .int a3)]) hx hb dX11_part_33 hl (by decide) rfl (fun ls hl => hp_n (n := 35) rfl ?_)
          refine lv_aloadN hx hb dX11_part_35 (lv_at hl 1 rfl) (hp_n (n := 37) rfl ?_)
          have J45 : ∀ (Hh_10 : Heap) (Lh_10 : List Loc) (Bh_10 : hp_B Γ (cw w_X11_part) s α α Hh_10 Lh_10) (ls : Array Slot) (hl : lv_has ls 6 [(0, .ref a0)]), W p l e (hp_rm 5 0 0) s m ([.ref a0, .int a1, .int a2, .int a3] : List Value).toArray below meth c Hh_10 Lh_10 0 0 (MQ below (hp_Qi Γ (fun r β => cw w_X11_part α β)) ([.ref a0, .int a1, .int a2, .int a3] : List Value).toArray s 0 0 (hp_A Γ)) (F0 m 45 ls []) := by
            intro Hh_10 Lh_10 Bh_10 ls hl
            refine lv_aload_n hx hb dX11_part_45 rfl (lv_at hl 0 rfl) (hp_n (n := 46) rfl ?_)
            refine lv_iconst (v := 2) hx hb dX11_part_46 (by decide) (hp_n (n := 47) rfl ?_)
            refine q_ci (pc' := 50) Bh_10 (hp_runV (As := [.int 2]) (rest := []) C Bh_10 (t_X11_refuse Γ l α Bh_10.2.2.1 a0 (cw_k Bh_10.2.2 k0) 2) lb_X11_refuse lv_X11_refuse lk_X11_98 (cw_k Bh_10.2.2 k0) rfl (by decide) rfl hl.1 rfl (Nat.le_of_ble_eq_true rfl) dX11_part_47 ⟨Nat.le_refl _, Nat.le_refl _⟩) (fun _ _ h => cw_tr Bh_10.2.2 h (by decide)) rfl (fun rh_11 αh_11 Hh_11 Lh_11 ph_11 Bh_11 => ?_)
            exact q_iret C Bh_11 hr hlk Bh_11.2.2 dX11_part_50
          refine lv_ifnullN (tgt := 45) hx hb dX11_part_37 (by decide) ?_
          exact J45 Hh_7 Lh_7 Bh_7 ls (lv_sub hl [2] rfl)
      ·
        have kbh_6 : hp_K α bh_6 = 3 := cw_k' Bh_6.2.2 (ph_6.2 bh_6 rfl)
        refine lv_astore (lv' := [(4, .ref bh_6), (0, .ref a0), (1, .int a1), (2, .int a2), (3, .int a3)]) hx hb dX11_part_23 hl (by decide) rfl (fun ls hl => hp_n (n := 25) rfl ?_)
        refine lv_aload_n hx hb dX11_part_25 rfl (lv_at hl 1 rfl) (hp_n (n := 26) rfl ?_)
        refine q_gets (κ := 12) (k := 1) (φ := 601) (pc' := 29) C Bh_6 (cw_k Bh_6.2.2 k0) fl_X11_16 rfl rfl rfl eb_5 dX11_part_26 rfl ?_
        refine lv_iload_n hx hb dX11_part_29 rfl (lv_at hl 3 rfl) (hp_n (n := 30) rfl ?_)
        refine q_cq (pc' := 33) Bh_6 (hp_runV (As := [.int a2]) (rest := []) C Bh_6 (t_X10_logAt Γ l α Bh_6.2.2.1 b_5 (cw_k Bh_6.2.2 kb_5) a2) lb_X10_logAt lv_X10_logAt lk_X11_163 (cw_k Bh_6.2.2 kb_5) rfl (by decide) rfl hl.1 rfl (Nat.le_of_ble_eq_true rfl) dX11_part_30 ⟨Nat.le_refl _, Nat.le_refl _⟩) (fun _ _ h => by rw [h.1]; exact Bh_6.2.2) rfl (fun rh_12 αh_12 Hh_12 Lh_12 ph_12 Bh_12 => ?_)
        rw [ph_12.1] at Bh_12
        rcases rh_12 with _ | bh_12
        ·
          refine lv_astoreN (lv' := [(5, .null), (4, .ref bh_6), (0, .ref a0), (1, .int a1), (2, .int a2), (3, .int a3)]) hx hb dX11_part_33 hl (by decide) rfl (fun ls hl => hp_n (n := 35) rfl ?_)
          refine lv_aload hx hb dX11_part_35 (lv_at hl 1 rfl) (hp_n (n := 37) rfl ?_)
          have J45 : ∀ (Hh_13 : Heap) (Lh_13 : List Loc) (Bh_13 : hp_B Γ (cw w_X11_part) s α α Hh_13 Lh_13) (ls : Array Slot) (hl : lv_has ls 6 [(0, .ref a0)]), W p l e (hp_rm 5 0 0) s m ([.ref a0, .int a1, .int a2, .int a3] : List Value).toArray below meth c Hh_13 Lh_13 0 0 (MQ below (hp_Qi Γ (fun r β => cw w_X11_part α β)) ([.ref a0, .int a1, .int a2, .int a3] : List Value).toArray s 0 0 (hp_A Γ)) (F0 m 45 ls []) := by
            intro Hh_13 Lh_13 Bh_13 ls hl
            refine lv_aload_n hx hb dX11_part_45 rfl (lv_at hl 0 rfl) (hp_n (n := 46) rfl ?_)
            refine lv_iconst (v := 2) hx hb dX11_part_46 (by decide) (hp_n (n := 47) rfl ?_)
            refine q_ci (pc' := 50) Bh_13 (hp_runV (As := [.int 2]) (rest := []) C Bh_13 (t_X11_refuse Γ l α Bh_13.2.2.1 a0 (cw_k Bh_13.2.2 k0) 2) lb_X11_refuse lv_X11_refuse lk_X11_98 (cw_k Bh_13.2.2 k0) rfl (by decide) rfl hl.1 rfl (Nat.le_of_ble_eq_true rfl) dX11_part_47 ⟨Nat.le_refl _, Nat.le_refl _⟩) (fun _ _ h => cw_tr Bh_13.2.2 h (by decide)) rfl (fun rh_14 αh_14 Hh_14 Lh_14 ph_14 Bh_14 => ?_)
            exact q_iret C Bh_14 hr hlk Bh_14.2.2 dX11_part_50
          refine lv_ifnull hx hb dX11_part_37 (hp_n (n := 40) rfl ?_)
          refine lv_aloadN hx hb dX11_part_40 (lv_at hl 0 rfl) (hp_n (n := 42) rfl ?_)
          refine lv_ifnonnullN hx hb dX11_part_42 (hp_n (n := 45) rfl ?_)
          exact J45 Hh_12 Lh_12 Bh_12 ls (lv_sub hl [2] rfl)
        ·
          have kbh_12 : hp_K α bh_12 = 3 := cw_k' Bh_12.2.2 (ph_12.2 bh_12 rfl)
          refine lv_astore (lv' := [(5, .ref bh_12), (4, .ref bh_6), (0, .ref a0), (1, .int a1), (2, .int a2), (3, .int a3)]) hx hb dX11_part_33 hl (by decide) rfl (fun ls hl => hp_n (n := 35) rfl ?_)
          refine lv_aload hx hb dX11_part_35 (lv_at hl 1 rfl) (hp_n (n := 37) rfl ?_)
          have J45 : ∀ (Hh_15 : Heap) (Lh_15 : List Loc) (Bh_15 : hp_B Γ (cw w_X11_part) s α α Hh_15 Lh_15) (ls : Array Slot) (hl : lv_has ls 6 [(0, .ref a0)]), W p l e (hp_rm 5 0 0) s m ([.ref a0, .int a1, .int a2, .int a3] : List Value).toArray below meth c Hh_15 Lh_15 0 0 (MQ below (hp_Qi Γ (fun r β => cw w_X11_part α β)) ([.ref a0, .int a1, .int a2, .int a3] : List Value).toArray s 0 0 (hp_A Γ)) (F0 m 45 ls []) := by
            intro Hh_15 Lh_15 Bh_15 ls hl
            refine lv_aload_n hx hb dX11_part_45 rfl (lv_at hl 0 rfl) (hp_n (n := 46) rfl ?_)
            refine lv_iconst (v := 2) hx hb dX11_part_46 (by decide) (hp_n (n := 47) rfl ?_)
            refine q_ci (pc' := 50) Bh_15 (hp_runV (As := [.int 2]) (rest := []) C Bh_15 (t_X11_refuse Γ l α Bh_15.2.2.1 a0 (cw_k Bh_15.2.2 k0) 2) lb_X11_refuse lv_X11_refuse lk_X11_98 (cw_k Bh_15.2.2 k0) rfl (by decide) rfl hl.1 rfl (Nat.le_of_ble_eq_true rfl) dX11_part_47 ⟨Nat.le_refl _, Nat.le_refl _⟩) (fun _ _ h => cw_tr Bh_15.2.2 h (by decide)) rfl (fun rh_16 αh_16 Hh_16 Lh_16 ph_16 Bh_16 => ?_)
            exact q_iret C Bh_16 hr hlk Bh_16.2.2 dX11_part_50
          refine lv_ifnull hx hb dX11_part_37 (hp_n (n := 40) rfl ?_)
          refine lv_aload hx hb dX11_part_40 (lv_at hl 0 rfl) (hp_n (n := 42) rfl ?_)
          refine lv_ifnonnull (tgt := 51) hx hb dX11_part_42 (by decide) ?_
          refine lv_aload_n hx hb dX11_part_51 rfl (lv_at hl 2 rfl) (hp_n (n := 52) rfl ?_)
          refine lv_iload_n hx hb dX11_part_52 rfl (lv_at hl 5 rfl) (hp_n (n := 53) rfl ?_)
          refine lv_if_ne (tgt := 70) hx hb dX11_part_53 (by decide) (fun c_17 => ?_) (fun c_17 => hp_n (n := 56) rfl ?_)
          ·
            have jc_17 := il_ne c_17
            refine lv_aload_n hx hb dX11_part_70 rfl (lv_at hl 2 rfl) (hp_n (n := 71) rfl ?_)
            refine q_gets (κ := 12) (k := 1) (φ := 601) (pc' := 74) C Bh_12 (cw_k Bh_12.2.2 k0) fl_X11_16 rfl rfl rfl eb_5 dX11_part_71 rfl ?_
            refine lv_aload hx hb dX11_part_74 (lv_at hl 1 rfl) (hp_n (n := 76) rfl ?_)
            refine lv_aload hx hb dX11_part_76 (lv_at hl 0 rfl) (hp_n (n := 78) rfl ?_)
            refine q_ci (pc' := 81) Bh_12 (hp_runV (As := [.ref bh_6, .ref bh_12]) (rest := [.ref a0]) C Bh_12 (t_X10_partingCompared Γ l α Bh_12.2.2.1 b_5 (cw_k Bh_12.2.2 kb_5) bh_6 (cw_k Bh_12.2.2 kbh_6) bh_12 (cw_k Bh_12.2.2 kbh_12)) lb_X10_partingCompared lv_X10_partingCompared lk_X11_350 (cw_k Bh_12.2.2 kb_5) rfl (by decide) rfl hl.1 rfl (Nat.le_of_ble_eq_true rfl) dX11_part_78 ⟨Nat.le_refl _, Nat.le_refl _⟩) (fun _ _ h => cw_tr Bh_12.2.2 h (by decide)) rfl (fun rh_18 αh_18 Hh_18 Lh_18 ph_18 Bh_18 => ?_)
            refine q_ci (pc' := 84) Bh_18 (hp_runV (As := [.int rh_18]) (rest := []) C Bh_18 (t_X11_answer Γ l αh_18 Bh_18.2.2.1 a0 (cw_k Bh_18.2.2 k0) rh_18) lb_X11_answer lv_X11_answer lk_X11_115 (cw_k Bh_18.2.2 k0) rfl (by decide) rfl hl.1 rfl (Nat.le_of_ble_eq_true rfl) dX11_part_81 ⟨Nat.le_refl _, Nat.le_refl _⟩) (fun _ _ h => cw_tr Bh_18.2.2 h (by decide)) rfl (fun rh_19 αh_19 Hh_19 Lh_19 ph_19 Bh_19 => ?_)
            exact q_iret C Bh_19 hr hlk Bh_19.2.2 dX11_part_84
          ·
            have jc_17 := il_eq c_17
            refine lv_aload_n hx hb dX11_part_56 rfl (lv_at hl 2 rfl) (hp_n (n := 57) rfl ?_)
            refine q_gets (κ := 12) (k := 1) (φ := 601) (pc' := 60) C Bh_12 (cw_k Bh_12.2.2 k0) fl_X11_16 rfl rfl rfl eb_5 dX11_part_57 rfl ?_
            refine lv_aload hx hb dX11_part_60 (lv_at hl 1 rfl) (hp_n (n := 62) rfl ?_)
            refine lv_aload hx hb dX11_part_62 (lv_at hl 0 rfl) (hp_n (n := 64) rfl ?_)
            refine q_ci (pc' := 67) Bh_12 (hp_runV (As := [.ref bh_6, .ref bh_12]) (rest := [.ref a0]) C Bh_12 (t_X10_partingEntry Γ l α Bh_12.2.2.1 b_5 (cw_k Bh_12.2.2 kb_5) bh_6 (cw_k Bh_12.2.2 kbh_6) bh_12 (cw_k Bh_12.2.2 kbh_12)) lb_X10_partingEntry lv_X10_partingEntry lk_X11_346 (cw_k Bh_12.2.2 kb_5) rfl (by decide) rfl hl.1 rfl (Nat.le_of_ble_eq_true rfl) dX11_part_64 ⟨Nat.le_refl _, Nat.le_refl _⟩) (fun _ _ h => cw_tr Bh_12.2.2 h (by decide)) rfl (fun rh_20 αh_20 Hh_20 Lh_20 ph_20 Bh_20 => ?_)
            refine lv_goto (tgt := 81) hx hb dX11_part_67 (by decide) ?_
            refine q_ci (pc' := 84) Bh_20 (hp_runV (As := [.int rh_20]) (rest := []) C Bh_20 (t_X11_answer Γ l αh_20 Bh_20.2.2.1 a0 (cw_k Bh_20.2.2 k0) rh_20) lb_X11_answer lv_X11_answer lk_X11_115 (cw_k Bh_20.2.2 k0) rfl (by decide) rfl hl.1 rfl (Nat.le_of_ble_eq_true rfl) dX11_part_81 ⟨Nat.le_refl _, Nat.le_refl _⟩) (fun _ _ h => cw_tr Bh_20.2.2 h (by decide)) rfl (fun rh_21 αh_21 Hh_21 Lh_21 ph_21 Bh_21 => ?_)
            exact q_iret C Bh_21 hr hlk Bh_21.2.2 dX11_part_84
    ·
      have jc_4 := il_nle c_4
      exact J9 s.heap [] B ls (lv_sub hl [0] rfl)
abbrev w_X11_blame : cw_W := ([600], [], [33], [])
set_option maxRecDepth 100000 in
set_option maxHeartbeats 4000000 in
theorem t_X11_blame (Γ : hp_G) (l : Launch) (α : hp_T) (g : GC α) (a0 : Nat) (k0 : hp_K α a0 = 12) (a1 : Int32) (a2 : Int32) : Met l yX11_blame (hp_ws yX11_blame cX11_blame 4 (some .int)) (hp_rm 6 0 0) (hp_Pc Γ α [.ref a0, .int a1, .int a2]) (hp_Qi Γ (fun r β => cw w_X11_blame α β)) 0 0 (hp_A Γ) := by
  refine hp_start (by decide) ?_
  intro p e s m below meth c C hr hlk B0 hnm
  have C : hp_C Γ p m c cX11_blame 4 s ([.ref a0, .int a1, .int a2] : List Value).toArray RX11 := C
  have hx := C.1.1
  have hb := C.1.2.1
  have hown := C.1.2.2.2.1
  have hts := C.1.2.2.2.2
  have B : hp_B Γ (cw w_X11_blame) s α α s.heap [] := ⟨B0.1, B0.2.1, cw_rf g⟩
  have litm1 : ((-1) : Int32).toInt = (-1) := by decide
  have lit0 : (0 : Int32).toInt = 0 := by decide
  have lit1 : (1 : Int32).toInt = 1 := by decide
  have lit2 : (2 : Int32).toInt = 2 := by decide
  have hl := lv_entry ([.ref a0, .int a1, .int a2]) (n := 4) (Nat.le_of_ble_eq_true rfl)
  show W p l e (hp_rm 6 0 0) s m ([.ref a0, .int a1, .int a2] : List Value).toArray below meth c s.heap [] 0 0 (MQ below (hp_Qi Γ (fun r β => cw w_X11_blame α β)) ([.ref a0, .int a1, .int a2] : List Value).toArray s 0 0 (hp_A Γ)) (entryFrame m ([.ref a0, .int a1, .int a2] : List Value).toArray 4)
  rw [lg_entry_eq]
  generalize (lg_sl ([.ref a0, .int a1, .int a2]) ++ List.replicate (4 - (lg_sl ([.ref a0, .int a1, .int a2])).length) Slot.unset).toArray = ls at hl ⊢
  have hl : lv_has ls 4 [(0, .ref a0), (1, .int a1), (2, .int a2)] := hl
  refine lv_iload_n hx hb dX11_blame_0 rfl (lv_at hl 2 rfl) (hp_n (n := 1) rfl ?_)
  have J9 : ∀ (Hh_1 : Heap) (Lh_1 : List Loc) (Bh_1 : hp_B Γ (cw w_X11_blame) s α α Hh_1 Lh_1) (ls : Array Slot) (hl : lv_has ls 4 [(0, .ref a0)]), W p l e (hp_rm 6 0 0) s m ([.ref a0, .int a1, .int a2] : List Value).toArray below meth c Hh_1 Lh_1 0 0 (MQ below (hp_Qi Γ (fun r β => cw w_X11_blame α β)) ([.ref a0, .int a1, .int a2] : List Value).toArray s 0 0 (hp_A Γ)) (F0 m 9 ls []) := by
    intro Hh_1 Lh_1 Bh_1 ls hl
    refine lv_aload_n hx hb dX11_blame_9 rfl (lv_at hl 0 rfl) (hp_n (n := 10) rfl ?_)
    refine lv_iconst (v := 1) hx hb dX11_blame_10 (by decide) (hp_n (n := 11) rfl ?_)
    refine q_ci (pc' := 14) Bh_1 (hp_runV (As := [.int 1]) (rest := []) C Bh_1 (t_X11_refuse Γ l α Bh_1.2.2.1 a0 (cw_k Bh_1.2.2 k0) 1) lb_X11_refuse lv_X11_refuse lk_X11_98 (cw_k Bh_1.2.2 k0) rfl (by decide) rfl hl.1 rfl (Nat.le_of_ble_eq_true rfl) dX11_blame_11 ⟨Nat.le_refl _, Nat.le_refl _⟩) (fun _ _ h => cw_tr Bh_1.2.2 h (by decide)) rfl (fun rh_2 αh_2 Hh_2 Lh_2 ph_2 Bh_2 => ?_)
    exact q_iret C Bh_2 hr hlk Bh_2.2.2 dX11_blame_14
  refine lv_if_lt (tgt := 9) hx hb dX11_blame_1 (by decide) (fun c_3 => ?_) (fun c_3 => hp_n (n := 4) rfl ?_)
  ·
    have jc_3 := il_lt c_3
    exact J9 s.heap [] B ls (lv_sub hl [0] rfl)
  ·
    have jc_3 := il_nlt c_3
    refine lv_iload_n hx hb dX11_blame_4 rfl (lv_at hl 2 rfl) (hp_n (n := 5) rfl ?_)
    refine lv_iconst (v := 2) hx hb dX11_blame_5 (by decide) (hp_n (n := 6) rfl ?_)
    refine lv_icmp_le (tgt := 15) hx hb dX11_blame_6 (by decide) (fun c_4 => ?_) (fun c_4 => hp_n (n := 9) rfl ?_)
    ·
      have jc_4 := il_le c_4
      refine lv_aload_n hx hb dX11_blame_15 rfl (lv_at hl 0 rfl) (hp_n (n := 16) rfl ?_)
      refine q_getr (κ := 12) (k := 1) (φ := 601) (pc' := 19) C B (cw_k B.2.2 k0) fl_X11_16 rfl rfl rfl (cw_r B.2.2 k0 rfl rfl (by decide) (by decide)) dX11_blame_16 rfl (fun b_5 eb_5 kb_5 => ?_)
      refine lv_iload_n hx hb dX11_blame_19 rfl (lv_at hl 1 rfl) (hp_n (n := 20) rfl ?_)
      refine q_cq (pc' := 23) B (hp_runV (As := [.int a1]) (rest := []) C B (t_X10_logAt Γ l α B.2.2.1 b_5 (cw_k B.2.2 kb_5) a1) lb_X10_logAt lv_X10_logAt lk_X11_163 (cw_k B.2.2 kb_5) rfl (by decide) rfl hl.1 rfl (Nat.le_of_ble_eq_true rfl) dX11_blame_20 ⟨Nat.le_refl _, Nat.le_refl _⟩) (fun _ _ h => by rw [h.1]; exact B.2.2) rfl (fun rh_6 αh_6 Hh_6 Lh_6 ph_6 Bh_6 => ?_)
      rw [ph_6.1] at Bh_6
      rcases rh_6 with _ | bh_6
      ·
        refine lv_ifnonnullN hx hb dX11_blame_23 (hp_n (n := 26) rfl ?_)
        refine lv_aload_n hx hb dX11_blame_26 rfl (lv_at hl 0 rfl) (hp_n (n := 27) rfl ?_)
        refine lv_iconst (v := 2) hx hb dX11_blame_27 (by decide) (hp_n (n := 28) rfl ?_)
        refine q_ci (pc' := 31) Bh_6 (hp_runV (As := [.int 2]) (rest := []) C Bh_6 (t_X11_refuse Γ l α Bh_6.2.2.1 a0 (cw_k Bh_6.2.2 k0) 2) lb_X11_refuse lv_X11_refuse lk_X11_98 (cw_k Bh_6.2.2 k0) rfl (by decide) rfl hl.1 rfl (Nat.le_of_ble_eq_true rfl) dX11_blame_28 ⟨Nat.le_refl _, Nat.le_refl _⟩) (fun _ _ h => cw_tr Bh_6.2.2 h (by decide)) rfl (fun rh_7 αh_7 Hh_7 Lh_7 ph_7 Bh_7 => ?_)
        exact q_iret C Bh_7 hr hlk Bh_7.2.2 dX11_blame_31
      ·
        have kbh_6 : hp_K α bh_6 = 3 := cw_k' Bh_6.2.2 (ph_6.2 bh_6 rfl)
        refine lv_ifnonnull (tgt := 32) hx hb dX11_blame_23 (by decide) ?_
        refine lv_iload_n hx hb dX11_blame_32 rfl (lv_at hl 2 rfl) (hp_n (n := 33) rfl ?_)
        refine lv_iconst (v := 2) hx hb dX11_blame_33 (by decide) (hp_n (n := 34) rfl ?_)
        refine lv_icmp_ne (tgt := 50) hx hb dX11_blame_34 (by decide) (fun c_8 => ?_) (fun c_8 => hp_n (n := 37) rfl ?_)
        ·
          have jc_8 := il_ne c_8
          refine lv_aload_n hx hb dX11_blame_50 rfl (lv_at hl 0 rfl) (hp_n (n := 51) rfl ?_)
          refine q_gets (κ := 12) (k := 1) (φ := 601) (pc' := 54) C Bh_6 (cw_k Bh_6.2.2 k0) fl_X11_16 rfl rfl rfl eb_5 dX11_blame_51 rfl ?_
          refine lv_iload_n hx hb dX11_blame_54 rfl (lv_at hl 1 rfl) (hp_n (n := 55) rfl ?_)
          refine q_ci (pc' := 58) Bh_6 (hp_runV (As := [.int a1]) (rest := []) C Bh_6 (t_X10_leastUnsound Γ l α Bh_6.2.2.1 b_5 (cw_k Bh_6.2.2 kb_5) a1) lb_X10_leastUnsound lv_X10_leastUnsound lk_X11_356 (cw_k Bh_6.2.2 kb_5) rfl (by decide) rfl hl.1 rfl (Nat.le_of_ble_eq_true rfl) dX11_blame_55 ⟨Nat.le_refl _, Nat.le_refl _⟩) (fun _ _ h => cw_tr Bh_6.2.2 h (by decide)) rfl (fun rh_9 αh_9 Hh_9 Lh_9 ph_9 Bh_9 => ?_)
          refine lv_istore_n (lv' := [(3, .int rh_9), (0, .ref a0), (1, .int a1), (2, .int a2)]) hx hb dX11_blame_58 rfl hl (by decide) rfl (fun ls hl => hp_n (n := 59) rfl ?_)
          refine lv_aload_n hx hb dX11_blame_59 rfl (lv_at hl 1 rfl) (hp_n (n := 60) rfl ?_)
          refine lv_iload_n hx hb dX11_blame_60 rfl (lv_at hl 3 rfl) (hp_n (n := 61) rfl ?_)
          refine lv_if_eq (tgt := 69) hx hb dX11_blame_61 (by decide) (fun c_10 => ?_) (fun c_10 => hp_n (n := 64) rfl ?_)
          ·
            have jc_10 := il_eq c_10
            refine lv_iload_n hx hb dX11_blame_69 rfl (lv_at hl 0 rfl) (hp_n (n := 70) rfl ?_)
            refine lv_goto (tgt := 82) hx hb dX11_blame_70 (by decide) ?_
            refine q_ci (pc' := 85) Bh_9 (hp_runV (As := [.int rh_9]) (rest := []) C Bh_9 (t_X11_answer Γ l αh_9 Bh_9.2.2.1 a0 (cw_k Bh_9.2.2 k0) rh_9) lb_X11_answer lv_X11_answer lk_X11_115 (cw_k Bh_9.2.2 k0) rfl (by decide) rfl hl.1 rfl (Nat.le_of_ble_eq_true rfl) dX11_blame_82 ⟨Nat.le_refl _, Nat.le_refl _⟩) (fun _ _ h => cw_tr Bh_9.2.2 h (by decide)) rfl (fun rh_11 αh_11 Hh_11 Lh_11 ph_11 Bh_11 => ?_)
            exact q_iret C Bh_11 hr hlk Bh_11.2.2 dX11_blame_85
          ·
            have jc_10 := il_ne c_10
            refine lv_iload_n hx hb dX11_blame_64 rfl (lv_at hl 0 rfl) (hp_n (n := 65) rfl ?_)
            refine lv_iconst (v := (-1)) hx hb dX11_blame_65 (by decide) (hp_n (n := 66) rfl ?_)
            refine lv_icmp_ne (tgt := 73) hx hb dX11_blame_66 (by decide) (fun c_12 => ?_) (fun c_12 => hp_n (n := 69) rfl ?_)
            ·
              have jc_12 := il_ne c_12
              refine lv_aload_n hx hb dX11_blame_73 rfl (lv_at hl 1 rfl) (hp_n (n := 74) rfl ?_)
              have t_13 : b_5 = hp_R αh_9 601 a0 := by rw [cw_R ph_9 a0 (by decide)]; exact eb_5
              refine q_gets (κ := 12) (k := 1) (φ := 601) (pc' := 77) C Bh_9 (cw_k Bh_9.2.2 k0) fl_X11_16 rfl rfl rfl t_13 dX11_blame_74 rfl ?_
              refine lv_iload_n hx hb dX11_blame_77 rfl (lv_at hl 2 rfl) (hp_n (n := 78) rfl ?_)
              refine lv_iload_n hx hb dX11_blame_78 rfl (lv_at hl 0 rfl) (hp_n (n := 79) rfl ?_)
              refine q_ci (pc' := 82) Bh_9 (hp_runV (As := [.int a1, .int rh_9]) (rest := [.ref a0]) C Bh_9 (t_X10_greatestSoundBelow Γ l αh_9 Bh_9.2.2.1 b_5 (cw_k Bh_9.2.2 kb_5) a1 rh_9) lb_X10_greatestSoundBelow lv_X10_greatestSoundBelow lk_X11_359 (cw_k Bh_9.2.2 kb_5) rfl (by decide) rfl hl.1 rfl (Nat.le_of_ble_eq_true rfl) dX11_blame_79 ⟨Nat.le_refl _, Nat.le_refl _⟩) (fun _ _ h => cw_tr Bh_9.2.2 h (by decide)) rfl (fun rh_14 αh_14 Hh_14 Lh_14 ph_14 Bh_14 => ?_)
              refine q_ci (pc' := 85) Bh_14 (hp_runV (As := [.int rh_14]) (rest := []) C Bh_14 (t_X11_answer Γ l αh_14 Bh_14.2.2.1 a0 (cw_k Bh_14.2.2 k0) rh_14) lb_X11_answer lv_X11_answer lk_X11_115 (cw_k Bh_14.2.2 k0) rfl (by decide) rfl hl.1 rfl (Nat.le_of_ble_eq_true rfl) dX11_blame_82 ⟨Nat.le_refl _, Nat.le_refl _⟩) (fun _ _ h => cw_tr Bh_14.2.2 h (by decide)) rfl (fun rh_15 αh_15 Hh_15 Lh_15 ph_15 Bh_15 => ?_)
              exact q_iret C Bh_15 hr hlk Bh_15.2.2 dX11_blame_85
            ·
              have jc_12 := il_eq c_12
              refine lv_iload_n hx hb dX11_blame_69 rfl (lv_at hl 0 rfl) (hp_n (n := 70) rfl ?_)
              refine lv_goto (tgt := 82) hx hb dX11_blame_70 (by decide) ?_
              refine q_ci (pc' := 85) Bh_9 (hp_runV (As := [.int rh_9]) (rest := []) C Bh_9 (t_X11_answer Γ l αh_9 Bh_9.2.2.1 a0 (cw_k Bh_9.2.2 k0) rh_9) lb_X11_answer lv_X11_answer lk_X11_115 (cw_k Bh_9.2.2 k0) rfl (by decide) rfl hl.1 rfl (Nat.le_of_ble_eq_true rfl) dX11_blame_82 ⟨Nat.le_refl _, Nat.le_refl _⟩) (fun _ _ h => cw_tr Bh_9.2.2 h (by decide)) rfl (fun rh_16 αh_16 Hh_16 Lh_16 ph_16 Bh_16 => ?_)
              exact q_iret C Bh_16 hr hlk Bh_16.2.2 dX11_blame_85
        ·
          have jc_8 := il_eq c_8
          refine lv_aload_n hx hb dX11_blame_37 rfl (lv_at hl 0 rfl) (hp_n (n := 38) rfl ?_)
          refine lv_aload_n hx hb dX11_blame_38 rfl (lv_at hl 0 rfl) (hp_n (n := 39) rfl ?_)
          refine q_gets (κ := 12) (k := 1) (φ := 601) (pc' := 42) C Bh_6 (cw_k Bh_6.2.2 k0) fl_X11_16 rfl rfl rfl eb_5 dX11_blame_39 rfl ?_
          refine lv_iload_n hx hb dX11_blame_42 rfl (lv_at hl 1 rfl) (hp_n (n := 43) rfl ?_)
          refine q_ci (pc' := 46) Bh_6 (hp_runV (As := [.int a1]) (rest := [.ref a0]) C Bh_6 (t_X10_countUnsound Γ l α Bh_6.2.2.1 b_5 (cw_k Bh_6.2.2 kb_5) a1) lb_X10_countUnsound lv_X10_countUnsound lk_X11_353 (cw_k Bh_6.2.2 kb_5) rfl (by decide) rfl hl.1 rfl (Nat.le_of_ble_eq_true rfl) dX11_blame_43 ⟨Nat.le_refl _, Nat.le_refl _⟩) (fun _ _ h => cw_tr Bh_6.2.2 h (by decide)) rfl (fun rh_17 αh_17 Hh_17 Lh_17 ph_17 Bh_17 => ?_)
          refine q_ci (pc' := 49) Bh_17 (hp_runV (As := [.int rh_17]) (rest := []) C Bh_17 (t_X11_answer Γ l αh_17 Bh_17.2.2.1 a0 (cw_k Bh_17.2.2 k0) rh_17) lb_X11_answer lv_X11_answer lk_X11_115 (cw_k Bh_17.2.2 k0) rfl (by decide) rfl hl.1 rfl (Nat.le_of_ble_eq_true rfl) dX11_blame_46 ⟨Nat.le_refl _, Nat.le_refl _⟩) (fun _ _ h => cw_tr Bh_17.2.2 h (by decide)) rfl (fun rh_18 αh_18 Hh_18 Lh_18 ph_18 Bh_18 => ?_)
          exact q_iret C Bh_18 hr hlk Bh_18.2.2 dX11_blame_49
    ·
      have jc_4 := il_nle c_4
      exact J9 s.heap [] B ls (lv_sub hl [0] rfl)
end JN4_1
