abbrev w_X5_at : cw_W := ([], [], [], [])
set_option maxRecDepth 100000 in
set_option maxHeartbeats 4000000 in
theorem t_X5_at (Γ : hp_G) (l : Launch) (α : hp_T) (g : GC α) (a0 : Nat) (k0 : hp_K α a0 = 6) (a1 : Int32) : Met l yX5_at (hp_ws yX5_at cX5_at 2 (some .int)) (hp_rm 0 0 0) (hp_Pc Γ α [.ref a0, .int a1]) (hp_Qi Γ (fun r β => β = α)) 0 0 (hp_A Γ) := by
  refine hp_start (by decide) ?_
  intro p e s m below meth c C hr hlk B0 hnm
  have C : hp_C Γ p m c cX5_at 2 s ([.ref a0, .int a1] : List Value).toArray RX5 := C
  have hx := C.1.1
  have hb := C.1.2.1
  have hown := C.1.2.2.2.1
  have hts := C.1.2.2.2.2
  have B : hp_B Γ (cw w_X5_at) s α α s.heap [] := ⟨B0.1, B0.2.1, cw_rf g⟩
  have lit0 : (0 : Int32).toInt = 0 := by decide
  have lit64 : (64 : Int32).toInt = 64 := by decide
  have hl := lv_entry ([.ref a0, .int a1]) (n := 2) (Nat.le_of_ble_eq_true rfl)
  show W p l e (hp_rm 0 0 0) s m ([.ref a0, .int a1] : List Value).toArray below meth c s.heap [] 0 0 (MQ below (hp_Qi Γ (fun r β => β = α)) ([.ref a0, .int a1] : List Value).toArray s 0 0 (hp_A Γ)) (entryFrame m ([.ref a0, .int a1] : List Value).toArray 2)
  rw [lg_entry_eq]
  generalize (lg_sl ([.ref a0, .int a1]) ++ List.replicate (2 - (lg_sl ([.ref a0, .int a1])).length) Slot.unset).toArray = ls at hl ⊢
  have hl : lv_has ls 2 [(0, .ref a0), (1, .int a1)] := hl
  refine lv_iload_n hx hb dX5_at_0 rfl (lv_at hl 1 rfl) (hp_n (n := 1) rfl ?_)
  refine lv_if_lt (tgt := 30) hx hb dX5_at_1 (by decide) (fun c_1 => ?_) (fun c_1 => hp_n (n := 4) rfl ?_)
  ·
    have jc_1 := il_lt c_1
    refine lv_iconst (v := 0) hx hb dX5_at_30 (by decide) (hp_n (n := 31) rfl ?_)
    exact q_iret C B hr hlk rfl dX5_at_31
  ·
    have jc_1 := il_nlt c_1
    refine lv_iload_n hx hb dX5_at_4 rfl (lv_at hl 1 rfl) (hp_n (n := 5) rfl ?_)
    refine lv_aload_n hx hb dX5_at_5 rfl (lv_at hl 0 rfl) (hp_n (n := 6) rfl ?_)
    refine q_geti (κ := 6) (k := 1) (φ := 301) (pc' := 9) C B (cw_k B.2.2 k0) fl_X5_15 rfl rfl rfl dX5_at_6 rfl (fun x_2 ex_2 => ?_)
    refine lv_icmp_ge (tgt := 30) hx hb dX5_at_9 (by decide) (fun c_3 => ?_) (fun c_3 => hp_n (n := 12) rfl ?_)
    ·
      have jc_3 := il_le c_3
      refine lv_iconst (v := 0) hx hb dX5_at_30 (by decide) (hp_n (n := 31) rfl ?_)
      exact q_iret C B hr hlk rfl dX5_at_31
    ·
      have jc_3 := il_nle c_3
      refine lv_iload_n hx hb dX5_at_12 rfl (lv_at hl 1 rfl) (hp_n (n := 13) rfl ?_)
      refine lv_aload_n hx hb dX5_at_13 rfl (lv_at hl 0 rfl) (hp_n (n := 14) rfl ?_)
      refine q_getr (κ := 6) (k := 0) (φ := 300) (pc' := 17) C B (cw_k B.2.2 k0) fl_X5_9 rfl rfl rfl (cw_r B.2.2 k0 rfl rfl (by decide) (by decide)) dX5_at_14 rfl (fun b_4 eb_4 kb_4 => ?_)
      refine q_alen (κ := 20) (t := 0) (n := 64) (x := 64) (ty := .int) (pc' := 18) C B (cw_k B.2.2 kb_4) (by decide) rfl rfl rfl dX5_at_17 rfl ?_
      refine lv_icmp_ge (tgt := 30) hx hb dX5_at_18 (by decide) (fun c_5 => ?_) (fun c_5 => hp_n (n := 21) rfl ?_)
      ·
        have jc_5 := il_le c_5
        refine lv_iconst (v := 0) hx hb dX5_at_30 (by decide) (hp_n (n := 31) rfl ?_)
        exact q_iret C B hr hlk rfl dX5_at_31
      ·
        have jc_5 := il_nle c_5
        refine lv_aload_n hx hb dX5_at_21 rfl (lv_at hl 0 rfl) (hp_n (n := 22) rfl ?_)
        refine q_gets (κ := 6) (k := 0) (φ := 300) (pc' := 25) C B (cw_k B.2.2 k0) fl_X5_9 rfl rfl rfl eb_4 dX5_at_22 rfl ?_
        refine lv_iload_n hx hb dX5_at_25 rfl (lv_at hl 1 rfl) (hp_n (n := 26) rfl ?_)
        refine q_ial (κ := 20) (n := 64) (pc' := 27) C B (cw_k B.2.2 kb_4) (by decide) rfl (vi_of (by omega) (by omega)) dX5_at_26 rfl (lv_topi (fun x_6 ex_6 => ?_))
        refine lv_goto (tgt := 31) hx hb dX5_at_27 (by decide) ?_
        exact q_iret C B hr hlk rfl dX5_at_31
abbrev w_X5_put : cw_W := ([301], [], [20], [])
set_option maxRecDepth 100000 in
set_option maxHeartbeats 4000000 in
theorem t_X5_put (Γ : hp_G) (l : Launch) (α : hp_T) (g : GC α) (a0 : Nat) (k0 : hp_K α a0 = 6) (a1 : Int32) : Met l yX5_put (hp_ws yX5_put cX5_put 2 none) (hp_rm 0 0 0) (hp_Pc Γ α [.ref a0, .int a1]) (hp_Qv Γ (fun β => cw w_X5_put α β)) 0 0 (hp_A Γ) := by
  refine hp_start (by decide) ?_
  intro p e s m below meth c C hr hlk B0 hnm
  have C : hp_C Γ p m c cX5_put 2 s ([.ref a0, .int a1] : List Value).toArray RX5 := C
  have hx := C.1.1
  have hb := C.1.2.1
  have hown := C.1.2.2.2.1
  have hts := C.1.2.2.2.2
  have B : hp_B Γ (cw w_X5_put) s α α s.heap [] := ⟨B0.1, B0.2.1, cw_rf g⟩
  have lit0 : (0 : Int32).toInt = 0 := by decide
  have lit1 : (1 : Int32).toInt = 1 := by decide
  have lit64 : (64 : Int32).toInt = 64 := by decide
  have hl := lv_entry ([.ref a0, .int a1]) (n := 2) (Nat.le_of_ble_eq_true rfl)
  show W p l e (hp_rm 0 0 0) s m ([.ref a0, .int a1] : List Value).toArray below meth c s.heap [] 0 0 (MQ below (hp_Qv Γ (fun β => cw w_X5_put α β)) ([.ref a0, .int a1] : List Value).toArray s 0 0 (hp_A Γ)) (entryFrame m ([.ref a0, .int a1] : List Value).toArray 2)
  rw [lg_entry_eq]
  generalize (lg_sl ([.ref a0, .int a1]) ++ List.replicate (2 - (lg_sl ([.ref a0, .int a1])).length) Slot.unset).toArray = ls at hl ⊢
  have hl : lv_has ls 2 [(0, .ref a0), (1, .int a1)] := hl
  refine lv_aload_n hx hb dX5_put_0 rfl (lv_at hl 0 rfl) (hp_n (n := 1) rfl ?_)
  refine q_geti (κ := 6) (k := 1) (φ := 301) (pc' := 4) C B (cw_k B.2.2 k0) fl_X5_15 rfl rfl rfl dX5_put_1 rfl (fun x_1 ex_1 => ?_)
  refine lv_if_lt (tgt := 39) hx hb dX5_put_4 (by decide) (fun c_2 => ?_) (fun c_2 => hp_n (n := 7) rfl ?_)
  ·
    have jc_2 := il_lt c_2
    exact q_vret C B hr hlk B.2.2 dX5_put_39
  ·
    have jc_2 := il_nlt c_2
    refine lv_aload_n hx hb dX5_put_7 rfl (lv_at hl 0 rfl) (hp_n (n := 8) rfl ?_)
    refine q_getj (κ := 6) (k := 1) (φ := 301) (pc' := 11) C B (cw_k B.2.2 k0) fl_X5_15 rfl rfl rfl ex_1 dX5_put_8 rfl ?_
    refine lv_aload_n hx hb dX5_put_11 rfl (lv_at hl 0 rfl) (hp_n (n := 12) rfl ?_)
    refine q_getr (κ := 6) (k := 0) (φ := 300) (pc' := 15) C B (cw_k B.2.2 k0) fl_X5_9 rfl rfl rfl (cw_r B.2.2 k0 rfl rfl (by decide) (by decide)) dX5_put_12 rfl (fun b_3 eb_3 kb_3 => ?_)
    refine q_alen (κ := 20) (t := 0) (n := 64) (x := 64) (ty := .int) (pc' := 16) C B (cw_k B.2.2 kb_3) (by decide) rfl rfl rfl dX5_put_15 rfl ?_
    refine lv_icmp_ge (tgt := 39) hx hb dX5_put_16 (by decide) (fun c_4 => ?_) (fun c_4 => hp_n (n := 19) rfl ?_)
    ·
      have jc_4 := il_le c_4
      exact q_vret C B hr hlk B.2.2 dX5_put_39
    ·
      have jc_4 := il_nle c_4
      refine lv_aload_n hx hb dX5_put_19 rfl (lv_at hl 0 rfl) (hp_n (n := 20) rfl ?_)
      refine q_gets (κ := 6) (k := 0) (φ := 300) (pc' := 23) C B (cw_k B.2.2 k0) fl_X5_9 rfl rfl rfl eb_3 dX5_put_20 rfl ?_
      refine lv_aload_n hx hb dX5_put_23 rfl (lv_at hl 0 rfl) (hp_n (n := 24) rfl ?_)
      refine q_getj (κ := 6) (k := 1) (φ := 301) (pc' := 27) C B (cw_k B.2.2 k0) fl_X5_15 rfl rfl rfl ex_1 dX5_put_24 rfl ?_
      refine lv_iload_n hx hb dX5_put_27 rfl (lv_at hl 1 rfl) (hp_n (n := 28) rfl ?_)
      refine q_ias (κ := 20) (n := 64) (pc' := 29) C B (cw_k B.2.2 kb_3) (by decide) rfl (vi_of (by omega) (by omega)) rfl (cw_sE B.2.2 (by decide)) dX5_put_28 rfl (fun αh_5 Hh_5 Lh_5 eh_5 Bh_5 => ?_)
      refine lv_aload_n hx hb dX5_put_29 rfl (lv_at hl 0 rfl) (hp_n (n := 30) rfl ?_)
      refine lv_dup hx hb dX5_put_30 rfl (hp_n (n := 31) rfl ?_)
      have t_6 : x_1 = hp_I αh_5 301 a0 := by rw [eh_5]; exact ex_1
      refine q_getj (κ := 6) (k := 1) (φ := 301) (pc' := 34) C Bh_5 (cw_k Bh_5.2.2 k0) fl_X5_15 rfl rfl rfl t_6 dX5_put_31 rfl ?_
      refine lv_iconst (v := 1) hx hb dX5_put_34 (by decide) (hp_n (n := 35) rfl ?_)
      refine lv_iadd hx hb dX5_put_35 (hp_n (n := 36) rfl (lv_topi (fun x_7 ex_7 => ?_)))
      have qx_7 : x_7.toInt = x_1.toInt + 1 := by have qa := ib_lo x_1; rw [ex_7]; exact ii_add (by omega) (by omega)
      refine q_puti (κ := 6) (k := 1) (φ := 301) (pc' := 39) C Bh_5 (cw_k Bh_5.2.2 k0) fl_X5_15 rfl rfl rfl rfl rfl rfl (cw_sI Bh_5.2.2 (by decide) (fun _ => by rw [qx_7]; omega)) dX5_put_36 rfl (fun αh_8 Hh_8 Lh_8 eh_8 Bh_8 => ?_)
      exact q_vret C Bh_8 hr hlk Bh_8.2.2 dX5_put_39
abbrev w_X5_change : cw_W := ([], [], [20], [])
set_option maxRecDepth 100000 in
set_option maxHeartbeats 4000000 in
theorem t_X5_change (Γ : hp_G) (l : Launch) (α : hp_T) (g : GC α) (a0 : Nat) (k0 : hp_K α a0 = 6) (a1 : Int32) (a2 : Int32) : Met l yX5_change (hp_ws yX5_change cX5_change 3 none) (hp_rm 0 0 0) (hp_Pc Γ α [.ref a0, .int a1, .int a2]) (hp_Qv Γ (fun β => cw w_X5_change α β)) 0 0 (hp_A Γ) := by
  refine hp_start (by decide) ?_
  intro p e s m below meth c C hr hlk B0 hnm
  have C : hp_C Γ p m c cX5_change 3 s ([.ref a0, .int a1, .int a2] : List Value).toArray RX5 := C
  have hx := C.1.1
  have hb := C.1.2.1
  have hown := C.1.2.2.2.1
  have hts := C.1.2.2.2.2
  have B : hp_B Γ (cw w_X5_change) s α α s.heap [] := ⟨B0.1, B0.2.1, cw_rf g⟩
  have lit0 : (0 : Int32).toInt = 0 := by decide
  have lit64 : (64 : Int32).toInt = 64 := by decide
  have hl := lv_entry ([.ref a0, .int a1, .int a2]) (n := 3) (Nat.le_of_ble_eq_true rfl)
  show W p l e (hp_rm 0 0 0) s m ([.ref a0, .int a1, .int a2] : List Value).toArray below meth c s.heap [] 0 0 (MQ below (hp_Qv Γ (fun β => cw w_X5_change α β)) ([.ref a0, .int a1, .int a2] : List Value).toArray s 0 0 (hp_A Γ)) (entryFrame m ([.ref a0, .int a1, .int a2] : List Value).toArray 3)
  rw [lg_entry_eq]
  generalize (lg_sl ([.ref a0, .int a1, .int a2]) ++ List.replicate (3 - (lg_sl ([.ref a0, .int a1, .int a2])).length) Slot.unset).toArray = ls at hl ⊢
  have hl : lv_has ls 3 [(0, .ref a0), (1, .int a1), (2, .int a2)] := hl
  refine lv_iload_n hx hb dX5_change_0 rfl (lv_at hl 1 rfl) (hp_n (n := 1) rfl ?_)
  refine lv_if_lt (tgt := 28) hx hb dX5_change_1 (by decide) (fun c_1 => ?_) (fun c_1 => hp_n (n := 4) rfl ?_)
  ·
    have jc_1 := il_lt c_1
    exact q_vret C B hr hlk B.2.2 dX5_change_28
  ·
    have jc_1 := il_nlt c_1
    refine lv_iload_n hx hb dX5_change_4 rfl (lv_at hl 1 rfl) (hp_n (n := 5) rfl ?_)
    refine lv_aload_n hx hb dX5_change_5 rfl (lv_at hl 0 rfl) (hp_n (n := 6) rfl ?_)
    refine q_geti (κ := 6) (k := 1) (φ := 301) (pc' := 9) C B (cw_k B.2.2 k0) fl_X5_15 rfl rfl rfl dX5_change_6 rfl (fun x_2 ex_2 => ?_)
    refine lv_icmp_ge (tgt := 28) hx hb dX5_change_9 (by decide) (fun c_3 => ?_) (fun c_3 => hp_n (n := 12) rfl ?_)
    ·
      have jc_3 := il_le c_3
      exact q_vret C B hr hlk B.2.2 dX5_change_28
    ·
      have jc_3 := il_nle c_3
      refine lv_iload_n hx hb dX5_change_12 rfl (lv_at hl 1 rfl) (hp_n (n := 13) rfl ?_)
      refine lv_aload_n hx hb dX5_change_13 rfl (lv_at hl 0 rfl) (hp_n (n := 14) rfl ?_)
      refine q_getr (κ := 6) (k := 0) (φ := 300) (pc' := 17) C B (cw_k B.2.2 k0) fl_X5_9 rfl rfl rfl (cw_r B.2.2 k0 rfl rfl (by decide) (by decide)) dX5_change_14 rfl (fun b_4 eb_4 kb_4 => ?_)
      refine q_alen (κ := 20) (t := 0) (n := 64) (x := 64) (ty := .int) (pc' := 18) C B (cw_k B.2.2 kb_4) (by decide) rfl rfl rfl dX5_change_17 rfl ?_
      refine lv_icmp_ge (tgt := 28) hx hb dX5_change_18 (by decide) (fun c_5 => ?_) (fun c_5 => hp_n (n := 21) rfl ?_)
      ·
        have jc_5 := il_le c_5
        exact q_vret C B hr hlk B.2.2 dX5_change_28
      ·
        have jc_5 := il_nle c_5
        refine lv_aload_n hx hb dX5_change_21 rfl (lv_at hl 0 rfl) (hp_n (n := 22) rfl ?_)
        refine q_gets (κ := 6) (k := 0) (φ := 300) (pc' := 25) C B (cw_k B.2.2 k0) fl_X5_9 rfl rfl rfl eb_4 dX5_change_22 rfl ?_
        refine lv_iload_n hx hb dX5_change_25 rfl (lv_at hl 1 rfl) (hp_n (n := 26) rfl ?_)
        refine lv_iload_n hx hb dX5_change_26 rfl (lv_at hl 2 rfl) (hp_n (n := 27) rfl ?_)
        refine q_ias (κ := 20) (n := 64) (pc' := 28) C B (cw_k B.2.2 kb_4) (by decide) rfl (vi_of (by omega) (by omega)) rfl (cw_sE B.2.2 (by decide)) dX5_change_27 rfl (fun αh_6 Hh_6 Lh_6 eh_6 Bh_6 => ?_)
        exact q_vret C Bh_6 hr hlk Bh_6.2.2 dX5_change_28
abbrev w_X5_shorten : cw_W := ([301], [], [], [])
set_option maxRecDepth 100000 in
set_option maxHeartbeats 4000000 in
theorem t_X5_shorten (Γ : hp_G) (l : Launch) (α : hp_T) (g : GC α) (a0 : Nat) (k0 : hp_K α a0 = 6) (a1 : Int32) : Met l yX5_shorten (hp_ws yX5_shorten cX5_shorten 2 none) (hp_rm 0 0 0) (hp_Pc Γ α [.ref a0, .int a1]) (hp_Qv Γ (fun β => cw w_X5_shorten α β)) 0 0 (hp_A Γ) := by
  refine hp_start (by decide) ?_
  intro p e s m below meth c C hr hlk B0 hnm
  have C : hp_C Γ p m c cX5_shorten 2 s ([.ref a0, .int a1] : List Value).toArray RX5 := C
  have hx := C.1.1
  have hb := C.1.2.1
  have hown := C.1.2.2.2.1
  have hts := C.1.2.2.2.2
  have B : hp_B Γ (cw w_X5_shorten) s α α s.heap [] := ⟨B0.1, B0.2.1, cw_rf g⟩
  have lit0 : (0 : Int32).toInt = 0 := by decide
  have hl := lv_entry ([.ref a0, .int a1]) (n := 2) (Nat.le_of_ble_eq_true rfl)
  show W p l e (hp_rm 0 0 0) s m ([.ref a0, .int a1] : List Value).toArray below meth c s.heap [] 0 0 (MQ below (hp_Qv Γ (fun β => cw w_X5_shorten α β)) ([.ref a0, .int a1] : List Value).toArray s 0 0 (hp_A Γ)) (entryFrame m ([.ref a0, .int a1] : List Value).toArray 2)
  rw [lg_entry_eq]
  generalize (lg_sl ([.ref a0, .int a1]) ++ List.replicate (2 - (lg_sl ([.ref a0, .int a1])).length) Slot.unset).toArray = ls at hl ⊢
  have hl : lv_has ls 2 [(0, .ref a0), (1, .int a1)] := hl
  refine lv_iload_n hx hb dX5_shorten_0 rfl (lv_at hl 1 rfl) (hp_n (n := 1) rfl ?_)
  refine lv_if_lt (tgt := 17) hx hb dX5_shorten_1 (by decide) (fun c_1 => ?_) (fun c_1 => hp_n (n := 4) rfl ?_)
  ·
    have jc_1 := il_lt c_1
    exact q_vret C B hr hlk B.2.2 dX5_shorten_17
  ·
    have jc_1 := il_nlt c_1
    refine lv_iload_n hx hb dX5_shorten_4 rfl (lv_at hl 1 rfl) (hp_n (n := 5) rfl ?_)
    refine lv_aload_n hx hb dX5_shorten_5 rfl (lv_at hl 0 rfl) (hp_n (n := 6) rfl ?_)
    refine q_geti (κ := 6) (k := 1) (φ := 301) (pc' := 9) C B (cw_k B.2.2 k0) fl_X5_15 rfl rfl rfl dX5_shorten_6 rfl (fun x_2 ex_2 => ?_)
    refine lv_icmp_ge (tgt := 17) hx hb dX5_shorten_9 (by decide) (fun c_3 => ?_) (fun c_3 => hp_n (n := 12) rfl ?_)
    ·
      have jc_3 := il_le c_3
      exact q_vret C B hr hlk B.2.2 dX5_shorten_17
    ·
      have jc_3 := il_nle c_3
      refine lv_aload_n hx hb dX5_shorten_12 rfl (lv_at hl 0 rfl) (hp_n (n := 13) rfl ?_)
      refine lv_iload_n hx hb dX5_shorten_13 rfl (lv_at hl 1 rfl) (hp_n (n := 14) rfl ?_)
      refine q_puti (κ := 6) (k := 1) (φ := 301) (pc' := 17) C B (cw_k B.2.2 k0) fl_X5_15 rfl rfl rfl rfl rfl rfl (cw_sI B.2.2 (by decide) (fun _ => by have q0 := g.1 301 a0 rfl; rw [← ex_2] at q0; omega)) dX5_shorten_14 rfl (fun αh_4 Hh_4 Lh_4 eh_4 Bh_4 => ?_)
      exact q_vret C Bh_4 hr hlk Bh_4.2.2 dX5_shorten_17
abbrev w_X5_countOf : cw_W := ([], [], [], [])
set_option maxRecDepth 100000 in
set_option maxHeartbeats 4000000 in
theorem t_X5_countOf (Γ : hp_G) (l : Launch) (α : hp_T) (g : GC α) (a0 : Nat) (k0 : hp_K α a0 = 6) (a1 : Int32) : Met l yX5_countOf (hp_ws yX5_countOf cX5_countOf 4 (some .int)) (hp_rm 1 0 0) (hp_Pc Γ α [.ref a0, .int a1]) (hp_Qi Γ (fun r β => β = α)) 0 0 (hp_A Γ) := by
  refine hp_start (by decide) ?_
  intro p e s m below meth c C hr hlk B0 hnm
  have C : hp_C Γ p m c cX5_countOf 4 s ([.ref a0, .int a1] : List Value).toArray RX5 := C
  have hx := C.1.1
  have hb := C.1.2.1
  have hown := C.1.2.2.2.1
  have hts := C.1.2.2.2.2
  have B : hp_B Γ (cw w_X5_countOf) s α α s.heap [] := ⟨B0.1, B0.2.1, cw_rf g⟩
  have lit0 : (0 : Int32).toInt = 0 := by decide
  have lit1 : (1 : Int32).toInt = 1 := by decide
  have hl := lv_entry ([.ref a0, .int a1]) (n := 4) (Nat.le_of_ble_eq_true rfl)
  show W p l e (hp_rm 1 0 0) s m ([.ref a0, .int a1] : List Value).toArray below meth c s.heap [] 0 0 (MQ below (hp_Qi Γ (fun r β => β = α)) ([.ref a0, .int a1] : List Value).toArray s 0 0 (hp_A Γ)) (entryFrame m ([.ref a0, .int a1] : List Value).toArray 4)
  rw [lg_entry_eq]
  generalize (lg_sl ([.ref a0, .int a1]) ++ List.replicate (4 - (lg_sl ([.ref a0, .int a1])).length) Slot.unset).toArray = ls at hl ⊢
  have hl : lv_has ls 4 [(0, .ref a0), (1, .int a1)] := hl
  refine lv_iconst (v := 0) hx hb dX5_countOf_0 (by decide) (hp_n (n := 1) rfl ?_)
  refine lv_istore_n (lv' := [(2, .int 0), (0, .ref a0), (1, .int a1)]) hx hb dX5_countOf_1 rfl hl (by decide) rfl (fun ls hl => hp_n (n := 2) rfl ?_)
  refine lv_iconst (v := 0) hx hb dX5_countOf_2 (by decide) (hp_n (n := 3) rfl ?_)
  have J4 : ∀ (nq : Nat) (Hh_1 : Heap) (Lh_1 : List Loc) (Bh_1 : hp_B Γ (cw w_X5_countOf) s α α Hh_1 Lh_1) (v2_h_1 : Int32) (v3_h_1 : Int32) (ih_1_0 : 0 ≤ v3_h_1.toInt) (ls : Array Slot) (hl : lv_has ls 4 [(0, .ref a0), (1, .int a1), (2, .int v2_h_1), (3, .int v3_h_1)]) (hmu4 : (2147483647 - v3_h_1.toInt).toNat = nq), W p l e (hp_rm 1 0 0) s m ([.ref a0, .int a1] : List Value).toArray below meth c Hh_1 Lh_1 0 0 (MQ below (hp_Qi Γ (fun r β => β = α)) ([.ref a0, .int a1] : List Value).toArray s 0 0 (hp_A Γ)) (F0 m 4 ls []) := by
    intro nq
    induction nq using Nat.strongRecOn with
    | ind nq ih4 =>
    intro Hh_1 Lh_1 Bh_1 v2_h_1 v3_h_1 ih_1_0 ls hl hmu4
    have inv4_0 := ih_1_0
    refine lv_iload_n hx hb dX5_countOf_4 rfl (lv_at hl 3 rfl) (hp_n (n := 5) rfl ?_)
    refine lv_aload_n hx hb dX5_countOf_5 rfl (lv_at hl 0 rfl) (hp_n (n := 6) rfl ?_)
    refine q_geti (κ := 6) (k := 1) (φ := 301) (pc' := 9) C Bh_1 (cw_k Bh_1.2.2 k0) fl_X5_15 rfl rfl rfl dX5_countOf_6 rfl (fun x_2 ex_2 => ?_)
    refine lv_icmp_ge (tgt := 30) hx hb dX5_countOf_9 (by decide) (fun c_3 => ?_) (fun c_3 => hp_n (n := 12) rfl ?_)
    ·
      have jc_3 := il_le c_3
      refine lv_iload_n hx hb dX5_countOf_30 rfl (lv_at hl 2 rfl) (hp_n (n := 31) rfl ?_)
      exact q_iret C Bh_1 hr hlk rfl dX5_countOf_31
    ·
      have jc_3 := il_nle c_3
      refine lv_aload_n hx hb dX5_countOf_12 rfl (lv_at hl 0 rfl) (hp_n (n := 13) rfl ?_)
      refine lv_iload_n hx hb dX5_countOf_13 rfl (lv_at hl 3 rfl) (hp_n (n := 14) rfl ?_)
      refine q_ci (pc' := 17) Bh_1 (hp_runV (As := [.int v3_h_1]) (rest := []) C Bh_1 (t_X5_at Γ l α Bh_1.2.2.1 a0 (cw_k Bh_1.2.2 k0) v3_h_1) lb_X5_at lv_X5_at lk_X5_19 (cw_k Bh_1.2.2 k0) rfl (by decide) rfl hl.1 rfl (Nat.le_of_ble_eq_true rfl) dX5_countOf_14 ⟨Nat.le_refl _, Nat.le_refl _⟩) (fun _ _ h => by rw [h]; exact Bh_1.2.2) rfl (fun rh_4 αh_4 Hh_4 Lh_4 ph_4 Bh_4 => ?_)
      rw [ph_4] at Bh_4
      refine lv_iload_n hx hb dX5_countOf_17 rfl (lv_at hl 1 rfl) (hp_n (n := 18) rfl ?_)
      refine lv_icmp_ne (tgt := 24) hx hb dX5_countOf_18 (by decide) (fun c_5 => ?_) (fun c_5 => hp_n (n := 21) rfl ?_)
      ·
        have jc_5 := il_ne c_5
        obtain ⟨x_6, ex_6⟩ : ∃ y : Int32, y = v3_h_1 + 1 := ⟨_, rfl⟩
        have qx_6 : x_6.toInt = v3_h_1.toInt + 1 := by have q0 := ib_hi x_2; have qa := ib_lo v3_h_1; rw [ex_6]; exact ii_add (by omega) (by omega)
        refine lv_iinc (v := x_6) (lv' := [(3, .int x_6), (0, .ref a0), (1, .int a1), (2, .int v2_h_1)]) hx hb dX5_countOf_24 hl (k := 3) rfl (by rw [ex_6]; rfl) (by decide) rfl (fun ls hl => hp_n (n := 27) rfl ?_)
        refine lv_goto (tgt := 4) hx hb dX5_countOf_27 (by decide) ?_
        exact ih4 _ (by have q0 := ib_hi x_2; have q1 := ib_lo x_2; have qa := ib_hi v3_h_1; have qb := ib_lo v3_h_1; have qc : (v3_h_1 + 1).toInt = v3_h_1.toInt + (1 : Int32).toInt := ii_add (by omega) (by omega); rw [ex_6]; omega) Hh_4 Lh_4 Bh_4 v2_h_1 x_6 (by omega) ls (lv_sub hl [1, 2, 3, 0] rfl) rfl
      ·
        have jc_5 := il_eq c_5
        obtain ⟨x_7, ex_7⟩ : ∃ y : Int32, y = v2_h_1 + 1 := ⟨_, rfl⟩
        refine lv_iinc (v := x_7) (lv' := [(2, .int x_7), (0, .ref a0), (1, .int a1), (3, .int v3_h_1)]) hx hb dX5_countOf_21 hl (k := 2) rfl (by rw [ex_7]; rfl) (by decide) rfl (fun ls hl => hp_n (n := 24) rfl ?_)
        obtain ⟨x_8, ex_8⟩ : ∃ y : Int32, y = v3_h_1 + 1 := ⟨_, rfl⟩
        have qx_8 : x_8.toInt = v3_h_1.toInt + 1 := by have q0 := ib_hi x_2; have qa := ib_lo v3_h_1; rw [ex_8]; exact ii_add (by omega) (by omega)
        refine lv_iinc (v := x_8) (lv' := [(3, .int x_8), (2, .int x_7), (0, .ref a0), (1, .int a1)]) hx hb dX5_countOf_24 hl (k := 3) rfl (by rw [ex_8]; rfl) (by decide) rfl (fun ls hl => hp_n (n := 27) rfl ?_)
        refine lv_goto (tgt := 4) hx hb dX5_countOf_27 (by decide) ?_
        exact ih4 _ (by have q0 := ib_hi x_2; have q1 := ib_lo x_2; have qa := ib_hi v3_h_1; have qb := ib_lo v3_h_1; have qc : (v3_h_1 + 1).toInt = v3_h_1.toInt + (1 : Int32).toInt := ii_add (by omega) (by omega); rw [ex_8]; omega) Hh_4 Lh_4 Bh_4 x_7 x_8 (by omega) ls (lv_sub hl [2, 3, 1, 0] rfl) rfl
  refine lv_istore_n (lv' := [(3, .int 0), (2, .int 0), (0, .ref a0), (1, .int a1)]) hx hb dX5_countOf_3 rfl hl (by decide) rfl (fun ls hl => hp_n (n := 4) rfl ?_)
  exact J4 _ s.heap [] B 0 0 (by omega) ls (lv_sub hl [2, 3, 1, 0] rfl) rfl
