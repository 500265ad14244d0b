abbrev w_X11_firstPartOf : cw_W := ([], [], [], [])
set_option maxRecDepth 100000 in
set_option maxHeartbeats 4000000 in
theorem t_X11_firstPartOf (Γ : hp_G) (l : Launch) (α : hp_T) (g : GC α) (a0 : Int32) : Met l yX11_firstPartOf (hp_ws yX11_firstPartOf cX11_firstPartOf 1 (some .int)) (hp_rm 2 0 0) (hp_Pc Γ α [.int a0]) (hp_Qi Γ (fun r β => β = α)) 0 0 (hp_A Γ) := by
  refine hp_start (by decide) ?_
  intro p e s m below meth c C hr hlk B0 hnm
  have C : hp_C Γ p m c cX11_firstPartOf 1 s ([.int a0] : List Value).toArray RX11 := C
  have hx := C.1.1
  have hb := C.1.2.1
  have hown := C.1.2.2.2.1
  have hts := C.1.2.2.2.2
  have B : hp_B Γ (cw w_X11_firstPartOf) s α α s.heap [] := ⟨B0.1, B0.2.1, cw_rf g⟩
  have lit0 : (0 : Int32).toInt = 0 := by decide
  have lit1 : (1 : Int32).toInt = 1 := by decide
  have lit2 : (2 : Int32).toInt = 2 := by decide
  have hl := lv_entry ([.int a0]) (n := 1) (Nat.le_of_ble_eq_true rfl)
  show W p l e (hp_rm 2 0 0) s m ([.int a0] : List Value).toArray below meth c s.heap [] 0 0 (MQ below (hp_Qi Γ (fun r β => β = α)) ([.int a0] : List Value).toArray s 0 0 (hp_A Γ)) (entryFrame m ([.int a0] : List Value).toArray 1)
  rw [lg_entry_eq]
  generalize (lg_sl ([.int a0]) ++ List.replicate (1 - (lg_sl ([.int a0])).length) Slot.unset).toArray = ls at hl ⊢
  have hl : lv_has ls 1 [(0, .int a0)] := hl
  refine lv_iload_n hx hb dX11_firstPartOf_0 rfl (lv_at hl 0 rfl) (hp_n (n := 1) rfl ?_)
  refine lv_iconst (v := 2) hx hb dX11_firstPartOf_1 (by decide) (hp_n (n := 2) rfl ?_)
  refine lv_icmp_ge (tgt := 9) hx hb dX11_firstPartOf_2 (by decide) (fun c_1 => ?_) (fun c_1 => hp_n (n := 5) rfl ?_)
  ·
    have jc_1 := il_le c_1
    refine lv_iload_n hx hb dX11_firstPartOf_9 rfl (lv_at hl 0 rfl) (hp_n (n := 10) rfl ?_)
    refine lv_iconst (v := 1) hx hb dX11_firstPartOf_10 (by decide) (hp_n (n := 11) rfl ?_)
    refine lv_isub hx hb dX11_firstPartOf_11 (hp_n (n := 12) rfl (lv_topi (fun x_2 ex_2 => ?_)))
    refine q_ci (pc' := 15) B (hp_runS (As := [.int x_2]) (rest := []) C B (t_J6_highestOneBit_0f7a4 Γ l α B.2.2.1 x_2) lb_J6_highestOneBit_0f7a4 ls_J6_highestOneBit_0f7a4 lk_X11_463 rfl (by decide) rfl hl.1 rfl (Nat.le_of_ble_eq_true rfl) dX11_firstPartOf_12 ⟨Nat.le_refl _, Nat.le_refl _⟩) (fun _ _ h => by rw [h]; exact B.2.2) rfl (fun rh_3 αh_3 Hh_3 Lh_3 ph_3 Bh_3 => ?_)
    rw [ph_3] at Bh_3
    exact q_iret C Bh_3 hr hlk rfl dX11_firstPartOf_15
  ·
    have jc_1 := il_nle c_1
    refine lv_iconst (v := 0) hx hb dX11_firstPartOf_5 (by decide) (hp_n (n := 6) rfl ?_)
    refine lv_goto (tgt := 15) hx hb dX11_firstPartOf_6 (by decide) ?_
    exact q_iret C B hr hlk rfl dX11_firstPartOf_15
abbrev w_X11_hasOneOf : cw_W := ([], [], [], [])
set_option maxRecDepth 100000 in
set_option maxHeartbeats 4000000 in
theorem t_X11_hasOneOf (Γ : hp_G) (l : Launch) (α : hp_T) (g : GC α) (a0 : Int32) (a1 : Int32) (a2 : Int32) : Met l yX11_hasOneOf (hp_ws yX11_hasOneOf cX11_hasOneOf 4 (some .boolean)) (hp_rm 0 0 0) (hp_Pc Γ α [.int a0, .int a1, .int a2]) (hp_Qi Γ (fun r β => β = α ∧ (r = 0 ∨ r = 1))) 0 0 (hp_A Γ) := by
  refine hp_start (by decide) ?_
  intro p e s m below meth c C hr hlk B0 hnm
  have C : hp_C Γ p m c cX11_hasOneOf 4 s ([.int a0, .int a1, .int a2] : List Value).toArray RX11 := C
  have hx := C.1.1
  have hb := C.1.2.1
  have hown := C.1.2.2.2.1
  have hts := C.1.2.2.2.2
  have B : hp_B Γ (cw w_X11_hasOneOf) s α α s.heap [] := ⟨B0.1, B0.2.1, cw_rf g⟩
  have lit0 : (0 : Int32).toInt = 0 := by decide
  have lit1 : (1 : Int32).toInt = 1 := by decide
  have lit30 : (30 : Int32).toInt = 30 := by decide
  have hl := lv_entry ([.int a0, .int a1, .int a2]) (n := 4) (Nat.le_of_ble_eq_true rfl)
  show W p l e (hp_rm 0 0 0) s m ([.int a0, .int a1, .int a2] : List Value).toArray below meth c s.heap [] 0 0 (MQ below (hp_Qi Γ (fun r β => β = α ∧ (r = 0 ∨ r = 1))) ([.int a0, .int a1, .int a2] : List Value).toArray s 0 0 (hp_A Γ)) (entryFrame m ([.int a0, .int a1, .int a2] : List Value).toArray 4)
  rw [lg_entry_eq]
  generalize (lg_sl ([.int a0, .int a1, .int a2]) ++ List.replicate (4 - (lg_sl ([.int a0, .int a1, .int a2])).length) Slot.unset).toArray = ls at hl ⊢
  have hl : lv_has ls 4 [(0, .int a0), (1, .int a1), (2, .int a2)] := hl
  refine lv_iload_n hx hb dX11_hasOneOf_0 rfl (lv_at hl 1 rfl) (hp_n (n := 1) rfl ?_)
  refine lv_if_lt (tgt := 14) hx hb dX11_hasOneOf_1 (by decide) (fun c_1 => ?_) (fun c_1 => hp_n (n := 4) rfl ?_)
  ·
    have jc_1 := il_lt c_1
    refine lv_iconst (v := 0) hx hb dX11_hasOneOf_14 (by decide) (hp_n (n := 15) rfl ?_)
    exact q_zret C B hr hlk (by decide) ⟨rfl, (Or.inl rfl)⟩ dX11_hasOneOf_15
  ·
    have jc_1 := il_nlt c_1
    refine lv_iload_n hx hb dX11_hasOneOf_4 rfl (lv_at hl 1 rfl) (hp_n (n := 5) rfl ?_)
    refine lv_bipush (v := 30) hx hb dX11_hasOneOf_5 (by decide) (hp_n (n := 7) rfl ?_)
    refine lv_icmp_ge (tgt := 14) hx hb dX11_hasOneOf_7 (by decide) (fun c_2 => ?_) (fun c_2 => hp_n (n := 10) rfl ?_)
    ·
      have jc_2 := il_le c_2
      refine lv_iconst (v := 0) hx hb dX11_hasOneOf_14 (by decide) (hp_n (n := 15) rfl ?_)
      exact q_zret C B hr hlk (by decide) ⟨rfl, (Or.inl rfl)⟩ dX11_hasOneOf_15
    ·
      have jc_2 := il_nle c_2
      refine lv_iload_n hx hb dX11_hasOneOf_10 rfl (lv_at hl 2 rfl) (hp_n (n := 11) rfl ?_)
      refine lv_if_gt (tgt := 16) hx hb dX11_hasOneOf_11 (by decide) (fun c_3 => ?_) (fun c_3 => hp_n (n := 14) rfl ?_)
      ·
        have jc_3 := il_lt c_3
        refine lv_iload_n hx hb dX11_hasOneOf_16 rfl (lv_at hl 0 rfl) (hp_n (n := 17) rfl ?_)
        refine lv_iload_n hx hb dX11_hasOneOf_17 rfl (lv_at hl 1 rfl) (hp_n (n := 18) rfl ?_)
        refine lv_iushr hx hb dX11_hasOneOf_18 rfl (hp_n (n := 19) rfl (lv_topi (fun x_4 ex_4 => ?_)))
        refine lv_istore_n (lv' := [(3, .int x_4), (0, .int a0), (1, .int a1), (2, .int a2)]) hx hb dX11_hasOneOf_19 rfl hl (by decide) rfl (fun ls hl => hp_n (n := 20) rfl ?_)
        refine lv_iload_n hx hb dX11_hasOneOf_20 rfl (lv_at hl 3 rfl) (hp_n (n := 21) rfl ?_)
        refine lv_bipush (v := 30) hx hb dX11_hasOneOf_21 (by decide) (hp_n (n := 23) rfl ?_)
        refine lv_icmp_lt (tgt := 30) hx hb dX11_hasOneOf_23 (by decide) (fun c_5 => ?_) (fun c_5 => hp_n (n := 26) rfl ?_)
        ·
          have jc_5 := il_lt c_5
          refine lv_iload_n hx hb dX11_hasOneOf_30 rfl (lv_at hl 0 rfl) (hp_n (n := 31) rfl ?_)
          refine lv_iconst (v := 1) hx hb dX11_hasOneOf_31 (by decide) (hp_n (n := 32) rfl ?_)
          refine lv_iload_n hx hb dX11_hasOneOf_32 rfl (lv_at hl 3 rfl) (hp_n (n := 33) rfl ?_)
          refine lv_ishl hx hb dX11_hasOneOf_33 (hp_n (n := 34) rfl (lv_topi (fun x_6 ex_6 => ?_)))
          refine lv_iconst (v := 1) hx hb dX11_hasOneOf_34 (by decide) (hp_n (n := 35) rfl ?_)
          refine lv_isub hx hb dX11_hasOneOf_35 (hp_n (n := 36) rfl (lv_topi (fun x_7 ex_7 => ?_)))
          refine lv_iand hx hb dX11_hasOneOf_36 (hp_n (n := 37) rfl (lv_topi (fun x_8 ex_8 => ?_)))
          refine lv_if_eq (tgt := 44) hx hb dX11_hasOneOf_37 (by decide) (fun c_9 => ?_) (fun c_9 => hp_n (n := 40) rfl ?_)
          ·
            have jc_9 := il_eq c_9
            refine lv_iconst (v := 0) hx hb dX11_hasOneOf_44 (by decide) (hp_n (n := 45) rfl ?_)
            exact q_zret C B hr hlk (by decide) ⟨rfl, (Or.inl rfl)⟩ dX11_hasOneOf_45
          ·
            have jc_9 := il_ne c_9
            refine lv_iconst (v := 1) hx hb dX11_hasOneOf_40 (by decide) (hp_n (n := 41) rfl ?_)
            refine lv_goto (tgt := 45) hx hb dX11_hasOneOf_41 (by decide) ?_
            exact q_zret C B hr hlk (by decide) ⟨rfl, (Or.inr rfl)⟩ dX11_hasOneOf_45
        ·
          have jc_5 := il_nlt c_5
          refine lv_iload_n hx hb dX11_hasOneOf_26 rfl (lv_at hl 0 rfl) (hp_n (n := 27) rfl ?_)
          refine lv_goto (tgt := 37) hx hb dX11_hasOneOf_27 (by decide) ?_
          refine lv_if_eq (tgt := 44) hx hb dX11_hasOneOf_37 (by decide) (fun c_10 => ?_) (fun c_10 => hp_n (n := 40) rfl ?_)
          ·
            have jc_10 := il_eq c_10
            refine lv_iconst (v := 0) hx hb dX11_hasOneOf_44 (by decide) (hp_n (n := 45) rfl ?_)
            exact q_zret C B hr hlk (by decide) ⟨rfl, (Or.inl rfl)⟩ dX11_hasOneOf_45
          ·
            have jc_10 := il_ne c_10
            refine lv_iconst (v := 1) hx hb dX11_hasOneOf_40 (by decide) (hp_n (n := 41) rfl ?_)
            refine lv_goto (tgt := 45) hx hb dX11_hasOneOf_41 (by decide) ?_
            exact q_zret C B hr hlk (by decide) ⟨rfl, (Or.inr rfl)⟩ dX11_hasOneOf_45
      ·
        have jc_3 := il_nlt c_3
        refine lv_iconst (v := 0) hx hb dX11_hasOneOf_14 (by decide) (hp_n (n := 15) rfl ?_)
        exact q_zret C B hr hlk (by decide) ⟨rfl, (Or.inl rfl)⟩ dX11_hasOneOf_15
abbrev w_X8_firstAt : cw_W := ([], [], [], [])
set_option maxRecDepth 100000 in
set_option maxHeartbeats 4000000 in
theorem t_X8_firstAt (Γ : hp_G) (l : Launch) (α : hp_T) (g : GC α) (a0 : Nat) (k0 : hp_K α a0 = 9) (a1 : Int32) : Met l yX8_firstAt (hp_ws yX8_firstAt cX8_firstAt 2 (some .int)) (hp_rm 0 0 0) (hp_Pc Γ α [.ref a0, .int a1]) (hp_Qi Γ (fun r β => β = α)) 0 0 (hp_A Γ) := by
  refine hp_start (by decide) ?_
  intro p e s m below meth c C hr hlk B0 hnm
  have C : hp_C Γ p m c cX8_firstAt 2 s ([.ref a0, .int a1] : List Value).toArray RX8 := C
  have hx := C.1.1
  have hb := C.1.2.1
  have hown := C.1.2.2.2.1
  have hts := C.1.2.2.2.2
  have B : hp_B Γ (cw w_X8_firstAt) s α α s.heap [] := ⟨B0.1, B0.2.1, cw_rf g⟩
  have lit0 : (0 : Int32).toInt = 0 := by decide
  have lit64 : (64 : Int32).toInt = 64 := by decide
  have hl := lv_entry ([.ref a0, .int a1]) (n := 2) (Nat.le_of_ble_eq_true rfl)
  show W p l e (hp_rm 0 0 0) s m ([.ref a0, .int a1] : List Value).toArray below meth c s.heap [] 0 0 (MQ below (hp_Qi Γ (fun r β => β = α)) ([.ref a0, .int a1] : List Value).toArray s 0 0 (hp_A Γ)) (entryFrame m ([.ref a0, .int a1] : List Value).toArray 2)
  rw [lg_entry_eq]
  generalize (lg_sl ([.ref a0, .int a1]) ++ List.replicate (2 - (lg_sl ([.ref a0, .int a1])).length) Slot.unset).toArray = ls at hl ⊢
  have hl : lv_has ls 2 [(0, .ref a0), (1, .int a1)] := hl
  refine lv_iload_n hx hb dX8_firstAt_0 rfl (lv_at hl 1 rfl) (hp_n (n := 1) rfl ?_)
  refine lv_if_lt (tgt := 30) hx hb dX8_firstAt_1 (by decide) (fun c_1 => ?_) (fun c_1 => hp_n (n := 4) rfl ?_)
  ·
    have jc_1 := il_lt c_1
    refine lv_iconst (v := 0) hx hb dX8_firstAt_30 (by decide) (hp_n (n := 31) rfl ?_)
    exact q_iret C B hr hlk rfl dX8_firstAt_31
  ·
    have jc_1 := il_nlt c_1
    refine lv_iload_n hx hb dX8_firstAt_4 rfl (lv_at hl 1 rfl) (hp_n (n := 5) rfl ?_)
    refine lv_aload_n hx hb dX8_firstAt_5 rfl (lv_at hl 0 rfl) (hp_n (n := 6) rfl ?_)
    refine q_geti (κ := 9) (k := 3) (φ := 453) (pc' := 9) C B (cw_k B.2.2 k0) fl_X8_22 rfl rfl rfl dX8_firstAt_6 rfl (fun x_2 ex_2 => ?_)
    obtain ⟨gx_2a, gx_2b⟩ : 0 ≤ x_2.toInt ∧ x_2.toInt ≤ 64 := by rw [ex_2]; exact B.2.2.1.1 453 a0 rfl
    refine lv_icmp_ge (tgt := 30) hx hb dX8_firstAt_9 (by decide) (fun c_3 => ?_) (fun c_3 => hp_n (n := 12) rfl ?_)
    ·
      have jc_3 := il_le c_3
      refine lv_iconst (v := 0) hx hb dX8_firstAt_30 (by decide) (hp_n (n := 31) rfl ?_)
      exact q_iret C B hr hlk rfl dX8_firstAt_31
    ·
      have jc_3 := il_nle c_3
      refine lv_iload_n hx hb dX8_firstAt_12 rfl (lv_at hl 1 rfl) (hp_n (n := 13) rfl ?_)
      refine lv_aload_n hx hb dX8_firstAt_13 rfl (lv_at hl 0 rfl) (hp_n (n := 14) rfl ?_)
      refine q_getr (κ := 9) (k := 0) (φ := 450) (pc' := 17) C B (cw_k B.2.2 k0) fl_X8_9 rfl rfl rfl (cw_r B.2.2 k0 rfl rfl (by decide) (by decide)) dX8_firstAt_14 rfl (fun b_4 eb_4 kb_4 => ?_)
      refine q_alen (κ := 21) (t := 0) (n := 64) (x := 64) (ty := .int) (pc' := 18) C B (cw_k B.2.2 kb_4) (by decide) rfl rfl rfl dX8_firstAt_17 rfl ?_
      refine lv_icmp_ge (tgt := 30) hx hb dX8_firstAt_18 (by decide) (fun c_5 => ?_) (fun c_5 => hp_n (n := 21) rfl ?_)
      ·
        have jc_5 := il_le c_5
        refine lv_iconst (v := 0) hx hb dX8_firstAt_30 (by decide) (hp_n (n := 31) rfl ?_)
        exact q_iret C B hr hlk rfl dX8_firstAt_31
      ·
        have jc_5 := il_nle c_5
        refine lv_aload_n hx hb dX8_firstAt_21 rfl (lv_at hl 0 rfl) (hp_n (n := 22) rfl ?_)
        refine q_gets (κ := 9) (k := 0) (φ := 450) (pc' := 25) C B (cw_k B.2.2 k0) fl_X8_9 rfl rfl rfl eb_4 dX8_firstAt_22 rfl ?_
        refine lv_iload_n hx hb dX8_firstAt_25 rfl (lv_at hl 1 rfl) (hp_n (n := 26) rfl ?_)
        refine q_ial (κ := 21) (n := 64) (pc' := 27) C B (cw_k B.2.2 kb_4) (by decide) rfl (vi_of (by omega) (by omega)) dX8_firstAt_26 rfl (lv_topi (fun x_6 ex_6 => ?_))
        refine lv_goto (tgt := 31) hx hb dX8_firstAt_27 (by decide) ?_
        exact q_iret C B hr hlk rfl dX8_firstAt_31
abbrev w_X8_manyAt : cw_W := ([], [], [], [])
set_option maxRecDepth 100000 in
set_option maxHeartbeats 4000000 in
theorem t_X8_manyAt (Γ : hp_G) (l : Launch) (α : hp_T) (g : GC α) (a0 : Nat) (k0 : hp_K α a0 = 9) (a1 : Int32) : Met l yX8_manyAt (hp_ws yX8_manyAt cX8_manyAt 2 (some .int)) (hp_rm 0 0 0) (hp_Pc Γ α [.ref a0, .int a1]) (hp_Qi Γ (fun r β => β = α)) 0 0 (hp_A Γ) := by
  refine hp_start (by decide) ?_
  intro p e s m below meth c C hr hlk B0 hnm
  have C : hp_C Γ p m c cX8_manyAt 2 s ([.ref a0, .int a1] : List Value).toArray RX8 := C
  have hx := C.1.1
  have hb := C.1.2.1
  have hown := C.1.2.2.2.1
  have hts := C.1.2.2.2.2
  have B : hp_B Γ (cw w_X8_manyAt) s α α s.heap [] := ⟨B0.1, B0.2.1, cw_rf g⟩
  have lit0 : (0 : Int32).toInt = 0 := by decide
  have lit64 : (64 : Int32).toInt = 64 := by decide
  have hl := lv_entry ([.ref a0, .int a1]) (n := 2) (Nat.le_of_ble_eq_true rfl)
  show W p l e (hp_rm 0 0 0) s m ([.ref a0, .int a1] : List Value).toArray below meth c s.heap [] 0 0 (MQ below (hp_Qi Γ (fun r β => β = α)) ([.ref a0, .int a1] : List Value).toArray s 0 0 (hp_A Γ)) (entryFrame m ([.ref a0, .int a1] : List Value).toArray 2)
  rw [lg_entry_eq]
  generalize (lg_sl ([.ref a0, .int a1]) ++ List.replicate (2 - (lg_sl ([.ref a0, .int a1])).length) Slot.unset).toArray = ls at hl ⊢
  have hl : lv_has ls 2 [(0, .ref a0), (1, .int a1)] := hl
  refine lv_iload_n hx hb dX8_manyAt_0 rfl (lv_at hl 1 rfl) (hp_n (n := 1) rfl ?_)
  refine lv_if_lt (tgt := 30) hx hb dX8_manyAt_1 (by decide) (fun c_1 => ?_) (fun c_1 => hp_n (n := 4) rfl ?_)
  ·
    have jc_1 := il_lt c_1
    refine lv_iconst (v := 0) hx hb dX8_manyAt_30 (by decide) (hp_n (n := 31) rfl ?_)
    exact q_iret C B hr hlk rfl dX8_manyAt_31
  ·
    have jc_1 := il_nlt c_1
    refine lv_iload_n hx hb dX8_manyAt_4 rfl (lv_at hl 1 rfl) (hp_n (n := 5) rfl ?_)
    refine lv_aload_n hx hb dX8_manyAt_5 rfl (lv_at hl 0 rfl) (hp_n (n := 6) rfl ?_)
    refine q_geti (κ := 9) (k := 3) (φ := 453) (pc' := 9) C B (cw_k B.2.2 k0) fl_X8_22 rfl rfl rfl dX8_manyAt_6 rfl (fun x_2 ex_2 => ?_)
    obtain ⟨gx_2a, gx_2b⟩ : 0 ≤ x_2.toInt ∧ x_2.toInt ≤ 64 := by rw [ex_2]; exact B.2.2.1.1 453 a0 rfl
    refine lv_icmp_ge (tgt := 30) hx hb dX8_manyAt_9 (by decide) (fun c_3 => ?_) (fun c_3 => hp_n (n := 12) rfl ?_)
    ·
      have jc_3 := il_le c_3
      refine lv_iconst (v := 0) hx hb dX8_manyAt_30 (by decide) (hp_n (n := 31) rfl ?_)
      exact q_iret C B hr hlk rfl dX8_manyAt_31
    ·
      have jc_3 := il_nle c_3
      refine lv_iload_n hx hb dX8_manyAt_12 rfl (lv_at hl 1 rfl) (hp_n (n := 13) rfl ?_)
      refine lv_aload_n hx hb dX8_manyAt_13 rfl (lv_at hl 0 rfl) (hp_n (n := 14) rfl ?_)
      refine q_getr (κ := 9) (k := 1) (φ := 451) (pc' := 17) C B (cw_k B.2.2 k0) fl_X8_15 rfl rfl rfl (cw_r B.2.2 k0 rfl rfl (by decide) (by decide)) dX8_manyAt_14 rfl (fun b_4 eb_4 kb_4 => ?_)
      refine q_alen (κ := 22) (t := 0) (n := 64) (x := 64) (ty := .int) (pc' := 18) C B (cw_k B.2.2 kb_4) (by decide) rfl rfl rfl dX8_manyAt_17 rfl ?_
      refine lv_icmp_ge (tgt := 30) hx hb dX8_manyAt_18 (by decide) (fun c_5 => ?_) (fun c_5 => hp_n (n := 21) rfl ?_)
      ·
        have jc_5 := il_le c_5
        refine lv_iconst (v := 0) hx hb dX8_manyAt_30 (by decide) (hp_n (n := 31) rfl ?_)
        exact q_iret C B hr hlk rfl dX8_manyAt_31
      ·
        have jc_5 := il_nle c_5
        refine lv_aload_n hx hb dX8_manyAt_21 rfl (lv_at hl 0 rfl) (hp_n (n := 22) rfl ?_)
        refine q_gets (κ := 9) (k := 1) (φ := 451) (pc' := 25) C B (cw_k B.2.2 k0) fl_X8_15 rfl rfl rfl eb_4 dX8_manyAt_22 rfl ?_
        refine lv_iload_n hx hb dX8_manyAt_25 rfl (lv_at hl 1 rfl) (hp_n (n := 26) rfl ?_)
        refine q_ial (κ := 22) (n := 64) (pc' := 27) C B (cw_k B.2.2 kb_4) (by decide) rfl (vi_of (by omega) (by omega)) dX8_manyAt_26 rfl (lv_topi (fun x_6 ex_6 => ?_))
        refine lv_goto (tgt := 31) hx hb dX8_manyAt_27 (by decide) ?_
        exact q_iret C B hr hlk rfl dX8_manyAt_31
abbrev w_X8_isAhead : cw_W := ([], [], [], [])
set_option maxRecDepth 100000 in
set_option maxHeartbeats 4000000 in
theorem t_X8_isAhead (Γ : hp_G) (l : Launch) (α : hp_T) (g : GC α) (a0 : Nat) (k0 : hp_K α a0 = 9) (a1 : Int32) : Met l yX8_isAhead (hp_ws yX8_isAhead cX8_isAhead 2 (some .boolean)) (hp_rm 0 0 0) (hp_Pc Γ α [.ref a0, .int a1]) (hp_Qi Γ (fun r β => β = α ∧ (r = 0 ∨ r = 1))) 0 0 (hp_A Γ) := by
  refine hp_start (by decide) ?_
  intro p e s m below meth c C hr hlk B0 hnm
  have C : hp_C Γ p m c cX8_isAhead 2 s ([.ref a0, .int a1] : List Value).toArray RX8 := C
  have hx := C.1.1
  have hb := C.1.2.1
  have hown := C.1.2.2.2.1
  have hts := C.1.2.2.2.2
  have B : hp_B Γ (cw w_X8_isAhead) s α α s.heap [] := ⟨B0.1, B0.2.1, cw_rf g⟩
  have lit0 : (0 : Int32).toInt = 0 := by decide
  have lit1 : (1 : Int32).toInt = 1 := by decide
  have lit64 : (64 : Int32).toInt = 64 := by decide
  have hl := lv_entry ([.ref a0, .int a1]) (n := 2) (Nat.le_of_ble_eq_true rfl)
  show W p l e (hp_rm 0 0 0) s m ([.ref a0, .int a1] : List Value).toArray below meth c s.heap [] 0 0 (MQ below (hp_Qi Γ (fun r β => β = α ∧ (r = 0 ∨ r = 1))) ([.ref a0, .int a1] : List Value).toArray s 0 0 (hp_A Γ)) (entryFrame m ([.ref a0, .int a1] : List Value).toArray 2)
  rw [lg_entry_eq]
  generalize (lg_sl ([.ref a0, .int a1]) ++ List.replicate (2 - (lg_sl ([.ref a0, .int a1])).length) Slot.unset).toArray = ls at hl ⊢
  have hl : lv_has ls 2 [(0, .ref a0), (1, .int a1)] := hl
  refine lv_iload_n hx hb dX8_isAhead_0 rfl (lv_at hl 1 rfl) (hp_n (n := 1) rfl ?_)
  refine lv_if_lt (tgt := 34) hx hb dX8_isAhead_1 (by decide) (fun c_1 => ?_) (fun c_1 => hp_n (n := 4) rfl ?_)
  ·
    have jc_1 := il_lt c_1
    refine lv_iconst (v := 0) hx hb dX8_isAhead_34 (by decide) (hp_n (n := 35) rfl ?_)
    exact q_zret C B hr hlk (by decide) ⟨rfl, (Or.inl rfl)⟩ dX8_isAhead_35
  ·
    have jc_1 := il_nlt c_1
    refine lv_iload_n hx hb dX8_isAhead_4 rfl (lv_at hl 1 rfl) (hp_n (n := 5) rfl ?_)
    refine lv_aload_n hx hb dX8_isAhead_5 rfl (lv_at hl 0 rfl) (hp_n (n := 6) rfl ?_)
    refine q_geti (κ := 9) (k := 3) (φ := 453) (pc' := 9) C B (cw_k B.2.2 k0) fl_X8_22 rfl rfl rfl dX8_isAhead_6 rfl (fun x_2 ex_2 => ?_)
    obtain ⟨gx_2a, gx_2b⟩ : 0 ≤ x_2.toInt ∧ x_2.toInt ≤ 64 := by rw [ex_2]; exact B.2.2.1.1 453 a0 rfl
    refine lv_icmp_ge (tgt := 34) hx hb dX8_isAhead_9 (by decide) (fun c_3 => ?_) (fun c_3 => hp_n (n := 12) rfl ?_)
    ·
      have jc_3 := il_le c_3
      refine lv_iconst (v := 0) hx hb dX8_isAhead_34 (by decide) (hp_n (n := 35) rfl ?_)
      exact q_zret C B hr hlk (by decide) ⟨rfl, (Or.inl rfl)⟩ dX8_isAhead_35
    ·
      have jc_3 := il_nle c_3
      refine lv_iload_n hx hb dX8_isAhead_12 rfl (lv_at hl 1 rfl) (hp_n (n := 13) rfl ?_)
      refine lv_aload_n hx hb dX8_isAhead_13 rfl (lv_at hl 0 rfl) (hp_n (n := 14) rfl ?_)
      refine q_getr (κ := 9) (k := 2) (φ := 452) (pc' := 17) C B (cw_k B.2.2 k0) fl_X8_18 rfl rfl rfl (cw_r B.2.2 k0 rfl rfl (by decide) (by decide)) dX8_isAhead_14 rfl (fun b_4 eb_4 kb_4 => ?_)
      refine q_alen (κ := 23) (t := 2) (n := 64) (x := 64) (ty := .boolean) (pc' := 18) C B (cw_k B.2.2 kb_4) (by decide) rfl rfl rfl dX8_isAhead_17 rfl ?_
      refine lv_icmp_ge (tgt := 34) hx hb dX8_isAhead_18 (by decide) (fun c_5 => ?_) (fun c_5 => hp_n (n := 21) rfl ?_)
      ·
        have jc_5 := il_le c_5
        refine lv_iconst (v := 0) hx hb dX8_isAhead_34 (by decide) (hp_n (n := 35) rfl ?_)
        exact q_zret C B hr hlk (by decide) ⟨rfl, (Or.inl rfl)⟩ dX8_isAhead_35
      ·
        have jc_5 := il_nle c_5
        refine lv_aload_n hx hb dX8_isAhead_21 rfl (lv_at hl 0 rfl) (hp_n (n := 22) rfl ?_)
        refine q_gets (κ := 9) (k := 2) (φ := 452) (pc' := 25) C B (cw_k B.2.2 k0) fl_X8_18 rfl rfl rfl eb_4 dX8_isAhead_22 rfl ?_
        refine lv_iload_n hx hb dX8_isAhead_25 rfl (lv_at hl 1 rfl) (hp_n (n := 26) rfl ?_)
        refine q_zal (κ := 23) (n := 64) (pc' := 27) C B (cw_k B.2.2 kb_4) (by decide) rfl (vi_of (by omega) (by omega)) dX8_isAhead_26 rfl (lv_topi (fun x_6 ex_6 => ?_))
        refine lv_if_eq (tgt := 34) hx hb dX8_isAhead_27 (by decide) (fun c_7 => ?_) (fun c_7 => hp_n (n := 30) rfl ?_)
        ·
          have jc_7 := il_eq c_7
          refine lv_iconst (v := 0) hx hb dX8_isAhead_34 (by decide) (hp_n (n := 35) rfl ?_)
          exact q_zret C B hr hlk (by decide) ⟨rfl, (Or.inl rfl)⟩ dX8_isAhead_35
        ·
          have jc_7 := il_ne c_7
          refine lv_iconst (v := 1) hx hb dX8_isAhead_30 (by decide) (hp_n (n := 31) rfl ?_)
          refine lv_goto (tgt := 35) hx hb dX8_isAhead_31 (by decide) ?_
          exact q_zret C B hr hlk (by decide) ⟨rfl, (Or.inr rfl)⟩ dX8_isAhead_35
abbrev w_X8_clear : cw_W := ([453, 454], [], [], [])
set_option maxRecDepth 100000 in
set_option maxHeartbeats 4000000 in
theorem t_X8_clear (Γ : hp_G) (l : Launch) (α : hp_T) (g : GC α) (a0 : Nat) (k0 : hp_K α a0 = 9) : Met l yX8_clear (hp_ws yX8_clear cX8_clear 1 none) (hp_rm 0 0 0) (hp_Pc Γ α [.ref a0]) (hp_Qv Γ (fun β => cw w_X8_clear α β)) 0 0 (hp_A Γ) := by
  refine hp_start (by decide) ?_
  intro p e s m below meth c C hr hlk B0 hnm
  have C : hp_C Γ p m c cX8_clear 1 s ([.ref a0] : List Value).toArray RX8 := C
  have hx := C.1.1
  have hb := C.1.2.1
  have hown := C.1.2.2.2.1
  have hts := C.1.2.2.2.2
  have B : hp_B Γ (cw w_X8_clear) s α α s.heap [] := ⟨B0.1, B0.2.1, cw_rf g⟩
  have lit0 : (0 : Int32).toInt = 0 := by decide
  have hl := lv_entry ([.ref a0]) (n := 1) (Nat.le_of_ble_eq_true rfl)
  show W p l e (hp_rm 0 0 0) s m ([.ref a0] : List Value).toArray below meth c s.heap [] 0 0 (MQ below (hp_Qv Γ (fun β => cw w_X8_clear α β)) ([.ref a0] : List Value).toArray s 0 0 (hp_A Γ)) (entryFrame m ([.ref a0] : List Value).toArray 1)
  rw [lg_entry_eq]
  generalize (lg_sl ([.ref a0]) ++ List.replicate (1 - (lg_sl ([.ref a0])).length) Slot.unset).toArray = ls at hl ⊢
  have hl : lv_has ls 1 [(0, .ref a0)] := hl
  refine lv_aload_n hx hb dX8_clear_0 rfl (lv_at hl 0 rfl) (hp_n (n := 1) rfl ?_)
  refine lv_iconst (v := 0) hx hb dX8_clear_1 (by decide) (hp_n (n := 2) rfl ?_)
  refine q_puti (κ := 9) (k := 3) (φ := 453) (pc' := 5) C B (cw_k B.2.2 k0) fl_X8_22 rfl rfl rfl rfl rfl rfl (cw_sI B.2.2 (by decide) (fun _ => by first | exact ⟨by decide, by decide⟩ | (constructor <;> omega))) dX8_clear_2 rfl (fun αh_1 Hh_1 Lh_1 eh_1 Bh_1 => ?_)
  refine lv_aload_n hx hb dX8_clear_5 rfl (lv_at hl 0 rfl) (hp_n (n := 6) rfl ?_)
  refine lv_iconst (v := 0) hx hb dX8_clear_6 (by decide) (hp_n (n := 7) rfl ?_)
  refine q_puti (κ := 9) (k := 4) (φ := 454) (pc' := 10) C Bh_1 (cw_k Bh_1.2.2 k0) fl_X8_26 rfl rfl rfl rfl rfl rfl (cw_sI Bh_1.2.2 (by decide) (fun h => absurd h (by decide))) dX8_clear_7 rfl (fun αh_2 Hh_2 Lh_2 eh_2 Bh_2 => ?_)
  exact q_vret C Bh_2 hr hlk Bh_2.2.2 dX8_clear_10
abbrev w_X8_put : cw_W := ([453], [], [21, 22, 23], [])
set_option maxRecDepth 100000 in
set_option maxHeartbeats 4000000 in
theorem t_X8_put (Γ : hp_G) (l : Launch) (α : hp_T) (g : GC α) (a0 : Nat) (k0 : hp_K α a0 = 9) (a1 : Int32) (a2 : Int32) (a3 : Int32) (z3 : a3 = 0 ∨ a3 = 1) : Met l yX8_put (hp_ws yX8_put cX8_put 4 none) (hp_rm 0 0 0) (hp_Pc Γ α [.ref a0, .int a1, .int a2, .int a3]) (hp_Qv Γ (fun β => cw w_X8_put α β)) 0 0 (hp_A Γ) := by
  refine hp_start (by decide) ?_
  intro p e s m below meth c C hr hlk B0 hnm
  have C : hp_C Γ p m c cX8_put 4 s ([.ref a0, .int a1, .int a2, .int a3] : List Value).toArray RX8 := C
  have hx := C.1.1
  have hb := C.1.2.1
  have hown := C.1.2.2.2.1
  have hts := C.1.2.2.2.2
  have B : hp_B Γ (cw w_X8_put) s α α s.heap [] := ⟨B0.1, B0.2.1, cw_rf g⟩
  have lit0 : (0 : Int32).toInt = 0 := by decide
  have lit1 : (1 : Int32).toInt = 1 := by decide
  have lit64 : (64 : Int32).toInt = 64 := by decide
  have hl := lv_entry ([.ref a0, .int a1, .int a2, .int a3]) (n := 4) (Nat.le_of_ble_eq_true rfl)
  show W p l e (hp_rm 0 0 0) s m ([.ref a0, .int a1, .int a2, .int a3] : List Value).toArray below meth c s.heap [] 0 0 (MQ below (hp_Qv Γ (fun β => cw w_X8_put α β)) ([.ref a0, .int a1, .int a2, .int a3] : List Value).toArray s 0 0 (hp_A Γ)) (entryFrame m ([.ref a0, .int a1, .int a2, .int a3] : List Value).toArray 4)
  rw [lg_entry_eq]
  generalize (lg_sl ([.ref a0, .int a1, .int a2, .int a3]) ++ List.replicate (4 - (lg_sl ([.ref a0, .int a1, .int a2, .int a3])).length) Slot.unset).toArray = ls at hl ⊢
  have hl : lv_has ls 4 [(0, .ref a0), (1, .int a1), (2, .int a2), (3, .int a3)] := hl
  refine lv_aload_n hx hb dX8_put_0 rfl (lv_at hl 0 rfl) (hp_n (n := 1) rfl ?_)
  refine q_geti (κ := 9) (k := 3) (φ := 453) (pc' := 4) C B (cw_k B.2.2 k0) fl_X8_22 rfl rfl rfl dX8_put_1 rfl (fun x_1 ex_1 => ?_)
  obtain ⟨gx_1a, gx_1b⟩ : 0 ≤ x_1.toInt ∧ x_1.toInt ≤ 64 := by rw [ex_1]; exact B.2.2.1.1 453 a0 rfl
  refine lv_if_lt (tgt := 56) hx hb dX8_put_4 (by decide) (fun c_2 => ?_) (fun c_2 => hp_n (n := 7) rfl ?_)
  ·
    have jc_2 := il_lt c_2
    exact q_vret C B hr hlk B.2.2 dX8_put_56
  ·
    have jc_2 := il_nlt c_2
    refine lv_aload_n hx hb dX8_put_7 rfl (lv_at hl 0 rfl) (hp_n (n := 8) rfl ?_)
    refine q_getj (κ := 9) (k := 3) (φ := 453) (pc' := 11) C B (cw_k B.2.2 k0) fl_X8_22 rfl rfl rfl ex_1 dX8_put_8 rfl ?_
    refine lv_bipush (v := 64) hx hb dX8_put_11 (by decide) (hp_n (n := 13) rfl ?_)
    refine lv_icmp_ge (tgt := 56) hx hb dX8_put_13 (by decide) (fun c_3 => ?_) (fun c_3 => hp_n (n := 16) rfl ?_)
    ·
      have jc_3 := il_le c_3
      exact q_vret C B hr hlk B.2.2 dX8_put_56
    ·
      have jc_3 := il_nle c_3
      refine lv_aload_n hx hb dX8_put_16 rfl (lv_at hl 0 rfl) (hp_n (n := 17) rfl ?_)
      refine q_getr (κ := 9) (k := 0) (φ := 450) (pc' := 20) C B (cw_k B.2.2 k0) fl_X8_9 rfl rfl rfl (cw_r B.2.2 k0 rfl rfl (by decide) (by decide)) dX8_put_17 rfl (fun b_4 eb_4 kb_4 => ?_)
      refine lv_aload_n hx hb dX8_put_20 rfl (lv_at hl 0 rfl) (hp_n (n := 21) rfl ?_)
      refine q_getj (κ := 9) (k := 3) (φ := 453) (pc' := 24) C B (cw_k B.2.2 k0) fl_X8_22 rfl rfl rfl ex_1 dX8_put_21 rfl ?_
      refine lv_iload_n hx hb dX8_put_24 rfl (lv_at hl 1 rfl) (hp_n (n := 25) rfl ?_)
      refine q_ias (κ := 21) (n := 64) (pc' := 26) C B (cw_k B.2.2 kb_4) (by decide) rfl (vi_of (by omega) (by omega)) rfl (cw_sE B.2.2 (by decide)) dX8_put_25 rfl (fun αh_5 Hh_5 Lh_5 eh_5 Bh_5 => ?_)
      refine lv_aload_n hx hb dX8_put_26 rfl (lv_at hl 0 rfl) (hp_n (n := 27) rfl ?_)
      refine q_getr (κ := 9) (k := 1) (φ := 451) (pc' := 30) C Bh_5 (cw_k Bh_5.2.2 k0) fl_X8_15 rfl rfl rfl (cw_r Bh_5.2.2 k0 rfl rfl (by decide) (by decide)) dX8_put_27 rfl (fun b_6 eb_6 kb_6 => ?_)
      refine lv_aload_n hx hb dX8_put_30 rfl (lv_at hl 0 rfl) (hp_n (n := 31) rfl ?_)
      have t_7 : x_1 = hp_I αh_5 453 a0 := by rw [eh_5]; exact ex_1
      refine q_getj (κ := 9) (k := 3) (φ := 453) (pc' := 34) C Bh_5 (cw_k Bh_5.2.2 k0) fl_X8_22 rfl rfl rfl t_7 dX8_put_31 rfl ?_
      refine lv_iload_n hx hb dX8_put_34 rfl (lv_at hl 2 rfl) (hp_n (n := 35) rfl ?_)
      refine q_ias (κ := 22) (n := 64) (pc' := 36) C Bh_5 (cw_k Bh_5.2.2 kb_6) (by decide) rfl (vi_of (by omega) (by omega)) rfl (cw_sE Bh_5.2.2 (by decide)) dX8_put_35 rfl (fun αh_8 Hh_8 Lh_8 eh_8 Bh_8 => ?_)
      refine lv_aload_n hx hb dX8_put_36 rfl (lv_at hl 0 rfl) (hp_n (n := 37) rfl ?_)
      refine q_getr (κ := 9) (k := 2) (φ := 452) (pc' := 40) C Bh_8 (cw_k Bh_8.2.2 k0) fl_X8_18 rfl rfl rfl (cw_r Bh_8.2.2 k0 rfl rfl (by decide) (by decide)) dX8_put_37 rfl (fun b_9 eb_9 kb_9 => ?_)
      refine lv_aload_n hx hb dX8_put_40 rfl (lv_at hl 0 rfl) (hp_n (n := 41) rfl ?_)
      have t_10 : x_1 = hp_I αh_8 453 a0 := by rw [eh_8]; exact t_7
      refine q_getj (κ := 9) (k := 3) (φ := 453) (pc' := 44) C Bh_8 (cw_k Bh_8.2.2 k0) fl_X8_22 rfl rfl rfl t_10 dX8_put_41 rfl ?_
      refine lv_iload_n hx hb dX8_put_44 rfl (lv_at hl 3 rfl) (hp_n (n := 45) rfl ?_)
      refine q_zas (κ := 23) (n := 64) (pc' := 46) C Bh_8 (cw_k Bh_8.2.2 kb_9) (by decide) rfl (vi_of (by omega) (by omega)) rfl rfl (cw_sE Bh_8.2.2 (by decide)) dX8_put_45 rfl (fun αh_11 Hh_11 Lh_11 eh_11 Bh_11 => ?_)
      refine lv_aload_n hx hb dX8_put_46 rfl (lv_at hl 0 rfl) (hp_n (n := 47) rfl ?_)
      refine lv_dup hx hb dX8_put_47 rfl (hp_n (n := 48) rfl ?_)
      have t_12 : x_1 = hp_I αh_11 453 a0 := by rw [eh_11]; exact t_10
      refine q_getj (κ := 9) (k := 3) (φ := 453) (pc' := 51) C Bh_11 (cw_k Bh_11.2.2 k0) fl_X8_22 rfl rfl rfl t_12 dX8_put_48 rfl ?_
      refine lv_iconst (v := 1) hx hb dX8_put_51 (by decide) (hp_n (n := 52) rfl ?_)
      refine lv_iadd hx hb dX8_put_52 (hp_n (n := 53) rfl (lv_topi (fun x_13 ex_13 => ?_)))
      have qx_13 : x_13.toInt = x_1.toInt + 1 := by have qa := ib_lo x_1; rw [ex_13]; exact ii_add (by omega) (by omega)
      refine q_puti (κ := 9) (k := 3) (φ := 453) (pc' := 56) C Bh_11 (cw_k Bh_11.2.2 k0) fl_X8_22 rfl rfl rfl rfl rfl rfl (cw_sI Bh_11.2.2 (by decide) (fun _ => by have qc : (x_1 + 1).toInt = x_1.toInt + (1 : Int32).toInt := ii_add (by omega) (by omega); rw [ex_13]; constructor <;> omega)) dX8_put_53 rfl (fun αh_14 Hh_14 Lh_14 eh_14 Bh_14 => ?_)
      exact q_vret C Bh_14 hr hlk Bh_14.2.2 dX8_put_56
abbrev w_X8_turnRound : cw_W := ([], [], [21, 22, 23], [])
set_option maxRecDepth 100000 in
set_option maxHeartbeats 4000000 in
theorem t_X8_turnRound (Γ : hp_G) (l : Launch) (α : hp_T) (g : GC α) (a0 : Nat) (k0 : hp_K α a0 = 9) : Met l yX8_turnRound (hp_ws yX8_turnRound cX8_turnRound 6 none) (hp_rm 0 0 0) (hp_Pc Γ α [.ref a0]) (hp_Qv Γ (fun β => cw w_X8_turnRound α β)) 0 0 (hp_A Γ) := by
  refine hp_start (by decide) ?_
  intro p e s m below meth c C hr hlk B0 hnm
  have C : hp_C Γ p m c cX8_turnRound 6 s ([.ref a0] : List Value).toArray RX8 := C
  have hx := C.1.1
  have hb := C.1.2.1
  have hown := C.1.2.2.2.1
  have hts := C.1.2.2.2.2
  have B : hp_B Γ (cw w_X8_turnRound) s α α s.heap [] := ⟨B0.1, B0.2.1, cw_rf g⟩
  have lit0 : (0 : Int32).toInt = 0 := by decide
  have lit1 : (1 : Int32).toInt = 1 := by decide
  have lit2 : (2 : Int32).toInt = 2 := by decide
  have lit64 : (64 : Int32).toInt = 64 := by decide
  have hl := lv_entry ([.ref a0]) (n := 6) (Nat.le_of_ble_eq_true rfl)
  show W p l e (hp_rm 0 0 0) s m ([.ref a0] : List Value).toArray below meth c s.heap [] 0 0 (MQ below (hp_Qv Γ (fun β => cw w_X8_turnRound α β)) ([.ref a0] : List Value).toArray s 0 0 (hp_A Γ)) (entryFrame m ([.ref a0] : List Value).toArray 6)
  rw [lg_entry_eq]
  generalize (lg_sl ([.ref a0]) ++ List.replicate (6 - (lg_sl ([.ref a0])).length) Slot.unset).toArray = ls at hl ⊢
  have hl : lv_has ls 6 [(0, .ref a0)] := hl
  refine lv_iconst (v := 0) hx hb dX8_turnRound_0 (by decide) (hp_n (n := 1) rfl ?_)
  have J2 : ∀ (nq : Nat) (αh_1 : hp_T) (Hh_1 : Heap) (Lh_1 : List Loc) (Bh_1 : hp_B Γ (cw w_X8_turnRound) s α αh_1 Hh_1 Lh_1) (v1_h_1 : Int32) (ih_1_0 : 0 ≤ v1_h_1.toInt) (ls : Array Slot) (hl : lv_has ls 6 [(0, .ref a0), (1, .int v1_h_1)]) (hmu2 : (2147483647 - v1_h_1.toInt).toNat = nq), W p l e (hp_rm 0 0 0) s m ([.ref a0] : List Value).toArray below meth c Hh_1 Lh_1 0 0 (MQ below (hp_Qv Γ (fun β => cw w_X8_turnRound α β)) ([.ref a0] : List Value).toArray s 0 0 (hp_A Γ)) (F0 m 2 ls []) := by
    intro nq
    induction nq using Nat.strongRecOn with
    | ind nq ih2 =>
    intro αh_1 Hh_1 Lh_1 Bh_1 v1_h_1 ih_1_0 ls hl hmu2
    have inv2_0 := ih_1_0
    refine lv_iload_n hx hb dX8_turnRound_2 rfl (lv_at hl 1 rfl) (hp_n (n := 3) rfl ?_)
    refine lv_aload_n hx hb dX8_turnRound_3 rfl (lv_at hl 0 rfl) (hp_n (n := 4) rfl ?_)
    refine q_geti (κ := 9) (k := 3) (φ := 453) (pc' := 7) C Bh_1 (cw_k Bh_1.2.2 k0) fl_X8_22 rfl rfl rfl dX8_turnRound_4 rfl (fun x_2 ex_2 => ?_)
    obtain ⟨gx_2a, gx_2b⟩ : 0 ≤ x_2.toInt ∧ x_2.toInt ≤ 64 := by rw [ex_2]; exact Bh_1.2.2.1.1 453 a0 rfl
    refine lv_iconst (v := 2) hx hb dX8_turnRound_7 (by decide) (hp_n (n := 8) rfl ?_)
    refine lv_idiv hx hb dX8_turnRound_8 (by decide) (hp_n (n := 9) rfl (lv_topi (fun x_3 ex_3 => ?_)))
    refine lv_icmp_ge (tgt := 126) hx hb dX8_turnRound_9 (by decide) (fun c_4 => ?_) (fun c_4 => hp_n (n := 12) rfl ?_)
    ·
      have jc_4 := il_le c_4
      exact q_vret C Bh_1 hr hlk Bh_1.2.2 dX8_turnRound_126
    ·
      have jc_4 := il_nle c_4
      refine lv_aload_n hx hb dX8_turnRound_12 rfl (lv_at hl 0 rfl) (hp_n (n := 13) rfl ?_)
      refine q_getj (κ := 9) (k := 3) (φ := 453) (pc' := 16) C Bh_1 (cw_k Bh_1.2.2 k0) fl_X8_22 rfl rfl rfl ex_2 dX8_turnRound_13 rfl ?_
      refine lv_iconst (v := 1) hx hb dX8_turnRound_16 (by decide) (hp_n (n := 17) rfl ?_)
      refine lv_isub hx hb dX8_turnRound_17 (hp_n (n := 18) rfl (lv_topi (fun x_5 ex_5 => ?_)))
      refine lv_iload_n hx hb dX8_turnRound_18 rfl (lv_at hl 1 rfl) (hp_n (n := 19) rfl ?_)
      refine lv_isub hx hb dX8_turnRound_19 (hp_n (n := 20) rfl (lv_topi (fun x_6 ex_6 => ?_)))
      refine lv_istore_n (lv' := [(2, .int x_6), (0, .ref a0), (1, .int v1_h_1)]) hx hb dX8_turnRound_20 rfl hl (by decide) rfl (fun ls hl => hp_n (n := 21) rfl ?_)
      refine lv_iload_n hx hb dX8_turnRound_21 rfl (lv_at hl 0 rfl) (hp_n (n := 22) rfl ?_)
      refine lv_if_lt (tgt := 37) hx hb dX8_turnRound_22 (by decide) (fun c_7 => ?_) (fun c_7 => hp_n (n := 25) rfl ?_)
      ·
        have jc_7 := il_lt c_7
        exact q_vret C Bh_1 hr hlk Bh_1.2.2 dX8_turnRound_37
      ·
        have jc_7 := il_nlt c_7
        refine lv_iload_n hx hb dX8_turnRound_25 rfl (lv_at hl 0 rfl) (hp_n (n := 26) rfl ?_)
        refine lv_bipush (v := 64) hx hb dX8_turnRound_26 (by decide) (hp_n (n := 28) rfl ?_)
        refine lv_icmp_ge (tgt := 37) hx hb dX8_turnRound_28 (by decide) (fun c_8 => ?_) (fun c_8 => hp_n (n := 31) rfl ?_)
        ·
          have jc_8 := il_le c_8
          exact q_vret C Bh_1 hr hlk Bh_1.2.2 dX8_turnRound_37
        ·
          have jc_8 := il_nle c_8
          refine lv_iload_n hx hb dX8_turnRound_31 rfl (lv_at hl 2 rfl) (hp_n (n := 32) rfl ?_)
          refine lv_bipush (v := 64) hx hb dX8_turnRound_32 (by decide) (hp_n (n := 34) rfl ?_)
          refine lv_icmp_lt (tgt := 38) hx hb dX8_turnRound_34 (by decide) (fun c_9 => ?_) (fun c_9 => hp_n (n := 37) rfl ?_)
          ·
            have jc_9 := il_lt c_9
            refine lv_aload_n hx hb dX8_turnRound_38 rfl (lv_at hl 1 rfl) (hp_n (n := 39) rfl ?_)
            refine q_getr (κ := 9) (k := 0) (φ := 450) (pc' := 42) C Bh_1 (cw_k Bh_1.2.2 k0) fl_X8_9 rfl rfl rfl (cw_r Bh_1.2.2 k0 rfl rfl (by decide) (by decide)) dX8_turnRound_39 rfl (fun b_10 eb_10 kb_10 => ?_)
            refine lv_iload_n hx hb dX8_turnRound_42 rfl (lv_at hl 2 rfl) (hp_n (n := 43) rfl ?_)
            refine q_ial (κ := 21) (n := 64) (pc' := 44) C Bh_1 (cw_k Bh_1.2.2 kb_10) (by decide) rfl (vi_of (by omega) (by omega)) dX8_turnRound_43 rfl (lv_topi (fun x_11 ex_11 => ?_))
            refine lv_istore_n (lv' := [(3, .int x_11), (2, .int x_6), (0, .ref a0), (1, .int v1_h_1)]) hx hb dX8_turnRound_44 rfl hl (by decide) rfl (fun ls hl => hp_n (n := 45) rfl ?_)
            refine lv_aload_n hx hb dX8_turnRound_45 rfl (lv_at hl 2 rfl) (hp_n (n := 46) rfl ?_)
            refine q_gets (κ := 9) (k := 0) (φ := 450) (pc' := 49) C Bh_1 (cw_k Bh_1.2.2 k0) fl_X8_9 rfl rfl rfl eb_10 dX8_turnRound_46 rfl ?_
            refine lv_iload_n hx hb dX8_turnRound_49 rfl (lv_at hl 3 rfl) (hp_n (n := 50) rfl ?_)
            refine lv_aload_n hx hb dX8_turnRound_50 rfl (lv_at hl 2 rfl) (hp_n (n := 51) rfl ?_)
            refine q_gets (κ := 9) (k := 0) (φ := 450) (pc' := 54) C Bh_1 (cw_k Bh_1.2.2 k0) fl_X8_9 rfl rfl rfl eb_10 dX8_turnRound_51 rfl ?_
            refine lv_iload_n hx hb dX8_turnRound_54 rfl (lv_at hl 1 rfl) (hp_n (n := 55) rfl ?_)
            refine q_ial (κ := 21) (n := 64) (pc' := 56) C Bh_1 (cw_k Bh_1.2.2 kb_10) (by decide) rfl (vi_of (by omega) (by omega)) dX8_turnRound_55 rfl (lv_topi (fun x_12 ex_12 => ?_))
            refine q_ias (κ := 21) (n := 64) (pc' := 57) C Bh_1 (cw_k Bh_1.2.2 kb_10) (by decide) rfl (vi_of (by omega) (by omega)) rfl (cw_sE Bh_1.2.2 (by decide)) dX8_turnRound_56 rfl (fun αh_13 Hh_13 Lh_13 eh_13 Bh_13 => ?_)
            refine lv_aload_n hx hb dX8_turnRound_57 rfl (lv_at hl 2 rfl) (hp_n (n := 58) rfl ?_)
            have t_14 : b_10 = hp_R αh_13 450 a0 := by rw [eh_13]; exact eb_10
            refine q_gets (κ := 9) (k := 0) (φ := 450) (pc' := 61) C Bh_13 (cw_k Bh_13.2.2 k0) fl_X8_9 rfl rfl rfl t_14 dX8_turnRound_58 rfl ?_
            refine lv_iload_n hx hb dX8_turnRound_61 rfl (lv_at hl 1 rfl) (hp_n (n := 62) rfl ?_)
            refine lv_iload_n hx hb dX8_turnRound_62 rfl (lv_at hl 0 rfl) (hp_n (n := 63) rfl ?_)
            refine q_ias (κ := 21) (n := 64) (pc' := 64) C Bh_13 (cw_k Bh_13.2.2 kb_10) (by decide) rfl (vi_of (by omega) (by omega)) rfl (cw_sE Bh_13.2.2 (by decide)) dX8_turnRound_63 rfl (fun αh_15 Hh_15 Lh_15 eh_15 Bh_15 => ?_)
            refine lv_aload_n hx hb dX8_turnRound_64 rfl (lv_at hl 2 rfl) (hp_n (n := 65) rfl ?_)
            refine q_getr (κ := 9) (k := 1) (φ := 451) (pc' := 68) C Bh_15 (cw_k Bh_15.2.2 k0) fl_X8_15 rfl rfl rfl (cw_r Bh_15.2.2 k0 rfl rfl (by decide) (by decide)) dX8_turnRound_65 rfl (fun b_16 eb_16 kb_16 => ?_)
            refine lv_iload_n hx hb dX8_turnRound_68 rfl (lv_at hl 3 rfl) (hp_n (n := 69) rfl ?_)
            refine q_ial (κ := 22) (n := 64) (pc' := 70) C Bh_15 (cw_k Bh_15.2.2 kb_16) (by decide) rfl (vi_of (by omega) (by omega)) dX8_turnRound_69 rfl (lv_topi (fun x_17 ex_17 => ?_))
            refine lv_istore (lv' := [(4, .int x_17), (3, .int x_11), (2, .int x_6), (0, .ref a0), (1, .int v1_h_1)]) hx hb dX8_turnRound_70 hl (by decide) rfl (fun ls hl => hp_n (n := 72) rfl ?_)
            refine lv_aload_n hx hb dX8_turnRound_72 rfl (lv_at hl 3 rfl) (hp_n (n := 73) rfl ?_)
            refine q_gets (κ := 9) (k := 1) (φ := 451) (pc' := 76) C Bh_15 (cw_k Bh_15.2.2 k0) fl_X8_15 rfl rfl rfl eb_16 dX8_turnRound_73 rfl ?_
            refine lv_iload_n hx hb dX8_turnRound_76 rfl (lv_at hl 4 rfl) (hp_n (n := 77) rfl ?_)
            refine lv_aload_n hx hb dX8_turnRound_77 rfl (lv_at hl 3 rfl) (hp_n (n := 78) rfl ?_)
            refine q_gets (κ := 9) (k := 1) (φ := 451) (pc' := 81) C Bh_15 (cw_k Bh_15.2.2 k0) fl_X8_15 rfl rfl rfl eb_16 dX8_turnRound_78 rfl ?_
            refine lv_iload_n hx hb dX8_turnRound_81 rfl (lv_at hl 2 rfl) (hp_n (n := 82) rfl ?_)
            refine q_ial (κ := 22) (n := 64) (pc' := 83) C Bh_15 (cw_k Bh_15.2.2 kb_16) (by decide) rfl (vi_of (by omega) (by omega)) dX8_turnRound_82 rfl (lv_topi (fun x_18 ex_18 => ?_))
            refine q_ias (κ := 22) (n := 64) (pc' := 84) C Bh_15 (cw_k Bh_15.2.2 kb_16) (by decide) rfl (vi_of (by omega) (by omega)) rfl (cw_sE Bh_15.2.2 (by decide)) dX8_turnRound_83 rfl (fun αh_19 Hh_19 Lh_19 eh_19 Bh_19 => ?_)
            refine lv_aload_n hx hb dX8_turnRound_84 rfl (lv_at hl 3 rfl) (hp_n (n := 85) rfl ?_)
            have t_20 : b_16 = hp_R αh_19 451 a0 := by rw [eh_19]; exact eb_16
            refine q_gets (κ := 9) (k := 1) (φ := 451) (pc' := 88) C Bh_19 (cw_k Bh_19.2.2 k0) fl_X8_15 rfl rfl rfl t_20 dX8_turnRound_85 rfl ?_
            refine lv_iload_n hx hb dX8_turnRound_88 rfl (lv_at hl 2 rfl) (hp_n (n := 89) rfl ?_)
            refine lv_iload hx hb dX8_turnRound_89 (lv_at hl 0 rfl) (hp_n (n := 91) rfl ?_)
            refine q_ias (κ := 22) (n := 64) (pc' := 92) C Bh_19 (cw_k Bh_19.2.2 kb_16) (by decide) rfl (vi_of (by omega) (by omega)) rfl (cw_sE Bh_19.2.2 (by decide)) dX8_turnRound_91 rfl (fun αh_21 Hh_21 Lh_21 eh_21 Bh_21 => ?_)
            refine lv_aload_n hx hb dX8_turnRound_92 rfl (lv_at hl 3 rfl) (hp_n (n := 93) rfl ?_)
            refine q_getr (κ := 9) (k := 2) (φ := 452) (pc' := 96) C Bh_21 (cw_k Bh_21.2.2 k0) fl_X8_18 rfl rfl rfl (cw_r Bh_21.2.2 k0 rfl rfl (by decide) (by decide)) dX8_turnRound_93 rfl (fun b_22 eb_22 kb_22 => ?_)
            refine lv_iload_n hx hb dX8_turnRound_96 rfl (lv_at hl 4 rfl) (hp_n (n := 97) rfl ?_)
            refine q_zal (κ := 23) (n := 64) (pc' := 98) C Bh_21 (cw_k Bh_21.2.2 kb_22) (by decide) rfl (vi_of (by omega) (by omega)) dX8_turnRound_97 rfl (lv_topi (fun x_23 ex_23 => ?_))
            refine lv_istore (lv' := [(5, .int x_23), (4, .int x_17), (3, .int x_11), (2, .int x_6), (0, .ref a0), (1, .int v1_h_1)]) hx hb dX8_turnRound_98 hl (by decide) rfl (fun ls hl => hp_n (n := 100) rfl ?_)
            refine lv_aload_n hx hb dX8_turnRound_100 rfl (lv_at hl 4 rfl) (hp_n (n := 101) rfl ?_)
            refine q_gets (κ := 9) (k := 2) (φ := 452) (pc' := 104) C Bh_21 (cw_k Bh_21.2.2 k0) fl_X8_18 rfl rfl rfl eb_22 dX8_turnRound_101 rfl ?_
            refine lv_iload_n hx hb dX8_turnRound_104 rfl (lv_at hl 5 rfl) (hp_n (n := 105) rfl ?_)
            refine lv_aload_n hx hb dX8_turnRound_105 rfl (lv_at hl 4 rfl) (hp_n (n := 106) rfl ?_)
            refine q_gets (κ := 9) (k := 2) (φ := 452) (pc' := 109) C Bh_21 (cw_k Bh_21.2.2 k0) fl_X8_18 rfl rfl rfl eb_22 dX8_turnRound_106 rfl ?_
            refine lv_iload_n hx hb dX8_turnRound_109 rfl (lv_at hl 3 rfl) (hp_n (n := 110) rfl ?_)
            refine q_zal (κ := 23) (n := 64) (pc' := 111) C Bh_21 (cw_k Bh_21.2.2 kb_22) (by decide) rfl (vi_of (by omega) (by omega)) dX8_turnRound_110 rfl (lv_topi (fun x_24 ex_24 => ?_))
            refine q_zas (κ := 23) (n := 64) (pc' := 112) C Bh_21 (cw_k Bh_21.2.2 kb_22) (by decide) rfl (vi_of (by omega) (by omega)) rfl rfl (cw_sE Bh_21.2.2 (by decide)) dX8_turnRound_111 rfl (fun αh_25 Hh_25 Lh_25 eh_25 Bh_25 => ?_)
            refine lv_aload_n hx hb dX8_turnRound_112 rfl (lv_at hl 4 rfl) (hp_n (n := 113) rfl ?_)
            have t_26 : b_22 = hp_R αh_25 452 a0 := by rw [eh_25]; exact eb_22
            refine q_gets (κ := 9) (k := 2) (φ := 452) (pc' := 116) C Bh_25 (cw_k Bh_25.2.2 k0) fl_X8_18 rfl rfl rfl t_26 dX8_turnRound_113 rfl ?_
            refine lv_iload_n hx hb dX8_turnRound_116 rfl (lv_at hl 3 rfl) (hp_n (n := 117) rfl ?_)
            refine lv_iload hx hb dX8_turnRound_117 (lv_at hl 0 rfl) (hp_n (n := 119) rfl ?_)
            refine q_zas (κ := 23) (n := 64) (pc' := 120) C Bh_25 (cw_k Bh_25.2.2 kb_22) (by decide) rfl (vi_of (by omega) (by omega)) rfl rfl (cw_sE Bh_25.2.2 (by decide)) dX8_turnRound_119 rfl (fun αh_27 Hh_27 Lh_27 eh_27 Bh_27 => ?_)
            obtain ⟨x_28, ex_28⟩ : ∃ y : Int32, y = v1_h_1 + 1 := ⟨_, rfl⟩
            have qx_28 : x_28.toInt = v1_h_1.toInt + 1 := by have q0 := ib_hi x_3; have qa := ib_lo v1_h_1; rw [ex_28]; exact ii_add (by omega) (by omega)
            refine lv_iinc (v := x_28) (lv' := [(1, .int x_28), (5, .int x_23), (4, .int x_17), (3, .int x_11), (2, .int x_6), (0, .ref a0)]) hx hb dX8_turnRound_120 hl (k := 5) rfl (by rw [ex_28]; rfl) (by decide) rfl (fun ls hl => hp_n (n := 123) rfl ?_)
            refine lv_goto (tgt := 2) hx hb dX8_turnRound_123 (by decide) ?_
            exact ih2 _ (by have q0 := ib_hi x_3; have q1 := ib_lo x_3; have qa := ib_hi v1_h_1; have qb := ib_lo v1_h_1; have qc : (v1_h_1 + 1).toInt = v1_h_1.toInt + (1 : Int32).toInt := ii_add (by omega) (by omega); rw [ex_28]; omega) αh_27 Hh_27 Lh_27 Bh_27 x_28 (by omega) ls (lv_sub hl [5, 0] rfl) rfl
          ·
            have jc_9 := il_nlt c_9
            exact q_vret C Bh_1 hr hlk Bh_1.2.2 dX8_turnRound_37
  refine lv_istore_n (lv' := [(1, .int 0), (0, .ref a0)]) hx hb dX8_turnRound_1 rfl hl (by decide) rfl (fun ls hl => hp_n (n := 2) rfl ?_)
  exact J2 _ α s.heap [] B 0 (by omega) ls (lv_sub hl [1, 0] rfl) rfl
abbrev w_X8_toThing : cw_W := ([453, 454], [], [21, 22, 23], [])
set_option maxRecDepth 100000 in
set_option maxHeartbeats 4000000 in
theorem t_X8_toThing (Γ : hp_G) (l : Launch) (α : hp_T) (g : GC α) (a0 : Nat) (k0 : hp_K α a0 = 9) (a1 : Int32) (a2 : Int32) : Met l yX8_toThing (hp_ws yX8_toThing cX8_toThing 7 none) (hp_rm 3 0 0) (hp_Pc Γ α [.ref a0, .int a1, .int a2]) (hp_Qv Γ (fun β => cw w_X8_toThing α β)) 0 0 (hp_A Γ) := by
  refine hp_start (by decide) ?_
  intro p e s m below meth c C hr hlk B0 hnm
  have C : hp_C Γ p m c cX8_toThing 7 s ([.ref a0, .int a1, .int a2] : List Value).toArray RX8 := C
  have hx := C.1.1
  have hb := C.1.2.1
  have hown := C.1.2.2.2.1
  have hts := C.1.2.2.2.2
  have B : hp_B Γ (cw w_X8_toThing) s α α s.heap [] := ⟨B0.1, B0.2.1, cw_rf g⟩
  have lit0 : (0 : Int32).toInt = 0 := by decide
  have lit1 : (1 : Int32).toInt = 1 := by decide
  have lit40 : (40 : Int32).toInt = 40 := by decide
  have hl := lv_entry ([.ref a0, .int a1, .int a2]) (n := 7) (Nat.le_of_ble_eq_true rfl)
  show W p l e (hp_rm 3 0 0) s m ([.ref a0, .int a1, .int a2] : List Value).toArray below meth c s.heap [] 0 0 (MQ below (hp_Qv Γ (fun β => cw w_X8_toThing α β)) ([.ref a0, .int a1, .int a2] : List Value).toArray s 0 0 (hp_A Γ)) (entryFrame m ([.ref a0, .int a1, .int a2] : List Value).toArray 7)
  rw [lg_entry_eq]
  generalize (lg_sl ([.ref a0, .int a1, .int a2]) ++ List.replicate (7 - (lg_sl ([.ref a0, .int a1, .int a2])).length) Slot.unset).toArray = ls at hl ⊢
  have hl : lv_has ls 7 [(0, .ref a0), (1, .int a1), (2, .int a2)] := hl
  refine lv_aload_n hx hb dX8_toThing_0 rfl (lv_at hl 0 rfl) (hp_n (n := 1) rfl ?_)
  refine q_cv (pc' := 4) B (hp_runV (As := []) (rest := []) C B (t_X8_clear Γ l α B.2.2.1 a0 (cw_k B.2.2 k0)) lb_X8_clear lv_X8_clear lk_X8_30 (cw_k B.2.2 k0) rfl (by decide) rfl hl.1 rfl (Nat.le_of_ble_eq_true rfl) dX8_toThing_1 ⟨Nat.le_refl _, Nat.le_refl _⟩) (fun _ h => cw_tr B.2.2 h (by decide)) rfl (fun αh_1 Hh_1 Lh_1 ph_1 Bh_1 => ?_)
  refine lv_iconst (v := 0) hx hb dX8_toThing_4 (by decide) (hp_n (n := 5) rfl ?_)
  refine lv_istore_n (lv' := [(3, .int 0), (0, .ref a0), (1, .int a1), (2, .int a2)]) hx hb dX8_toThing_5 rfl hl (by decide) rfl (fun ls hl => hp_n (n := 6) rfl ?_)
  refine lv_iload_n hx hb dX8_toThing_6 rfl (lv_at hl 3 rfl) (hp_n (n := 7) rfl ?_)
  refine lv_istore (lv' := [(4, .int a2), (3, .int 0), (0, .ref a0), (1, .int a1), (2, .int a2)]) hx hb dX8_toThing_7 hl (by decide) rfl (fun ls hl => hp_n (n := 9) rfl ?_)
  refine lv_iconst (v := 0) hx hb dX8_toThing_9 (by decide) (hp_n (n := 10) rfl ?_)
  have J12 : ∀ (nq : Nat) (αh_2 : hp_T) (Hh_2 : Heap) (Lh_2 : List Loc) (Bh_2 : hp_B Γ (cw w_X8_toThing) s α αh_2 Hh_2 Lh_2) (v3_h_2 : Int32) (v4_h_2 : Int32) (v5_h_2 : Int32) (ih_2_0 : 0 ≤ v5_h_2.toInt) (ls : Array Slot) (hl : lv_has ls 7 [(0, .ref a0), (1, .int a1), (3, .int v3_h_2), (4, .int v4_h_2), (5, .int v5_h_2)]) (hmu12 : (2147483647 - v5_h_2.toInt).toNat = nq), W p l e (hp_rm 3 0 0) s m ([.ref a0, .int a1, .int a2] : List Value).toArray below meth c Hh_2 Lh_2 0 0 (MQ below (hp_Qv Γ (fun β => cw w_X8_toThing α β)) ([.ref a0, .int a1, .int a2] : List Value).toArray s 0 0 (hp_A Γ)) (F0 m 12 ls []) := by
    intro nq
    induction nq using Nat.strongRecOn with
    | ind nq ih12 =>
    intro αh_2 Hh_2 Lh_2 Bh_2 v3_h_2 v4_h_2 v5_h_2 ih_2_0 ls hl hmu12
    have inv12_0 := ih_2_0
    refine lv_iload hx hb dX8_toThing_12 (lv_at hl 4 rfl) (hp_n (n := 14) rfl ?_)
    refine lv_bipush (v := 40) hx hb dX8_toThing_14 (by decide) (hp_n (n := 16) rfl ?_)
    have J87 : ∀ (Hh_3 : Heap) (Lh_3 : List Loc) (Bh_3 : hp_B Γ (cw w_X8_toThing) s α αh_2 Hh_3 Lh_3) (ls : Array Slot) (hl : lv_has ls 7 [(0, .ref a0)]), W p l e (hp_rm 3 0 0) s m ([.ref a0, .int a1, .int a2] : List Value).toArray below meth c Hh_3 Lh_3 0 0 (MQ below (hp_Qv Γ (fun β => cw w_X8_toThing α β)) ([.ref a0, .int a1, .int a2] : List Value).toArray s 0 0 (hp_A Γ)) (F0 m 87 ls []) := by
      intro Hh_3 Lh_3 Bh_3 ls hl
      refine lv_aload_n hx hb dX8_toThing_87 rfl (lv_at hl 0 rfl) (hp_n (n := 88) rfl ?_)
      refine q_cv (pc' := 91) Bh_3 (hp_runV (As := []) (rest := []) C Bh_3 (t_X8_turnRound Γ l αh_2 Bh_3.2.2.1 a0 (cw_k Bh_3.2.2 k0)) lb_X8_turnRound lv_X8_turnRound lk_X8_41 (cw_k Bh_3.2.2 k0) rfl (by decide) rfl hl.1 rfl (Nat.le_of_ble_eq_true rfl) dX8_toThing_88 ⟨Nat.le_refl _, Nat.le_refl _⟩) (fun _ h => cw_tr Bh_3.2.2 h (by decide)) rfl (fun αh_4 Hh_4 Lh_4 ph_4 Bh_4 => ?_)
      exact q_vret C Bh_4 hr hlk Bh_4.2.2 dX8_toThing_91
    refine lv_icmp_ge (tgt := 87) hx hb dX8_toThing_16 (by decide) (fun c_5 => ?_) (fun c_5 => hp_n (n := 19) rfl ?_)
    ·
      have jc_5 := il_le c_5
      exact J87 Hh_2 Lh_2 Bh_2 ls (lv_sub hl [0] rfl)
    ·
      have jc_5 := il_nle c_5
      refine lv_iload hx hb dX8_toThing_19 (lv_at hl 3 rfl) (hp_n (n := 21) rfl ?_)
      refine lv_iconst (v := 1) hx hb dX8_toThing_21 (by decide) (hp_n (n := 22) rfl ?_)
      refine lv_icmp_le (tgt := 87) hx hb dX8_toThing_22 (by decide) (fun c_6 => ?_) (fun c_6 => hp_n (n := 25) rfl ?_)
      ·
        have jc_6 := il_le c_6
        exact J87 Hh_2 Lh_2 Bh_2 ls (lv_sub hl [0] rfl)
      ·
        have jc_6 := il_nle c_6
        refine lv_iload hx hb dX8_toThing_25 (lv_at hl 3 rfl) (hp_n (n := 27) rfl ?_)
        refine q_ci (pc' := 30) Bh_2 (hp_runS (As := [.int v4_h_2]) (rest := []) C Bh_2 (t_X11_firstPartOf Γ l αh_2 Bh_2.2.2.1 v4_h_2) lb_X11_firstPartOf ls_X11_firstPartOf lk_X8_33 rfl (by decide) rfl hl.1 rfl (Nat.le_of_ble_eq_true rfl) dX8_toThing_27 ⟨Nat.le_refl _, Nat.le_refl _⟩) (fun _ _ h => by rw [h]; exact Bh_2.2.2) rfl (fun rh_7 αh_7 Hh_7 Lh_7 ph_7 Bh_7 => ?_)
        rw [ph_7] at Bh_7
        refine lv_istore (lv' := [(6, .int rh_7), (0, .ref a0), (1, .int a1), (3, .int v3_h_2), (4, .int v4_h_2), (5, .int v5_h_2)]) hx hb dX8_toThing_30 hl (by decide) rfl (fun ls hl => hp_n (n := 32) rfl ?_)
        refine lv_iload_n hx hb dX8_toThing_32 rfl (lv_at hl 2 rfl) (hp_n (n := 33) rfl ?_)
        refine lv_iload_n hx hb dX8_toThing_33 rfl (lv_at hl 3 rfl) (hp_n (n := 34) rfl ?_)
        refine lv_isub hx hb dX8_toThing_34 (hp_n (n := 35) rfl (lv_topi (fun x_8 ex_8 => ?_)))
        refine lv_iload hx hb dX8_toThing_35 (lv_at hl 0 rfl) (hp_n (n := 37) rfl ?_)
        refine lv_icmp_ge (tgt := 61) hx hb dX8_toThing_37 (by decide) (fun c_9 => ?_) (fun c_9 => hp_n (n := 40) rfl ?_)
        ·
          have jc_9 := il_le c_9
          refine lv_aload_n hx hb dX8_toThing_61 rfl (lv_at hl 1 rfl) (hp_n (n := 62) rfl ?_)
          refine lv_iload_n hx hb dX8_toThing_62 rfl (lv_at hl 3 rfl) (hp_n (n := 63) rfl ?_)
          refine lv_iload hx hb dX8_toThing_63 (lv_at hl 0 rfl) (hp_n (n := 65) rfl ?_)
          refine lv_iconst (v := 1) hx hb dX8_toThing_65 (by decide) (hp_n (n := 66) rfl ?_)
          refine q_cv (pc' := 69) Bh_7 (hp_runV (As := [.int v3_h_2, .int rh_7, .int 1]) (rest := []) C Bh_7 (t_X8_put Γ l αh_2 Bh_7.2.2.1 a0 (cw_k Bh_7.2.2 k0) v3_h_2 rh_7 1 (Or.inr rfl)) lb_X8_put lv_X8_put lk_X8_37 (cw_k Bh_7.2.2 k0) rfl (by decide) rfl hl.1 rfl (Nat.le_of_ble_eq_true rfl) dX8_toThing_66 ⟨Nat.le_refl _, Nat.le_refl _⟩) (fun _ h => cw_tr Bh_7.2.2 h (by decide)) rfl (fun αh_10 Hh_10 Lh_10 ph_10 Bh_10 => ?_)
          refine lv_iload_n hx hb dX8_toThing_69 rfl (lv_at hl 3 rfl) (hp_n (n := 70) rfl ?_)
          refine lv_iload hx hb dX8_toThing_70 (lv_at hl 0 rfl) (hp_n (n := 72) rfl ?_)
          refine lv_iadd hx hb dX8_toThing_72 (hp_n (n := 73) rfl (lv_topi (fun x_11 ex_11 => ?_)))
          refine lv_istore_n (lv' := [(3, .int x_11), (6, .int rh_7), (0, .ref a0), (1, .int a1), (4, .int v4_h_2), (5, .int v5_h_2)]) hx hb dX8_toThing_73 rfl hl (by decide) rfl (fun ls hl => hp_n (n := 74) rfl ?_)
          refine lv_iload hx hb dX8_toThing_74 (lv_at hl 4 rfl) (hp_n (n := 76) rfl ?_)
          refine lv_iload hx hb dX8_toThing_76 (lv_at hl 1 rfl) (hp_n (n := 78) rfl ?_)
          refine lv_isub hx hb dX8_toThing_78 (hp_n (n := 79) rfl (lv_topi (fun x_12 ex_12 => ?_)))
          refine lv_istore (lv' := [(4, .int x_12), (3, .int x_11), (6, .int rh_7), (0, .ref a0), (1, .int a1), (5, .int v5_h_2)]) hx hb dX8_toThing_79 hl (by decide) rfl (fun ls hl => hp_n (n := 81) rfl ?_)
          obtain ⟨x_13, ex_13⟩ : ∃ y : Int32, y = v5_h_2 + 1 := ⟨_, rfl⟩
          have qx_13 : x_13.toInt = v5_h_2.toInt + 1 := by have qa := ib_lo v5_h_2; rw [ex_13]; exact ii_add (by omega) (by omega)
          refine lv_iinc (v := x_13) (lv' := [(5, .int x_13), (4, .int x_12), (3, .int x_11), (6, .int rh_7), (0, .ref a0), (1, .int a1)]) hx hb dX8_toThing_81 hl (k := 5) rfl (by rw [ex_13]; rfl) (by decide) rfl (fun ls hl => hp_n (n := 84) rfl ?_)
          refine lv_goto (tgt := 12) hx hb dX8_toThing_84 (by decide) ?_
          exact ih12 _ (by have qa := ib_hi v5_h_2; have qb := ib_lo v5_h_2; have qc : (v5_h_2 + 1).toInt = v5_h_2.toInt + (1 : Int32).toInt := ii_add (by omega) (by omega); rw [ex_13]; omega) αh_10 Hh_10 Lh_10 Bh_10 x_11 x_12 x_13 (by omega) ls (lv_sub hl [4, 5, 2, 1, 0] rfl) rfl
        ·
          have jc_9 := il_nle c_9
          refine lv_aload_n hx hb dX8_toThing_40 rfl (lv_at hl 1 rfl) (hp_n (n := 41) rfl ?_)
          refine lv_iload_n hx hb dX8_toThing_41 rfl (lv_at hl 3 rfl) (hp_n (n := 42) rfl ?_)
          refine lv_iload hx hb dX8_toThing_42 (lv_at hl 0 rfl) (hp_n (n := 44) rfl ?_)
          refine lv_iadd hx hb dX8_toThing_44 (hp_n (n := 45) rfl (lv_topi (fun x_14 ex_14 => ?_)))
          refine lv_iload hx hb dX8_toThing_45 (lv_at hl 4 rfl) (hp_n (n := 47) rfl ?_)
          refine lv_iload hx hb dX8_toThing_47 (lv_at hl 0 rfl) (hp_n (n := 49) rfl ?_)
          refine lv_isub hx hb dX8_toThing_49 (hp_n (n := 50) rfl (lv_topi (fun x_15 ex_15 => ?_)))
          refine lv_iconst (v := 0) hx hb dX8_toThing_50 (by decide) (hp_n (n := 51) rfl ?_)
          refine q_cv (pc' := 54) Bh_7 (hp_runV (As := [.int x_14, .int x_15, .int 0]) (rest := []) C Bh_7 (t_X8_put Γ l αh_2 Bh_7.2.2.1 a0 (cw_k Bh_7.2.2 k0) x_14 x_15 0 (Or.inl rfl)) lb_X8_put lv_X8_put lk_X8_37 (cw_k Bh_7.2.2 k0) rfl (by decide) rfl hl.1 rfl (Nat.le_of_ble_eq_true rfl) dX8_toThing_51 ⟨Nat.le_refl _, Nat.le_refl _⟩) (fun _ h => cw_tr Bh_7.2.2 h (by decide)) rfl (fun αh_16 Hh_16 Lh_16 ph_16 Bh_16 => ?_)
          refine lv_iload hx hb dX8_toThing_54 (lv_at hl 0 rfl) (hp_n (n := 56) rfl ?_)
          refine lv_istore (lv' := [(4, .int rh_7), (6, .int rh_7), (0, .ref a0), (1, .int a1), (3, .int v3_h_2), (5, .int v5_h_2)]) hx hb dX8_toThing_56 hl (by decide) rfl (fun ls hl => hp_n (n := 58) rfl ?_)
          refine lv_goto (tgt := 81) hx hb dX8_toThing_58 (by decide) ?_
          obtain ⟨x_17, ex_17⟩ : ∃ y : Int32, y = v5_h_2 + 1 := ⟨_, rfl⟩
          have qx_17 : x_17.toInt = v5_h_2.toInt + 1 := by have qa := ib_lo v5_h_2; rw [ex_17]; exact ii_add (by omega) (by omega)
          refine lv_iinc (v := x_17) (lv' := [(5, .int x_17), (4, .int rh_7), (6, .int rh_7), (0, .ref a0), (1, .int a1), (3, .int v3_h_2)]) hx hb dX8_toThing_81 hl (k := 5) rfl (by rw [ex_17]; rfl) (by decide) rfl (fun ls hl => hp_n (n := 84) rfl ?_)
          refine lv_goto (tgt := 12) hx hb dX8_toThing_84 (by decide) ?_
          exact ih12 _ (by have qa := ib_hi v5_h_2; have qb := ib_lo v5_h_2; have qc : (v5_h_2 + 1).toInt = v5_h_2.toInt + (1 : Int32).toInt := ii_add (by omega) (by omega); rw [ex_17]; omega) αh_16 Hh_16 Lh_16 Bh_16 v3_h_2 rh_7 x_17 (by omega) ls (lv_sub hl [3, 4, 5, 1, 0] rfl) rfl
  refine lv_istore (lv' := [(5, .int 0), (4, .int a2), (3, .int 0), (0, .ref a0), (1, .int a1), (2, .int a2)]) hx hb dX8_toThing_10 hl (by decide) rfl (fun ls hl => hp_n (n := 12) rfl ?_)
  exact J12 _ αh_1 Hh_1 Lh_1 Bh_1 0 a2 0 (by omega) ls (lv_sub hl [3, 4, 2, 1, 0] rfl) rfl
abbrev w_X8_toGrowth : cw_W := ([453, 454], [], [21, 22, 23], [])
set_option maxRecDepth 100000 in
set_option maxHeartbeats 4000000 in
theorem t_X8_toGrowth (Γ : hp_G) (l : Launch) (α : hp_T) (g : GC α) (a0 : Nat) (k0 : hp_K α a0 = 9) (a1 : Int32) (a2 : Int32) : Met l yX8_toGrowth (hp_ws yX8_toGrowth cX8_toGrowth 8 none) (hp_rm 3 0 0) (hp_Pc Γ α [.ref a0, .int a1, .int a2]) (hp_Qv Γ (fun β => cw w_X8_toGrowth α β)) 0 0 (hp_A Γ) := by
  refine hp_start (by decide) ?_
  intro p e s m below meth c C hr hlk B0 hnm
  have C : hp_C Γ p m c cX8_toGrowth 8 s ([.ref a0, .int a1, .int a2] : List Value).toArray RX8 := C
  have hx := C.1.1
  have hb := C.1.2.1
  have hown := C.1.2.2.2.1
  have hts := C.1.2.2.2.2
  have B : hp_B Γ (cw w_X8_toGrowth) s α α s.heap [] := ⟨B0.1, B0.2.1, cw_rf g⟩
  have lit0 : (0 : Int32).toInt = 0 := by decide
  have lit1 : (1 : Int32).toInt = 1 := by decide
  have lit40 : (40 : Int32).toInt = 40 := by decide
  have hl := lv_entry ([.ref a0, .int a1, .int a2]) (n := 8) (Nat.le_of_ble_eq_true rfl)
  show W p l e (hp_rm 3 0 0) s m ([.ref a0, .int a1, .int a2] : List Value).toArray below meth c s.heap [] 0 0 (MQ below (hp_Qv Γ (fun β => cw w_X8_toGrowth α β)) ([.ref a0, .int a1, .int a2] : List Value).toArray s 0 0 (hp_A Γ)) (entryFrame m ([.ref a0, .int a1, .int a2] : List Value).toArray 8)
  rw [lg_entry_eq]
  generalize (lg_sl ([.ref a0, .int a1, .int a2]) ++ List.replicate (8 - (lg_sl ([.ref a0, .int a1, .int a2])).length) Slot.unset).toArray = ls at hl ⊢
  have hl : lv_has ls 8 [(0, .ref a0), (1, .int a1), (2, .int a2)] := hl
  refine lv_aload_n hx hb dX8_toGrowth_0 rfl (lv_at hl 0 rfl) (hp_n (n := 1) rfl ?_)
  refine q_cv (pc' := 4) B (hp_runV (As := []) (rest := []) C B (t_X8_clear Γ l α B.2.2.1 a0 (cw_k B.2.2 k0)) lb_X8_clear lv_X8_clear lk_X8_30 (cw_k B.2.2 k0) rfl (by decide) rfl hl.1 rfl (Nat.le_of_ble_eq_true rfl) dX8_toGrowth_1 ⟨Nat.le_refl _, Nat.le_refl _⟩) (fun _ h => cw_tr B.2.2 h (by decide)) rfl (fun αh_1 Hh_1 Lh_1 ph_1 Bh_1 => ?_)
  refine lv_iload_n hx hb dX8_toGrowth_4 rfl (lv_at hl 1 rfl) (hp_n (n := 5) rfl ?_)
  refine lv_if_ne (tgt := 9) hx hb dX8_toGrowth_5 (by decide) (fun c_2 => ?_) (fun c_2 => hp_n (n := 8) rfl ?_)
  ·
    have jc_2 := il_ne c_2
    refine lv_iconst (v := 0) hx hb dX8_toGrowth_9 (by decide) (hp_n (n := 10) rfl ?_)
    refine lv_istore_n (lv' := [(3, .int 0), (0, .ref a0), (1, .int a1), (2, .int a2)]) hx hb dX8_toGrowth_10 rfl hl (by decide) rfl (fun ls hl => hp_n (n := 11) rfl ?_)
    refine lv_iload_n hx hb dX8_toGrowth_11 rfl (lv_at hl 3 rfl) (hp_n (n := 12) rfl ?_)
    refine lv_istore (lv' := [(4, .int a2), (3, .int 0), (0, .ref a0), (1, .int a1), (2, .int a2)]) hx hb dX8_toGrowth_12 hl (by decide) rfl (fun ls hl => hp_n (n := 14) rfl ?_)
    refine lv_iconst (v := 1) hx hb dX8_toGrowth_14 (by decide) (hp_n (n := 15) rfl ?_)
    refine lv_istore (lv' := [(5, .int 1), (4, .int a2), (3, .int 0), (0, .ref a0), (1, .int a1), (2, .int a2)]) hx hb dX8_toGrowth_15 hl (by decide) rfl (fun ls hl => hp_n (n := 17) rfl ?_)
    refine lv_iconst (v := 0) hx hb dX8_toGrowth_17 (by decide) (hp_n (n := 18) rfl ?_)
    have J20 : ∀ (nq : Nat) (αh_3 : hp_T) (Hh_3 : Heap) (Lh_3 : List Loc) (Bh_3 : hp_B Γ (cw w_X8_toGrowth) s α αh_3 Hh_3 Lh_3) (v3_h_3 : Int32) (v4_h_3 : Int32) (v5_h_3 : Int32) (zv5_h_3 : v5_h_3 = 0 ∨ v5_h_3 = 1) (v6_h_3 : Int32) (ih_3_0 : 0 ≤ v6_h_3.toInt) (ls : Array Slot) (hl : lv_has ls 8 [(0, .ref a0), (1, .int a1), (3, .int v3_h_3), (4, .int v4_h_3), (5, .int v5_h_3), (6, .int v6_h_3)]) (hmu20 : (2147483647 - v6_h_3.toInt).toNat = nq), W p l e (hp_rm 3 0 0) s m ([.ref a0, .int a1, .int a2] : List Value).toArray below meth c Hh_3 Lh_3 0 0 (MQ below (hp_Qv Γ (fun β => cw w_X8_toGrowth α β)) ([.ref a0, .int a1, .int a2] : List Value).toArray s 0 0 (hp_A Γ)) (F0 m 20 ls []) := by
      intro nq
      induction nq using Nat.strongRecOn with
      | ind nq ih20 =>
      intro αh_3 Hh_3 Lh_3 Bh_3 v3_h_3 v4_h_3 v5_h_3 zv5_h_3 v6_h_3 ih_3_0 ls hl hmu20
      have inv20_0 := ih_3_0
      refine lv_iload hx hb dX8_toGrowth_20 (lv_at hl 5 rfl) (hp_n (n := 22) rfl ?_)
      refine lv_bipush (v := 40) hx hb dX8_toGrowth_22 (by decide) (hp_n (n := 24) rfl ?_)
      have J100 : ∀ (Hh_4 : Heap) (Lh_4 : List Loc) (Bh_4 : hp_B Γ (cw w_X8_toGrowth) s α αh_3 Hh_4 Lh_4) (ls : Array Slot) (hl : lv_has ls 8 [(0, .ref a0), (3, .int v3_h_3), (4, .int v4_h_3), (5, .int v5_h_3)]), W p l e (hp_rm 3 0 0) s m ([.ref a0, .int a1, .int a2] : List Value).toArray below meth c Hh_4 Lh_4 0 0 (MQ below (hp_Qv Γ (fun β => cw w_X8_toGrowth α β)) ([.ref a0, .int a1, .int a2] : List Value).toArray s 0 0 (hp_A Γ)) (F0 m 100 ls []) := by
        intro Hh_4 Lh_4 Bh_4 ls hl
        refine lv_iload hx hb dX8_toGrowth_100 (lv_at hl 3 rfl) (hp_n (n := 102) rfl ?_)
        have J118 : ∀ (αh_5 : hp_T) (Hh_5 : Heap) (Lh_5 : List Loc) (Bh_5 : hp_B Γ (cw w_X8_toGrowth) s α αh_5 Hh_5 Lh_5) (ls : Array Slot) (hl : lv_has ls 8 [(0, .ref a0)]), W p l e (hp_rm 3 0 0) s m ([.ref a0, .int a1, .int a2] : List Value).toArray below meth c Hh_5 Lh_5 0 0 (MQ below (hp_Qv Γ (fun β => cw w_X8_toGrowth α β)) ([.ref a0, .int a1, .int a2] : List Value).toArray s 0 0 (hp_A Γ)) (F0 m 118 ls []) := by
          intro αh_5 Hh_5 Lh_5 Bh_5 ls hl
          refine lv_aload_n hx hb dX8_toGrowth_118 rfl (lv_at hl 0 rfl) (hp_n (n := 119) rfl ?_)
          refine q_cv (pc' := 122) Bh_5 (hp_runV (As := []) (rest := []) C Bh_5 (t_X8_turnRound Γ l αh_5 Bh_5.2.2.1 a0 (cw_k Bh_5.2.2 k0)) lb_X8_turnRound lv_X8_turnRound lk_X8_41 (cw_k Bh_5.2.2 k0) rfl (by decide) rfl hl.1 rfl (Nat.le_of_ble_eq_true rfl) dX8_toGrowth_119 ⟨Nat.le_refl _, Nat.le_refl _⟩) (fun _ h => cw_tr Bh_5.2.2 h (by decide)) rfl (fun αh_6 Hh_6 Lh_6 ph_6 Bh_6 => ?_)
          exact q_vret C Bh_6 hr hlk Bh_6.2.2 dX8_toGrowth_122
        refine lv_if_ne (tgt := 118) hx hb dX8_toGrowth_102 (by decide) (fun c_7 => ?_) (fun c_7 => hp_n (n := 105) rfl ?_)
        ·
          have jc_7 := il_ne c_7
          exact J118 αh_3 Hh_4 Lh_4 Bh_4 ls (lv_sub hl [0] rfl)
        ·
          have jc_7 := il_eq c_7
          refine lv_aload_n hx hb dX8_toGrowth_105 rfl (lv_at hl 0 rfl) (hp_n (n := 106) rfl ?_)
          refine lv_iload_n hx hb dX8_toGrowth_106 rfl (lv_at hl 1 rfl) (hp_n (n := 107) rfl ?_)
          refine lv_iload hx hb dX8_toGrowth_107 (lv_at hl 2 rfl) (hp_n (n := 109) rfl ?_)
          refine lv_iconst (v := 0) hx hb dX8_toGrowth_109 (by decide) (hp_n (n := 110) rfl ?_)
          refine q_cv (pc' := 113) Bh_4 (hp_runV (As := [.int v3_h_3, .int v4_h_3, .int 0]) (rest := []) C Bh_4 (t_X8_put Γ l αh_3 Bh_4.2.2.1 a0 (cw_k Bh_4.2.2 k0) v3_h_3 v4_h_3 0 (Or.inl rfl)) lb_X8_put lv_X8_put lk_X8_37 (cw_k Bh_4.2.2 k0) rfl (by decide) rfl hl.1 rfl (Nat.le_of_ble_eq_true rfl) dX8_toGrowth_110 ⟨Nat.le_refl _, Nat.le_refl _⟩) (fun _ h => cw_tr Bh_4.2.2 h (by decide)) rfl (fun αh_8 Hh_8 Lh_8 ph_8 Bh_8 => ?_)
          refine lv_aload_n hx hb dX8_toGrowth_113 rfl (lv_at hl 0 rfl) (hp_n (n := 114) rfl ?_)
          refine lv_iconst (v := 1) hx hb dX8_toGrowth_114 (by decide) (hp_n (n := 115) rfl ?_)
          refine q_puti (κ := 9) (k := 4) (φ := 454) (pc' := 118) C Bh_8 (cw_k Bh_8.2.2 k0) fl_X8_26 rfl rfl rfl rfl rfl rfl (cw_sI Bh_8.2.2 (by decide) (fun h => absurd h (by decide))) dX8_toGrowth_115 rfl (fun αh_9 Hh_9 Lh_9 eh_9 Bh_9 => ?_)
          exact J118 αh_9 Hh_9 Lh_9 Bh_9 ls (lv_sub hl [0] rfl)
      refine lv_icmp_ge (tgt := 100) hx hb dX8_toGrowth_24 (by decide) (fun c_10 => ?_) (fun c_10 => hp_n (n := 27) rfl ?_)
      ·
        have jc_10 := il_le c_10
        exact J100 Hh_3 Lh_3 Bh_3 ls (lv_sub hl [0, 2, 3, 4] rfl)
      ·
        have jc_10 := il_nle c_10
        refine lv_iload_n hx hb dX8_toGrowth_27 rfl (lv_at hl 1 rfl) (hp_n (n := 28) rfl ?_)
        refine lv_iload_n hx hb dX8_toGrowth_28 rfl (lv_at hl 2 rfl) (hp_n (n := 29) rfl ?_)
        refine lv_isub hx hb dX8_toGrowth_29 (hp_n (n := 30) rfl (lv_topi (fun x_11 ex_11 => ?_)))
        refine lv_iload hx hb dX8_toGrowth_30 (lv_at hl 3 rfl) (hp_n (n := 32) rfl ?_)
        refine lv_icmp_eq (tgt := 100) hx hb dX8_toGrowth_32 (by decide) (fun c_12 => ?_) (fun c_12 => hp_n (n := 35) rfl ?_)
        ·
          have jc_12 := il_eq c_12
          exact J100 Hh_3 Lh_3 Bh_3 ls (lv_sub hl [0, 2, 3, 4] rfl)
        ·
          have jc_12 := il_ne c_12
          refine lv_iload hx hb dX8_toGrowth_35 (lv_at hl 3 rfl) (hp_n (n := 37) rfl ?_)
          refine q_ci (pc' := 40) Bh_3 (hp_runS (As := [.int v4_h_3]) (rest := []) C Bh_3 (t_X11_firstPartOf Γ l αh_3 Bh_3.2.2.1 v4_h_3) lb_X11_firstPartOf ls_X11_firstPartOf lk_X8_33 rfl (by decide) rfl hl.1 rfl (Nat.le_of_ble_eq_true rfl) dX8_toGrowth_37 ⟨Nat.le_refl _, Nat.le_refl _⟩) (fun _ _ h => by rw [h]; exact Bh_3.2.2) rfl (fun rh_13 αh_13 Hh_13 Lh_13 ph_13 Bh_13 => ?_)
          rw [ph_13] at Bh_13
          refine lv_istore (lv' := [(7, .int rh_13), (0, .ref a0), (1, .int a1), (3, .int v3_h_3), (4, .int v4_h_3), (5, .int v5_h_3), (6, .int v6_h_3)]) hx hb dX8_toGrowth_40 hl (by decide) rfl (fun ls hl => hp_n (n := 42) rfl ?_)
          refine lv_iload_n hx hb dX8_toGrowth_42 rfl (lv_at hl 2 rfl) (hp_n (n := 43) rfl ?_)
          refine lv_iload_n hx hb dX8_toGrowth_43 rfl (lv_at hl 3 rfl) (hp_n (n := 44) rfl ?_)
          refine lv_isub hx hb dX8_toGrowth_44 (hp_n (n := 45) rfl (lv_topi (fun x_14 ex_14 => ?_)))
          refine lv_iload hx hb dX8_toGrowth_45 (lv_at hl 0 rfl) (hp_n (n := 47) rfl ?_)
          refine lv_icmp_gt (tgt := 71) hx hb dX8_toGrowth_47 (by decide) (fun c_15 => ?_) (fun c_15 => hp_n (n := 50) rfl ?_)
          ·
            have jc_15 := il_lt c_15
            refine lv_aload_n hx hb dX8_toGrowth_71 rfl (lv_at hl 1 rfl) (hp_n (n := 72) rfl ?_)
            refine lv_iload_n hx hb dX8_toGrowth_72 rfl (lv_at hl 3 rfl) (hp_n (n := 73) rfl ?_)
            refine lv_iload hx hb dX8_toGrowth_73 (lv_at hl 0 rfl) (hp_n (n := 75) rfl ?_)
            refine lv_iconst (v := 1) hx hb dX8_toGrowth_75 (by decide) (hp_n (n := 76) rfl ?_)
            refine q_cv (pc' := 79) Bh_13 (hp_runV (As := [.int v3_h_3, .int rh_13, .int 1]) (rest := []) C Bh_13 (t_X8_put Γ l αh_3 Bh_13.2.2.1 a0 (cw_k Bh_13.2.2 k0) v3_h_3 rh_13 1 (Or.inr rfl)) lb_X8_put lv_X8_put lk_X8_37 (cw_k Bh_13.2.2 k0) rfl (by decide) rfl hl.1 rfl (Nat.le_of_ble_eq_true rfl) dX8_toGrowth_76 ⟨Nat.le_refl _, Nat.le_refl _⟩) (fun _ h => cw_tr Bh_13.2.2 h (by decide)) rfl (fun αh_16 Hh_16 Lh_16 ph_16 Bh_16 => ?_)
            refine lv_iload_n hx hb dX8_toGrowth_79 rfl (lv_at hl 3 rfl) (hp_n (n := 80) rfl ?_)
            refine lv_iload hx hb dX8_toGrowth_80 (lv_at hl 0 rfl) (hp_n (n := 82) rfl ?_)
            refine lv_iadd hx hb dX8_toGrowth_82 (hp_n (n := 83) rfl (lv_topi (fun x_17 ex_17 => ?_)))
            refine lv_istore_n (lv' := [(3, .int x_17), (7, .int rh_13), (0, .ref a0), (1, .int a1), (4, .int v4_h_3), (5, .int v5_h_3), (6, .int v6_h_3)]) hx hb dX8_toGrowth_83 rfl hl (by decide) rfl (fun ls hl => hp_n (n := 84) rfl ?_)
            refine lv_iload hx hb dX8_toGrowth_84 (lv_at hl 4 rfl) (hp_n (n := 86) rfl ?_)
            refine lv_iload hx hb dX8_toGrowth_86 (lv_at hl 1 rfl) (hp_n (n := 88) rfl ?_)
            refine lv_isub hx hb dX8_toGrowth_88 (hp_n (n := 89) rfl (lv_topi (fun x_18 ex_18 => ?_)))
            refine lv_istore (lv' := [(4, .int x_18), (3, .int x_17), (7, .int rh_13), (0, .ref a0), (1, .int a1), (5, .int v5_h_3), (6, .int v6_h_3)]) hx hb dX8_toGrowth_89 hl (by decide) rfl (fun ls hl => hp_n (n := 91) rfl ?_)
            refine lv_iconst (v := 0) hx hb dX8_toGrowth_91 (by decide) (hp_n (n := 92) rfl ?_)
            refine lv_istore (lv' := [(5, .int 0), (4, .int x_18), (3, .int x_17), (7, .int rh_13), (0, .ref a0), (1, .int a1), (6, .int v6_h_3)]) hx hb dX8_toGrowth_92 hl (by decide) rfl (fun ls hl => hp_n (n := 94) rfl ?_)
            obtain ⟨x_19, ex_19⟩ : ∃ y : Int32, y = v6_h_3 + 1 := ⟨_, rfl⟩
            have qx_19 : x_19.toInt = v6_h_3.toInt + 1 := by have qa := ib_lo v6_h_3; rw [ex_19]; exact ii_add (by omega) (by omega)
            refine lv_iinc (v := x_19) (lv' := [(6, .int x_19), (5, .int 0), (4, .int x_18), (3, .int x_17), (7, .int rh_13), (0, .ref a0), (1, .int a1)]) hx hb dX8_toGrowth_94 hl (k := 6) rfl (by rw [ex_19]; rfl) (by decide) rfl (fun ls hl => hp_n (n := 97) rfl ?_)
            refine lv_goto (tgt := 20) hx hb dX8_toGrowth_97 (by decide) ?_
            exact ih20 _ (by have qa := ib_hi v6_h_3; have qb := ib_lo v6_h_3; have qc : (v6_h_3 + 1).toInt = v6_h_3.toInt + (1 : Int32).toInt := ii_add (by omega) (by omega); rw [ex_19]; omega) αh_16 Hh_16 Lh_16 Bh_16 x_17 x_18 0 (Or.inl rfl) x_19 (by omega) ls (lv_sub hl [5, 6, 3, 2, 1, 0] rfl) rfl
          ·
            have jc_15 := il_nlt c_15
            refine lv_aload_n hx hb dX8_toGrowth_50 rfl (lv_at hl 1 rfl) (hp_n (n := 51) rfl ?_)
            refine lv_iload_n hx hb dX8_toGrowth_51 rfl (lv_at hl 3 rfl) (hp_n (n := 52) rfl ?_)
            refine lv_iload hx hb dX8_toGrowth_52 (lv_at hl 0 rfl) (hp_n (n := 54) rfl ?_)
            refine lv_iadd hx hb dX8_toGrowth_54 (hp_n (n := 55) rfl (lv_topi (fun x_20 ex_20 => ?_)))
            refine lv_iload hx hb dX8_toGrowth_55 (lv_at hl 4 rfl) (hp_n (n := 57) rfl ?_)
            refine lv_iload hx hb dX8_toGrowth_57 (lv_at hl 0 rfl) (hp_n (n := 59) rfl ?_)
            refine lv_isub hx hb dX8_toGrowth_59 (hp_n (n := 60) rfl (lv_topi (fun x_21 ex_21 => ?_)))
            refine lv_iconst (v := 0) hx hb dX8_toGrowth_60 (by decide) (hp_n (n := 61) rfl ?_)
            refine q_cv (pc' := 64) Bh_13 (hp_runV (As := [.int x_20, .int x_21, .int 0]) (rest := []) C Bh_13 (t_X8_put Γ l αh_3 Bh_13.2.2.1 a0 (cw_k Bh_13.2.2 k0) x_20 x_21 0 (Or.inl rfl)) lb_X8_put lv_X8_put lk_X8_37 (cw_k Bh_13.2.2 k0) rfl (by decide) rfl hl.1 rfl (Nat.le_of_ble_eq_true rfl) dX8_toGrowth_61 ⟨Nat.le_refl _, Nat.le_refl _⟩) (fun _ h => cw_tr Bh_13.2.2 h (by decide)) rfl (fun αh_22 Hh_22 Lh_22 ph_22 Bh_22 => ?_)
            refine lv_iload hx hb dX8_toGrowth_64 (lv_at hl 0 rfl) (hp_n (n := 66) rfl ?_)
            refine lv_istore (lv' := [(4, .int rh_13), (7, .int rh_13), (0, .ref a0), (1, .int a1), (3, .int v3_h_3), (5, .int v5_h_3), (6, .int v6_h_3)]) hx hb dX8_toGrowth_66 hl (by decide) rfl (fun ls hl => hp_n (n := 68) rfl ?_)
            refine lv_goto (tgt := 94) hx hb dX8_toGrowth_68 (by decide) ?_
            obtain ⟨x_23, ex_23⟩ : ∃ y : Int32, y = v6_h_3 + 1 := ⟨_, rfl⟩
            have qx_23 : x_23.toInt = v6_h_3.toInt + 1 := by have qa := ib_lo v6_h_3; rw [ex_23]; exact ii_add (by omega) (by omega)
            refine lv_iinc (v := x_23) (lv' := [(6, .int x_23), (4, .int rh_13), (7, .int rh_13), (0, .ref a0), (1, .int a1), (3, .int v3_h_3), (5, .int v5_h_3)]) hx hb dX8_toGrowth_94 hl (k := 6) rfl (by rw [ex_23]; rfl) (by decide) rfl (fun ls hl => hp_n (n := 97) rfl ?_)
            refine lv_goto (tgt := 20) hx hb dX8_toGrowth_97 (by decide) ?_
            exact ih20 _ (by have qa := ib_hi v6_h_3; have qb := ib_lo v6_h_3; have qc : (v6_h_3 + 1).toInt = v6_h_3.toInt + (1 : Int32).toInt := ii_add (by omega) (by omega); rw [ex_23]; omega) αh_22 Hh_22 Lh_22 Bh_22 v3_h_3 rh_13 v5_h_3 zv5_h_3 x_23 (by omega) ls (lv_sub hl [3, 4, 5, 1, 6, 0] rfl) rfl
    refine lv_istore (lv' := [(6, .int 0), (5, .int 1), (4, .int a2), (3, .int 0), (0, .ref a0), (1, .int a1), (2, .int a2)]) hx hb dX8_toGrowth_18 hl (by decide) rfl (fun ls hl => hp_n (n := 20) rfl ?_)
    exact J20 _ αh_1 Hh_1 Lh_1 Bh_1 0 a2 1 (Or.inr rfl) 0 (by omega) ls (lv_sub hl [4, 5, 3, 2, 1, 0] rfl) rfl
  ·
    have jc_2 := il_eq c_2
    exact q_vret C Bh_1 hr hlk Bh_1.2.2 dX8_toGrowth_8
abbrev w_X8_putGreatestWithout : cw_W := ([453], [], [21, 22, 23], [])
set_option maxRecDepth 100000 in
set_option maxHeartbeats 4000000 in
theorem t_X8_putGreatestWithout (Γ : hp_G) (l : Launch) (α : hp_T) (g : GC α) (a0 : Nat) (k0 : hp_K α a0 = 9) (a1 : Int32) (a2 : Int32) (a3 : Int32) : Met l yX8_putGreatestWithout (hp_ws yX8_putGreatestWithout cX8_putGreatestWithout 8 (some .int)) (hp_rm 3 0 0) (hp_Pc Γ α [.ref a0, .int a1, .int a2, .int a3]) (hp_Qi Γ (fun r β => cw w_X8_putGreatestWithout α β)) 0 0 (hp_A Γ) := by
  refine hp_start (by decide) ?_
  intro p e s m below meth c C hr hlk B0 hnm
  have C : hp_C Γ p m c cX8_putGreatestWithout 8 s ([.ref a0, .int a1, .int a2, .int a3] : List Value).toArray RX8 := C
  have hx := C.1.1
  have hb := C.1.2.1
  have hown := C.1.2.2.2.1
  have hts := C.1.2.2.2.2
  have B : hp_B Γ (cw w_X8_putGreatestWithout) s α α s.heap [] := ⟨B0.1, B0.2.1, cw_rf g⟩
  have lit0 : (0 : Int32).toInt = 0 := by decide
  have lit1 : (1 : Int32).toInt = 1 := by decide
  have lit40 : (40 : Int32).toInt = 40 := by decide
  have hl := lv_entry ([.ref a0, .int a1, .int a2, .int a3]) (n := 8) (Nat.le_of_ble_eq_true rfl)
  show W p l e (hp_rm 3 0 0) s m ([.ref a0, .int a1, .int a2, .int a3] : List Value).toArray below meth c s.heap [] 0 0 (MQ below (hp_Qi Γ (fun r β => cw w_X8_putGreatestWithout α β)) ([.ref a0, .int a1, .int a2, .int a3] : List Value).toArray s 0 0 (hp_A Γ)) (entryFrame m ([.ref a0, .int a1, .int a2, .int a3] : List Value).toArray 8)
  rw [lg_entry_eq]
  generalize (lg_sl ([.ref a0, .int a1, .int a2, .int a3]) ++ List.replicate (8 - (lg_sl ([.ref a0, .int a1, .int a2, .int a3])).length) Slot.unset).toArray = ls at hl ⊢
  have hl : lv_has ls 8 [(0, .ref a0), (1, .int a1), (2, .int a2), (3, .int a3)] := hl
  refine lv_iconst (v := 0) hx hb dX8_putGreatestWithout_0 (by decide) (hp_n (n := 1) rfl ?_)
  refine lv_istore (lv' := [(4, .int 0), (0, .ref a0), (1, .int a1), (2, .int a2), (3, .int a3)]) hx hb dX8_putGreatestWithout_1 hl (by decide) rfl (fun ls hl => hp_n (n := 3) rfl ?_)
  refine lv_iload_n hx hb dX8_putGreatestWithout_3 rfl (lv_at hl 4 rfl) (hp_n (n := 4) rfl ?_)
  refine lv_istore (lv' := [(5, .int a3), (4, .int 0), (0, .ref a0), (1, .int a1), (2, .int a2), (3, .int a3)]) hx hb dX8_putGreatestWithout_4 hl (by decide) rfl (fun ls hl => hp_n (n := 6) rfl ?_)
  refine lv_iconst (v := 0) hx hb dX8_putGreatestWithout_6 (by decide) (hp_n (n := 7) rfl ?_)
  have J9 : ∀ (nq : Nat) (Hh_1 : Heap) (Lh_1 : List Loc) (Bh_1 : hp_B Γ (cw w_X8_putGreatestWithout) s α α Hh_1 Lh_1) (v4_h_1 : Int32) (v5_h_1 : Int32) (v6_h_1 : Int32) (ih_1_0 : 0 ≤ v6_h_1.toInt) (ls : Array Slot) (hl : lv_has ls 8 [(0, .ref a0), (1, .int a1), (2, .int a2), (4, .int v4_h_1), (5, .int v5_h_1), (6, .int v6_h_1)]) (hmu9 : (2147483647 - v6_h_1.toInt).toNat = nq), W p l e (hp_rm 3 0 0) s m ([.ref a0, .int a1, .int a2, .int a3] : List Value).toArray below meth c Hh_1 Lh_1 0 0 (MQ below (hp_Qi Γ (fun r β => cw w_X8_putGreatestWithout α β)) ([.ref a0, .int a1, .int a2, .int a3] : List Value).toArray s 0 0 (hp_A Γ)) (F0 m 9 ls []) := by
    intro nq
    induction nq using Nat.strongRecOn with
    | ind nq ih9 =>
    intro Hh_1 Lh_1 Bh_1 v4_h_1 v5_h_1 v6_h_1 ih_1_0 ls hl hmu9
    have inv9_0 := ih_1_0
    refine lv_iload hx hb dX8_putGreatestWithout_9 (lv_at hl 5 rfl) (hp_n (n := 11) rfl ?_)
    refine lv_bipush (v := 40) hx hb dX8_putGreatestWithout_11 (by decide) (hp_n (n := 13) rfl ?_)
    have J76 : ∀ (Hh_2 : Heap) (Lh_2 : List Loc) (Bh_2 : hp_B Γ (cw w_X8_putGreatestWithout) s α α Hh_2 Lh_2) (ls : Array Slot) (hl : lv_has ls 8 [(0, .ref a0), (4, .int v4_h_1), (5, .int v5_h_1)]), W p l e (hp_rm 3 0 0) s m ([.ref a0, .int a1, .int a2, .int a3] : List Value).toArray below meth c Hh_2 Lh_2 0 0 (MQ below (hp_Qi Γ (fun r β => cw w_X8_putGreatestWithout α β)) ([.ref a0, .int a1, .int a2, .int a3] : List Value).toArray s 0 0 (hp_A Γ)) (F0 m 76 ls []) := by
      intro Hh_2 Lh_2 Bh_2 ls hl
      refine lv_aload_n hx hb dX8_putGreatestWithout_76 rfl (lv_at hl 0 rfl) (hp_n (n := 77) rfl ?_)
      refine lv_iload hx hb dX8_putGreatestWithout_77 (lv_at hl 1 rfl) (hp_n (n := 79) rfl ?_)
      refine lv_iload hx hb dX8_putGreatestWithout_79 (lv_at hl 2 rfl) (hp_n (n := 81) rfl ?_)
      refine lv_iconst (v := 0) hx hb dX8_putGreatestWithout_81 (by decide) (hp_n (n := 82) rfl ?_)
      refine q_cv (pc' := 85) Bh_2 (hp_runV (As := [.int v4_h_1, .int v5_h_1, .int 0]) (rest := []) C Bh_2 (t_X8_put Γ l α Bh_2.2.2.1 a0 (cw_k Bh_2.2.2 k0) v4_h_1 v5_h_1 0 (Or.inl rfl)) lb_X8_put lv_X8_put lk_X8_37 (cw_k Bh_2.2.2 k0) rfl (by decide) rfl hl.1 rfl (Nat.le_of_ble_eq_true rfl) dX8_putGreatestWithout_82 ⟨Nat.le_refl _, Nat.le_refl _⟩) (fun _ h => cw_tr Bh_2.2.2 h (by decide)) rfl (fun αh_3 Hh_3 Lh_3 ph_3 Bh_3 => ?_)
      refine lv_iload hx hb dX8_putGreatestWithout_85 (lv_at hl 2 rfl) (hp_n (n := 87) rfl ?_)
      exact q_iret C Bh_3 hr hlk Bh_3.2.2 dX8_putGreatestWithout_87
    refine lv_icmp_ge (tgt := 76) hx hb dX8_putGreatestWithout_13 (by decide) (fun c_4 => ?_) (fun c_4 => hp_n (n := 16) rfl ?_)
    ·
      have jc_4 := il_le c_4
      exact J76 Hh_1 Lh_1 Bh_1 ls (lv_sub hl [0, 3, 4] rfl)
    ·
      have jc_4 := il_nle c_4
      refine lv_iload hx hb dX8_putGreatestWithout_16 (lv_at hl 3 rfl) (hp_n (n := 18) rfl ?_)
      refine lv_iload_n hx hb dX8_putGreatestWithout_18 rfl (lv_at hl 2 rfl) (hp_n (n := 19) rfl ?_)
      have J33 : ∀ (Hh_5 : Heap) (Lh_5 : List Loc) (Bh_5 : hp_B Γ (cw w_X8_putGreatestWithout) s α α Hh_5 Lh_5) (ls : Array Slot) (hl : lv_has ls 8 [(0, .ref a0), (1, .int a1), (2, .int a2), (4, .int v4_h_1), (5, .int v5_h_1), (6, .int v6_h_1)]), W p l e (hp_rm 3 0 0) s m ([.ref a0, .int a1, .int a2, .int a3] : List Value).toArray below meth c Hh_5 Lh_5 0 0 (MQ below (hp_Qi Γ (fun r β => cw w_X8_putGreatestWithout α β)) ([.ref a0, .int a1, .int a2, .int a3] : List Value).toArray s 0 0 (hp_A Γ)) (F0 m 33 ls []) := by
        intro Hh_5 Lh_5 Bh_5 ls hl
        refine lv_iload hx hb dX8_putGreatestWithout_33 (lv_at hl 4 rfl) (hp_n (n := 35) rfl ?_)
        refine q_ci (pc' := 38) Bh_5 (hp_runS (As := [.int v5_h_1]) (rest := []) C Bh_5 (t_X11_firstPartOf Γ l α Bh_5.2.2.1 v5_h_1) lb_X11_firstPartOf ls_X11_firstPartOf lk_X8_33 rfl (by decide) rfl hl.1 rfl (Nat.le_of_ble_eq_true rfl) dX8_putGreatestWithout_35 ⟨Nat.le_refl _, Nat.le_refl _⟩) (fun _ _ h => by rw [h]; exact Bh_5.2.2) rfl (fun rh_6 αh_6 Hh_6 Lh_6 ph_6 Bh_6 => ?_)
        rw [ph_6] at Bh_6
        refine lv_istore (lv' := [(7, .int rh_6), (0, .ref a0), (1, .int a1), (2, .int a2), (4, .int v4_h_1), (5, .int v5_h_1), (6, .int v6_h_1)]) hx hb dX8_putGreatestWithout_38 hl (by decide) rfl (fun ls hl => hp_n (n := 40) rfl ?_)
        refine lv_iload_n hx hb dX8_putGreatestWithout_40 rfl (lv_at hl 3 rfl) (hp_n (n := 41) rfl ?_)
        refine lv_iload hx hb dX8_putGreatestWithout_41 (lv_at hl 4 rfl) (hp_n (n := 43) rfl ?_)
        refine lv_isub hx hb dX8_putGreatestWithout_43 (hp_n (n := 44) rfl (lv_topi (fun x_7 ex_7 => ?_)))
        refine lv_iload hx hb dX8_putGreatestWithout_44 (lv_at hl 0 rfl) (hp_n (n := 46) rfl ?_)
        refine lv_icmp_ge (tgt := 56) hx hb dX8_putGreatestWithout_46 (by decide) (fun c_8 => ?_) (fun c_8 => hp_n (n := 49) rfl ?_)
        ·
          have jc_8 := il_le c_8
          refine lv_iload hx hb dX8_putGreatestWithout_56 (lv_at hl 4 rfl) (hp_n (n := 58) rfl ?_)
          refine lv_iload hx hb dX8_putGreatestWithout_58 (lv_at hl 0 rfl) (hp_n (n := 60) rfl ?_)
          refine lv_iadd hx hb dX8_putGreatestWithout_60 (hp_n (n := 61) rfl (lv_topi (fun x_9 ex_9 => ?_)))
          refine lv_istore (lv' := [(4, .int x_9), (7, .int rh_6), (0, .ref a0), (1, .int a1), (2, .int a2), (5, .int v5_h_1), (6, .int v6_h_1)]) hx hb dX8_putGreatestWithout_61 hl (by decide) rfl (fun ls hl => hp_n (n := 63) rfl ?_)
          refine lv_iload hx hb dX8_putGreatestWithout_63 (lv_at hl 5 rfl) (hp_n (n := 65) rfl ?_)
          refine lv_iload hx hb dX8_putGreatestWithout_65 (lv_at hl 1 rfl) (hp_n (n := 67) rfl ?_)
          refine lv_isub hx hb dX8_putGreatestWithout_67 (hp_n (n := 68) rfl (lv_topi (fun x_10 ex_10 => ?_)))
          refine lv_istore (lv' := [(5, .int x_10), (4, .int x_9), (7, .int rh_6), (0, .ref a0), (1, .int a1), (2, .int a2), (6, .int v6_h_1)]) hx hb dX8_putGreatestWithout_68 hl (by decide) rfl (fun ls hl => hp_n (n := 70) rfl ?_)
          obtain ⟨x_11, ex_11⟩ : ∃ y : Int32, y = v6_h_1 + 1 := ⟨_, rfl⟩
          have qx_11 : x_11.toInt = v6_h_1.toInt + 1 := by have qa := ib_lo v6_h_1; rw [ex_11]; exact ii_add (by omega) (by omega)
          refine lv_iinc (v := x_11) (lv' := [(6, .int x_11), (5, .int x_10), (4, .int x_9), (7, .int rh_6), (0, .ref a0), (1, .int a1), (2, .int a2)]) hx hb dX8_putGreatestWithout_70 hl (k := 6) rfl (by rw [ex_11]; rfl) (by decide) rfl (fun ls hl => hp_n (n := 73) rfl ?_)
          refine lv_goto (tgt := 9) hx hb dX8_putGreatestWithout_73 (by decide) ?_
          exact ih9 _ (by have qa := ib_hi v6_h_1; have qb := ib_lo v6_h_1; have qc : (v6_h_1 + 1).toInt = v6_h_1.toInt + (1 : Int32).toInt := ii_add (by omega) (by omega); rw [ex_11]; omega) Hh_6 Lh_6 Bh_6 x_9 x_10 x_11 (by omega) ls (lv_sub hl [4, 5, 6, 2, 1, 0] rfl) rfl
        ·
          have jc_8 := il_nle c_8
          refine lv_iload hx hb dX8_putGreatestWithout_49 (lv_at hl 0 rfl) (hp_n (n := 51) rfl ?_)
          refine lv_istore (lv' := [(5, .int rh_6), (7, .int rh_6), (0, .ref a0), (1, .int a1), (2, .int a2), (4, .int v4_h_1), (6, .int v6_h_1)]) hx hb dX8_putGreatestWithout_51 hl (by decide) rfl (fun ls hl => hp_n (n := 53) rfl ?_)
          refine lv_goto (tgt := 70) hx hb dX8_putGreatestWithout_53 (by decide) ?_
          obtain ⟨x_12, ex_12⟩ : ∃ y : Int32, y = v6_h_1 + 1 := ⟨_, rfl⟩
          have qx_12 : x_12.toInt = v6_h_1.toInt + 1 := by have qa := ib_lo v6_h_1; rw [ex_12]; exact ii_add (by omega) (by omega)
          refine lv_iinc (v := x_12) (lv' := [(6, .int x_12), (5, .int rh_6), (7, .int rh_6), (0, .ref a0), (1, .int a1), (2, .int a2), (4, .int v4_h_1)]) hx hb dX8_putGreatestWithout_70 hl (k := 6) rfl (by rw [ex_12]; rfl) (by decide) rfl (fun ls hl => hp_n (n := 73) rfl ?_)
          refine lv_goto (tgt := 9) hx hb dX8_putGreatestWithout_73 (by decide) ?_
          exact ih9 _ (by have qa := ib_hi v6_h_1; have qb := ib_lo v6_h_1; have qc : (v6_h_1 + 1).toInt = v6_h_1.toInt + (1 : Int32).toInt := ii_add (by omega) (by omega); rw [ex_12]; omega) Hh_6 Lh_6 Bh_6 v4_h_1 rh_6 x_12 (by omega) ls (lv_sub hl [3, 4, 5, 6, 1, 0] rfl) rfl
      refine lv_icmp_ne (tgt := 33) hx hb dX8_putGreatestWithout_19 (by decide) (fun c_13 => ?_) (fun c_13 => hp_n (n := 22) rfl ?_)
      ·
        have jc_13 := il_ne c_13
        exact J33 Hh_1 Lh_1 Bh_1 ls (lv_sub hl [0, 1, 2, 3, 4, 5] rfl)
      ·
        have jc_13 := il_eq c_13
        refine lv_iload_n hx hb dX8_putGreatestWithout_22 rfl (lv_at hl 1 rfl) (hp_n (n := 23) rfl ?_)
        refine lv_iload hx hb dX8_putGreatestWithout_23 (lv_at hl 3 rfl) (hp_n (n := 25) rfl ?_)
        refine lv_iload hx hb dX8_putGreatestWithout_25 (lv_at hl 4 rfl) (hp_n (n := 27) rfl ?_)
        refine q_ci (pc' := 30) Bh_1 (hp_runS (As := [.int a1, .int v4_h_1, .int v5_h_1]) (rest := []) C Bh_1 (t_X11_hasOneOf Γ l α Bh_1.2.2.1 a1 v4_h_1 v5_h_1) lb_X11_hasOneOf ls_X11_hasOneOf lk_X8_44 rfl (by decide) rfl hl.1 rfl (Nat.le_of_ble_eq_true rfl) dX8_putGreatestWithout_27 ⟨Nat.le_refl _, Nat.le_refl _⟩) (fun _ _ h => by rw [h.1]; exact Bh_1.2.2) rfl (fun rh_14 αh_14 Hh_14 Lh_14 ph_14 Bh_14 => ?_)
        rw [ph_14.1] at Bh_14
        have zh_14 := ph_14.2
        refine lv_if_eq (tgt := 76) hx hb dX8_putGreatestWithout_30 (by decide) (fun c_15 => ?_) (fun c_15 => hp_n (n := 33) rfl ?_)
        ·
          have jc_15 := il_eq c_15
          exact J76 Hh_14 Lh_14 Bh_14 ls (lv_sub hl [0, 3, 4] rfl)
        ·
          have jc_15 := il_ne c_15
          exact J33 Hh_14 Lh_14 Bh_14 ls (lv_sub hl [0, 1, 2, 3, 4, 5] rfl)
  refine lv_istore (lv' := [(6, .int 0), (5, .int a3), (4, .int 0), (0, .ref a0), (1, .int a1), (2, .int a2), (3, .int a3)]) hx hb dX8_putGreatestWithout_7 hl (by decide) rfl (fun ls hl => hp_n (n := 9) rfl ?_)
  exact J9 _ s.heap [] B 0 a3 0 (by omega) ls (lv_sub hl [3, 4, 5, 2, 1, 0] rfl) rfl
abbrev w_X8_toBundle : cw_W := ([453, 454], [], [21, 22, 23], [])
set_option maxRecDepth 100000 in
set_option maxHeartbeats 4000000 in
theorem t_X8_toBundle (Γ : hp_G) (l : Launch) (α : hp_T) (g : GC α) (a0 : Nat) (k0 : hp_K α a0 = 9) (a1 : Int32) (a2 : Int32) : Met l yX8_toBundle (hp_ws yX8_toBundle cX8_toBundle 5 none) (hp_rm 4 0 0) (hp_Pc Γ α [.ref a0, .int a1, .int a2]) (hp_Qv Γ (fun β => cw w_X8_toBundle α β)) 0 0 (hp_A Γ) := by
  refine hp_start (by decide) ?_
  intro p e s m below meth c C hr hlk B0 hnm
  have C : hp_C Γ p m c cX8_toBundle 5 s ([.ref a0, .int a1, .int a2] : List Value).toArray RX8 := C
  have hx := C.1.1
  have hb := C.1.2.1
  have hown := C.1.2.2.2.1
  have hts := C.1.2.2.2.2
  have B : hp_B Γ (cw w_X8_toBundle) s α α s.heap [] := ⟨B0.1, B0.2.1, cw_rf g⟩
  have lit0 : (0 : Int32).toInt = 0 := by decide
  have lit1 : (1 : Int32).toInt = 1 := by decide
  have lit128 : (128 : Int32).toInt = 128 := by decide
  have hl := lv_entry ([.ref a0, .int a1, .int a2]) (n := 5) (Nat.le_of_ble_eq_true rfl)
  show W p l e (hp_rm 4 0 0) s m ([.ref a0, .int a1, .int a2] : List Value).toArray below meth c s.heap [] 0 0 (MQ below (hp_Qv Γ (fun β => cw w_X8_toBundle α β)) ([.ref a0, .int a1, .int a2] : List Value).toArray s 0 0 (hp_A Γ)) (entryFrame m ([.ref a0, .int a1, .int a2] : List Value).toArray 5)
  rw [lg_entry_eq]
  generalize (lg_sl ([.ref a0, .int a1, .int a2]) ++ List.replicate (5 - (lg_sl ([.ref a0, .int a1, .int a2])).length) Slot.unset).toArray = ls at hl ⊢
  have hl : lv_has ls 5 [(0, .ref a0), (1, .int a1), (2, .int a2)] := hl
  refine lv_aload_n hx hb dX8_toBundle_0 rfl (lv_at hl 0 rfl) (hp_n (n := 1) rfl ?_)
  refine q_cv (pc' := 4) B (hp_runV (As := []) (rest := []) C B (t_X8_clear Γ l α B.2.2.1 a0 (cw_k B.2.2 k0)) lb_X8_clear lv_X8_clear lk_X8_30 (cw_k B.2.2 k0) rfl (by decide) rfl hl.1 rfl (Nat.le_of_ble_eq_true rfl) dX8_toBundle_1 ⟨Nat.le_refl _, Nat.le_refl _⟩) (fun _ h => cw_tr B.2.2 h (by decide)) rfl (fun αh_1 Hh_1 Lh_1 ph_1 Bh_1 => ?_)
  refine lv_iconst (v := 0) hx hb dX8_toBundle_4 (by decide) (hp_n (n := 5) rfl ?_)
  refine lv_istore_n (lv' := [(3, .int 0), (0, .ref a0), (1, .int a1), (2, .int a2)]) hx hb dX8_toBundle_5 rfl hl (by decide) rfl (fun ls hl => hp_n (n := 6) rfl ?_)
  refine lv_iconst (v := 0) hx hb dX8_toBundle_6 (by decide) (hp_n (n := 7) rfl ?_)
  have J9 : ∀ (nq : Nat) (αh_2 : hp_T) (Hh_2 : Heap) (Lh_2 : List Loc) (Bh_2 : hp_B Γ (cw w_X8_toBundle) s α αh_2 Hh_2 Lh_2) (v3_h_2 : Int32) (v4_h_2 : Int32) (ih_2_0 : 0 ≤ v4_h_2.toInt) (ls : Array Slot) (hl : lv_has ls 5 [(0, .ref a0), (1, .int a1), (2, .int a2), (3, .int v3_h_2), (4, .int v4_h_2)]) (hmu9 : (2147483647 - v4_h_2.toInt).toNat = nq), W p l e (hp_rm 4 0 0) s m ([.ref a0, .int a1, .int a2] : List Value).toArray below meth c Hh_2 Lh_2 0 0 (MQ below (hp_Qv Γ (fun β => cw w_X8_toBundle α β)) ([.ref a0, .int a1, .int a2] : List Value).toArray s 0 0 (hp_A Γ)) (F0 m 9 ls []) := by
    intro nq
    induction nq using Nat.strongRecOn with
    | ind nq ih9 =>
    intro αh_2 Hh_2 Lh_2 Bh_2 v3_h_2 v4_h_2 ih_2_0 ls hl hmu9
    have inv9_0 := ih_2_0
    refine lv_iload hx hb dX8_toBundle_9 (lv_at hl 4 rfl) (hp_n (n := 11) rfl ?_)
    refine lv_sipush (v := 128) hx hb dX8_toBundle_11 (by decide) (hp_n (n := 14) rfl ?_)
    refine lv_icmp_ge (tgt := 53) hx hb dX8_toBundle_14 (by decide) (fun c_3 => ?_) (fun c_3 => hp_n (n := 17) rfl ?_)
    ·
      have jc_3 := il_le c_3
      exact q_vret C Bh_2 hr hlk Bh_2.2.2 dX8_toBundle_53
    ·
      have jc_3 := il_nle c_3
      refine lv_iload_n hx hb dX8_toBundle_17 rfl (lv_at hl 3 rfl) (hp_n (n := 18) rfl ?_)
      refine lv_iload_n hx hb dX8_toBundle_18 rfl (lv_at hl 2 rfl) (hp_n (n := 19) rfl ?_)
      refine lv_icmp_ge (tgt := 53) hx hb dX8_toBundle_19 (by decide) (fun c_4 => ?_) (fun c_4 => hp_n (n := 22) rfl ?_)
      ·
        have jc_4 := il_le c_4
        exact q_vret C Bh_2 hr hlk Bh_2.2.2 dX8_toBundle_53
      ·
        have jc_4 := il_nle c_4
        refine lv_iload_n hx hb dX8_toBundle_22 rfl (lv_at hl 1 rfl) (hp_n (n := 23) rfl ?_)
        refine lv_iload_n hx hb dX8_toBundle_23 rfl (lv_at hl 3 rfl) (hp_n (n := 24) rfl ?_)
        refine lv_iconst (v := 1) hx hb dX8_toBundle_24 (by decide) (hp_n (n := 25) rfl ?_)
        refine q_ci (pc' := 28) Bh_2 (hp_runS (As := [.int a1, .int v3_h_2, .int 1]) (rest := []) C Bh_2 (t_X11_hasOneOf Γ l αh_2 Bh_2.2.2.1 a1 v3_h_2 1) lb_X11_hasOneOf ls_X11_hasOneOf lk_X8_44 rfl (by decide) rfl hl.1 rfl (Nat.le_of_ble_eq_true rfl) dX8_toBundle_25 ⟨Nat.le_refl _, Nat.le_refl _⟩) (fun _ _ h => by rw [h.1]; exact Bh_2.2.2) rfl (fun rh_5 αh_5 Hh_5 Lh_5 ph_5 Bh_5 => ?_)
        rw [ph_5.1] at Bh_5
        have zh_5 := ph_5.2
        refine lv_if_eq (tgt := 37) hx hb dX8_toBundle_28 (by decide) (fun c_6 => ?_) (fun c_6 => hp_n (n := 31) rfl ?_)
        ·
          have jc_6 := il_eq c_6
          refine lv_iload_n hx hb dX8_toBundle_37 rfl (lv_at hl 3 rfl) (hp_n (n := 38) rfl ?_)
          refine lv_aload_n hx hb dX8_toBundle_38 rfl (lv_at hl 0 rfl) (hp_n (n := 39) rfl ?_)
          refine lv_iload_n hx hb dX8_toBundle_39 rfl (lv_at hl 1 rfl) (hp_n (n := 40) rfl ?_)
          refine lv_iload_n hx hb dX8_toBundle_40 rfl (lv_at hl 3 rfl) (hp_n (n := 41) rfl ?_)
          refine lv_iload_n hx hb dX8_toBundle_41 rfl (lv_at hl 2 rfl) (hp_n (n := 42) rfl ?_)
          refine q_ci (pc' := 45) Bh_5 (hp_runV (As := [.int a1, .int v3_h_2, .int a2]) (rest := [.int v3_h_2]) C Bh_5 (t_X8_putGreatestWithout Γ l αh_2 Bh_5.2.2.1 a0 (cw_k Bh_5.2.2 k0) a1 v3_h_2 a2) lb_X8_putGreatestWithout lv_X8_putGreatestWithout lk_X8_48 (cw_k Bh_5.2.2 k0) rfl (by decide) rfl hl.1 rfl (Nat.le_of_ble_eq_true rfl) dX8_toBundle_42 ⟨Nat.le_refl _, Nat.le_refl _⟩) (fun _ _ h => cw_tr Bh_5.2.2 h (by decide)) rfl (fun rh_7 αh_7 Hh_7 Lh_7 ph_7 Bh_7 => ?_)
          refine lv_iadd hx hb dX8_toBundle_45 (hp_n (n := 46) rfl (lv_topi (fun x_8 ex_8 => ?_)))
          refine lv_istore_n (lv' := [(3, .int x_8), (0, .ref a0), (1, .int a1), (2, .int a2), (4, .int v4_h_2)]) hx hb dX8_toBundle_46 rfl hl (by decide) rfl (fun ls hl => hp_n (n := 47) rfl ?_)
          obtain ⟨x_9, ex_9⟩ : ∃ y : Int32, y = v4_h_2 + 1 := ⟨_, rfl⟩
          have qx_9 : x_9.toInt = v4_h_2.toInt + 1 := by have qa := ib_lo v4_h_2; rw [ex_9]; exact ii_add (by omega) (by omega)
          refine lv_iinc (v := x_9) (lv' := [(4, .int x_9), (3, .int x_8), (0, .ref a0), (1, .int a1), (2, .int a2)]) hx hb dX8_toBundle_47 hl (k := 4) rfl (by rw [ex_9]; rfl) (by decide) rfl (fun ls hl => hp_n (n := 50) rfl ?_)
          refine lv_goto (tgt := 9) hx hb dX8_toBundle_50 (by decide) ?_
          exact ih9 _ (by have qa := ib_hi v4_h_2; have qb := ib_lo v4_h_2; have qc : (v4_h_2 + 1).toInt = v4_h_2.toInt + (1 : Int32).toInt := ii_add (by omega) (by omega); rw [ex_9]; omega) αh_7 Hh_7 Lh_7 Bh_7 x_8 x_9 (by omega) ls (lv_sub hl [2, 3, 4, 1, 0] rfl) rfl
        ·
          have jc_6 := il_ne c_6
          obtain ⟨x_10, ex_10⟩ : ∃ y : Int32, y = v3_h_2 + 1 := ⟨_, rfl⟩
          have qx_10 : x_10.toInt = v3_h_2.toInt + 1 := by have q0 := ib_hi a2; have qa := ib_lo v3_h_2; rw [ex_10]; exact ii_add (by omega) (by omega)
          refine lv_iinc (v := x_10) (lv' := [(3, .int x_10), (0, .ref a0), (1, .int a1), (2, .int a2), (4, .int v4_h_2)]) hx hb dX8_toBundle_31 hl (k := 3) rfl (by rw [ex_10]; rfl) (by decide) rfl (fun ls hl => hp_n (n := 34) rfl ?_)
          refine lv_goto (tgt := 47) hx hb dX8_toBundle_34 (by decide) ?_
          obtain ⟨x_11, ex_11⟩ : ∃ y : Int32, y = v4_h_2 + 1 := ⟨_, rfl⟩
          have qx_11 : x_11.toInt = v4_h_2.toInt + 1 := by have qa := ib_lo v4_h_2; rw [ex_11]; exact ii_add (by omega) (by omega)
          refine lv_iinc (v := x_11) (lv' := [(4, .int x_11), (3, .int x_10), (0, .ref a0), (1, .int a1), (2, .int a2)]) hx hb dX8_toBundle_47 hl (k := 4) rfl (by rw [ex_11]; rfl) (by decide) rfl (fun ls hl => hp_n (n := 50) rfl ?_)
          refine lv_goto (tgt := 9) hx hb dX8_toBundle_50 (by decide) ?_
          exact ih9 _ (by have qa := ib_hi v4_h_2; have qb := ib_lo v4_h_2; have qc : (v4_h_2 + 1).toInt = v4_h_2.toInt + (1 : Int32).toInt := ii_add (by omega) (by omega); rw [ex_11]; omega) αh_2 Hh_5 Lh_5 Bh_5 x_10 x_11 (by omega) ls (lv_sub hl [2, 3, 4, 1, 0] rfl) rfl
  refine lv_istore (lv' := [(4, .int 0), (3, .int 0), (0, .ref a0), (1, .int a1), (2, .int a2)]) hx hb dX8_toBundle_7 hl (by decide) rfl (fun ls hl => hp_n (n := 9) rfl ?_)
  exact J9 _ αh_1 Hh_1 Lh_1 Bh_1 0 0 (by omega) ls (lv_sub hl [2, 3, 4, 1, 0] rfl) rfl
abbrev w_X8_toTree : cw_W := ([453, 454], [], [21, 22, 23], [])
set_option maxRecDepth 100000 in
set_option maxHeartbeats 4000000 in
theorem t_X8_toTree (Γ : hp_G) (l : Launch) (α : hp_T) (g : GC α) (a0 : Nat) (k0 : hp_K α a0 = 9) (a1 : Int32) (a2 : Int32) : Met l yX8_toTree (hp_ws yX8_toTree cX8_toTree 8 none) (hp_rm 3 0 0) (hp_Pc Γ α [.ref a0, .int a1, .int a2]) (hp_Qv Γ (fun β => cw w_X8_toTree α β)) 0 0 (hp_A Γ) := by
  refine hp_start (by decide) ?_
  intro p e s m below meth c C hr hlk B0 hnm
  have C : hp_C Γ p m c cX8_toTree 8 s ([.ref a0, .int a1, .int a2] : List Value).toArray RX8 := C
  have hx := C.1.1
  have hb := C.1.2.1
  have hown := C.1.2.2.2.1
  have hts := C.1.2.2.2.2
  have B : hp_B Γ (cw w_X8_toTree) s α α s.heap [] := ⟨B0.1, B0.2.1, cw_rf g⟩
  have litm1 : ((-1) : Int32).toInt = (-1) := by decide
  have lit0 : (0 : Int32).toInt = 0 := by decide
  have lit1 : (1 : Int32).toInt = 1 := by decide
  have lit2 : (2 : Int32).toInt = 2 := by decide
  have lit40 : (40 : Int32).toInt = 40 := by decide
  have hl := lv_entry ([.ref a0, .int a1, .int a2]) (n := 8) (Nat.le_of_ble_eq_true rfl)
  show W p l e (hp_rm 3 0 0) s m ([.ref a0, .int a1, .int a2] : List Value).toArray below meth c s.heap [] 0 0 (MQ below (hp_Qv Γ (fun β => cw w_X8_toTree α β)) ([.ref a0, .int a1, .int a2] : List Value).toArray s 0 0 (hp_A Γ)) (entryFrame m ([.ref a0, .int a1, .int a2] : List Value).toArray 8)
  rw [lg_entry_eq]
  generalize (lg_sl ([.ref a0, .int a1, .int a2]) ++ List.replicate (8 - (lg_sl ([.ref a0, .int a1, .int a2])).length) Slot.unset).toArray = ls at hl ⊢
  have hl : lv_has ls 8 [(0, .ref a0), (1, .int a1), (2, .int a2)] := hl
  refine lv_aload_n hx hb dX8_toTree_0 rfl (lv_at hl 0 rfl) (hp_n (n := 1) rfl ?_)
  refine q_cv (pc' := 4) B (hp_runV (As := []) (rest := []) C B (t_X8_clear Γ l α B.2.2.1 a0 (cw_k B.2.2 k0)) lb_X8_clear lv_X8_clear lk_X8_30 (cw_k B.2.2 k0) rfl (by decide) rfl hl.1 rfl (Nat.le_of_ble_eq_true rfl) dX8_toTree_1 ⟨Nat.le_refl _, Nat.le_refl _⟩) (fun _ h => cw_tr B.2.2 h (by decide)) rfl (fun αh_1 Hh_1 Lh_1 ph_1 Bh_1 => ?_)
  refine lv_iconst (v := 0) hx hb dX8_toTree_4 (by decide) (hp_n (n := 5) rfl ?_)
  refine lv_istore_n (lv' := [(3, .int 0), (0, .ref a0), (1, .int a1), (2, .int a2)]) hx hb dX8_toTree_5 rfl hl (by decide) rfl (fun ls hl => hp_n (n := 6) rfl ?_)
  refine lv_iload_n hx hb dX8_toTree_6 rfl (lv_at hl 3 rfl) (hp_n (n := 7) rfl ?_)
  refine lv_istore (lv' := [(4, .int a2), (3, .int 0), (0, .ref a0), (1, .int a1), (2, .int a2)]) hx hb dX8_toTree_7 hl (by decide) rfl (fun ls hl => hp_n (n := 9) rfl ?_)
  refine lv_iload_n hx hb dX8_toTree_9 rfl (lv_at hl 3 rfl) (hp_n (n := 10) rfl ?_)
  refine lv_istore (lv' := [(5, .int a1), (4, .int a2), (3, .int 0), (0, .ref a0), (1, .int a1), (2, .int a2)]) hx hb dX8_toTree_10 hl (by decide) rfl (fun ls hl => hp_n (n := 12) rfl ?_)
  refine lv_iconst (v := 0) hx hb dX8_toTree_12 (by decide) (hp_n (n := 13) rfl ?_)
  have J15 : ∀ (nq : Nat) (Hh_2 : Heap) (Lh_2 : List Loc) (Bh_2 : hp_B Γ (cw w_X8_toTree) s α αh_1 Hh_2 Lh_2) (v3_h_2 : Int32) (v4_h_2 : Int32) (v5_h_2 : Int32) (v6_h_2 : Int32) (ih_2_0 : 0 ≤ v6_h_2.toInt) (ls : Array Slot) (hl : lv_has ls 8 [(0, .ref a0), (3, .int v3_h_2), (4, .int v4_h_2), (5, .int v5_h_2), (6, .int v6_h_2)]) (hmu15 : (2147483647 - v6_h_2.toInt).toNat = nq), W p l e (hp_rm 3 0 0) s m ([.ref a0, .int a1, .int a2] : List Value).toArray below meth c Hh_2 Lh_2 0 0 (MQ below (hp_Qv Γ (fun β => cw w_X8_toTree α β)) ([.ref a0, .int a1, .int a2] : List Value).toArray s 0 0 (hp_A Γ)) (F0 m 15 ls []) := by
    intro nq
    induction nq using Nat.strongRecOn with
    | ind nq ih15 =>
    intro Hh_2 Lh_2 Bh_2 v3_h_2 v4_h_2 v5_h_2 v6_h_2 ih_2_0 ls hl hmu15
    have inv15_0 := ih_2_0
    refine lv_iload hx hb dX8_toTree_15 (lv_at hl 4 rfl) (hp_n (n := 17) rfl ?_)
    refine lv_bipush (v := 40) hx hb dX8_toTree_17 (by decide) (hp_n (n := 19) rfl ?_)
    have J82 : ∀ (Hh_3 : Heap) (Lh_3 : List Loc) (Bh_3 : hp_B Γ (cw w_X8_toTree) s α αh_1 Hh_3 Lh_3) (ls : Array Slot) (hl : lv_has ls 8 [(0, .ref a0), (3, .int v3_h_2), (4, .int v4_h_2)]), W p l e (hp_rm 3 0 0) s m ([.ref a0, .int a1, .int a2] : List Value).toArray below meth c Hh_3 Lh_3 0 0 (MQ below (hp_Qv Γ (fun β => cw w_X8_toTree α β)) ([.ref a0, .int a1, .int a2] : List Value).toArray s 0 0 (hp_A Γ)) (F0 m 82 ls []) := by
      intro Hh_3 Lh_3 Bh_3 ls hl
      refine lv_aload_n hx hb dX8_toTree_82 rfl (lv_at hl 0 rfl) (hp_n (n := 83) rfl ?_)
      refine lv_iload_n hx hb dX8_toTree_83 rfl (lv_at hl 1 rfl) (hp_n (n := 84) rfl ?_)
      refine lv_iload hx hb dX8_toTree_84 (lv_at hl 2 rfl) (hp_n (n := 86) rfl ?_)
      refine lv_iconst (v := 0) hx hb dX8_toTree_86 (by decide) (hp_n (n := 87) rfl ?_)
      refine q_cv (pc' := 90) Bh_3 (hp_runV (As := [.int v3_h_2, .int v4_h_2, .int 0]) (rest := []) C Bh_3 (t_X8_put Γ l αh_1 Bh_3.2.2.1 a0 (cw_k Bh_3.2.2 k0) v3_h_2 v4_h_2 0 (Or.inl rfl)) lb_X8_put lv_X8_put lk_X8_37 (cw_k Bh_3.2.2 k0) rfl (by decide) rfl hl.1 rfl (Nat.le_of_ble_eq_true rfl) dX8_toTree_87 ⟨Nat.le_refl _, Nat.le_refl _⟩) (fun _ h => cw_tr Bh_3.2.2 h (by decide)) rfl (fun αh_4 Hh_4 Lh_4 ph_4 Bh_4 => ?_)
      exact q_vret C Bh_4 hr hlk Bh_4.2.2 dX8_toTree_90
    refine lv_icmp_ge (tgt := 82) hx hb dX8_toTree_19 (by decide) (fun c_5 => ?_) (fun c_5 => hp_n (n := 22) rfl ?_)
    ·
      have jc_5 := il_le c_5
      exact J82 Hh_2 Lh_2 Bh_2 ls (lv_sub hl [0, 1, 2] rfl)
    ·
      have jc_5 := il_nle c_5
      refine lv_iload hx hb dX8_toTree_22 (lv_at hl 3 rfl) (hp_n (n := 24) rfl ?_)
      refine lv_if_le (tgt := 82) hx hb dX8_toTree_24 (by decide) (fun c_6 => ?_) (fun c_6 => hp_n (n := 27) rfl ?_)
      ·
        have jc_6 := il_le c_6
        exact J82 Hh_2 Lh_2 Bh_2 ls (lv_sub hl [0, 1, 2] rfl)
      ·
        have jc_6 := il_nle c_6
        refine lv_iload hx hb dX8_toTree_27 (lv_at hl 2 rfl) (hp_n (n := 29) rfl ?_)
        refine q_ci (pc' := 32) Bh_2 (hp_runS (As := [.int v4_h_2]) (rest := []) C Bh_2 (t_X11_firstPartOf Γ l αh_1 Bh_2.2.2.1 v4_h_2) lb_X11_firstPartOf ls_X11_firstPartOf lk_X8_33 rfl (by decide) rfl hl.1 rfl (Nat.le_of_ble_eq_true rfl) dX8_toTree_29 ⟨Nat.le_refl _, Nat.le_refl _⟩) (fun _ _ h => by rw [h]; exact Bh_2.2.2) rfl (fun rh_7 αh_7 Hh_7 Lh_7 ph_7 Bh_7 => ?_)
        rw [ph_7] at Bh_7
        refine lv_istore (lv' := [(7, .int rh_7), (0, .ref a0), (3, .int v3_h_2), (4, .int v4_h_2), (5, .int v5_h_2), (6, .int v6_h_2)]) hx hb dX8_toTree_32 hl (by decide) rfl (fun ls hl => hp_n (n := 34) rfl ?_)
        refine lv_iload hx hb dX8_toTree_34 (lv_at hl 4 rfl) (hp_n (n := 36) rfl ?_)
        refine lv_iconst (v := 2) hx hb dX8_toTree_36 (by decide) (hp_n (n := 37) rfl ?_)
        refine lv_iload hx hb dX8_toTree_37 (lv_at hl 0 rfl) (hp_n (n := 39) rfl ?_)
        refine lv_imul hx hb dX8_toTree_39 (hp_n (n := 40) rfl (lv_topi (fun x_8 ex_8 => ?_)))
        refine lv_iconst (v := 1) hx hb dX8_toTree_40 (by decide) (hp_n (n := 41) rfl ?_)
        refine lv_isub hx hb dX8_toTree_41 (hp_n (n := 42) rfl (lv_topi (fun x_9 ex_9 => ?_)))
        refine lv_icmp_gt (tgt := 55) hx hb dX8_toTree_42 (by decide) (fun c_10 => ?_) (fun c_10 => hp_n (n := 45) rfl ?_)
        ·
          have jc_10 := il_lt c_10
          refine lv_iload hx hb dX8_toTree_55 (lv_at hl 4 rfl) (hp_n (n := 57) rfl ?_)
          refine lv_iconst (v := 2) hx hb dX8_toTree_57 (by decide) (hp_n (n := 58) rfl ?_)
          refine lv_iload hx hb dX8_toTree_58 (lv_at hl 0 rfl) (hp_n (n := 60) rfl ?_)
          refine lv_imul hx hb dX8_toTree_60 (hp_n (n := 61) rfl (lv_topi (fun x_11 ex_11 => ?_)))
          refine lv_isub hx hb dX8_toTree_61 (hp_n (n := 62) rfl (lv_topi (fun x_12 ex_12 => ?_)))
          refine lv_istore (lv' := [(5, .int x_12), (7, .int rh_7), (0, .ref a0), (3, .int v3_h_2), (4, .int v4_h_2), (6, .int v6_h_2)]) hx hb dX8_toTree_62 hl (by decide) rfl (fun ls hl => hp_n (n := 64) rfl ?_)
          refine lv_iload_n hx hb dX8_toTree_64 rfl (lv_at hl 3 rfl) (hp_n (n := 65) rfl ?_)
          refine lv_iload hx hb dX8_toTree_65 (lv_at hl 1 rfl) (hp_n (n := 67) rfl ?_)
          refine lv_iadd hx hb dX8_toTree_67 (hp_n (n := 68) rfl (lv_topi (fun x_13 ex_13 => ?_)))
          refine lv_istore_n (lv' := [(3, .int x_13), (5, .int x_12), (7, .int rh_7), (0, .ref a0), (4, .int v4_h_2), (6, .int v6_h_2)]) hx hb dX8_toTree_68 rfl hl (by decide) rfl (fun ls hl => hp_n (n := 69) rfl ?_)
          refine lv_iload hx hb dX8_toTree_69 (lv_at hl 4 rfl) (hp_n (n := 71) rfl ?_)
          refine lv_iload hx hb dX8_toTree_71 (lv_at hl 2 rfl) (hp_n (n := 73) rfl ?_)
          refine lv_isub hx hb dX8_toTree_73 (hp_n (n := 74) rfl (lv_topi (fun x_14 ex_14 => ?_)))
          refine lv_istore (lv' := [(4, .int x_14), (3, .int x_13), (5, .int x_12), (7, .int rh_7), (0, .ref a0), (6, .int v6_h_2)]) hx hb dX8_toTree_74 hl (by decide) rfl (fun ls hl => hp_n (n := 76) rfl ?_)
          obtain ⟨x_15, ex_15⟩ : ∃ y : Int32, y = v6_h_2 + 1 := ⟨_, rfl⟩
          have qx_15 : x_15.toInt = v6_h_2.toInt + 1 := by have qa := ib_lo v6_h_2; rw [ex_15]; exact ii_add (by omega) (by omega)
          refine lv_iinc (v := x_15) (lv' := [(6, .int x_15), (4, .int x_14), (3, .int x_13), (5, .int x_12), (7, .int rh_7), (0, .ref a0)]) hx hb dX8_toTree_76 hl (k := 5) rfl (by rw [ex_15]; rfl) (by decide) rfl (fun ls hl => hp_n (n := 79) rfl ?_)
          refine lv_goto (tgt := 15) hx hb dX8_toTree_79 (by decide) ?_
          exact ih15 _ (by have qa := ib_hi v6_h_2; have qb := ib_lo v6_h_2; have qc : (v6_h_2 + 1).toInt = v6_h_2.toInt + (1 : Int32).toInt := ii_add (by omega) (by omega); rw [ex_15]; omega) Hh_7 Lh_7 Bh_7 x_13 x_14 x_12 x_15 (by omega) ls (lv_sub hl [5, 2, 1, 3, 0] rfl) rfl
        ·
          have jc_10 := il_nlt c_10
          obtain ⟨x_16, ex_16⟩ : ∃ y : Int32, y = v5_h_2 + (-1) := ⟨_, rfl⟩
          refine lv_iinc (v := x_16) (lv' := [(5, .int x_16), (7, .int rh_7), (0, .ref a0), (3, .int v3_h_2), (4, .int v4_h_2), (6, .int v6_h_2)]) hx hb dX8_toTree_45 hl (k := 4) rfl (by rw [ex_16]; rfl) (by decide) rfl (fun ls hl => hp_n (n := 48) rfl ?_)
          refine lv_iload hx hb dX8_toTree_48 (lv_at hl 1 rfl) (hp_n (n := 50) rfl ?_)
          refine lv_istore (lv' := [(4, .int rh_7), (5, .int x_16), (7, .int rh_7), (0, .ref a0), (3, .int v3_h_2), (6, .int v6_h_2)]) hx hb dX8_toTree_50 hl (by decide) rfl (fun ls hl => hp_n (n := 52) rfl ?_)
          refine lv_goto (tgt := 76) hx hb dX8_toTree_52 (by decide) ?_
          obtain ⟨x_17, ex_17⟩ : ∃ y : Int32, y = v6_h_2 + 1 := ⟨_, rfl⟩
          have qx_17 : x_17.toInt = v6_h_2.toInt + 1 := by have qa := ib_lo v6_h_2; rw [ex_17]; exact ii_add (by omega) (by omega)
          refine lv_iinc (v := x_17) (lv' := [(6, .int x_17), (4, .int rh_7), (5, .int x_16), (7, .int rh_7), (0, .ref a0), (3, .int v3_h_2)]) hx hb dX8_toTree_76 hl (k := 5) rfl (by rw [ex_17]; rfl) (by decide) rfl (fun ls hl => hp_n (n := 79) rfl ?_)
          refine lv_goto (tgt := 15) hx hb dX8_toTree_79 (by decide) ?_
          exact ih15 _ (by have qa := ib_hi v6_h_2; have qb := ib_lo v6_h_2; have qc : (v6_h_2 + 1).toInt = v6_h_2.toInt + (1 : Int32).toInt := ii_add (by omega) (by omega); rw [ex_17]; omega) Hh_7 Lh_7 Bh_7 v3_h_2 rh_7 x_16 x_17 (by omega) ls (lv_sub hl [4, 5, 1, 2, 0] rfl) rfl
  refine lv_istore (lv' := [(6, .int 0), (5, .int a1), (4, .int a2), (3, .int 0), (0, .ref a0), (1, .int a1), (2, .int a2)]) hx hb dX8_toTree_13 hl (by decide) rfl (fun ls hl => hp_n (n := 15) rfl ?_)
  exact J15 _ Hh_1 Lh_1 Bh_1 0 a2 a1 0 (by omega) ls (lv_sub hl [4, 3, 2, 1, 0] rfl) rfl
abbrev w_X8_countShared : cw_W := ([], [], [], [])
set_option maxRecDepth 100000 in
set_option maxHeartbeats 4000000 in
theorem t_X8_countShared (Γ : hp_G) (l : Launch) (α : hp_T) (g : GC α) (a0 : Nat) (k0 : hp_K α a0 = 9) (a1 : Nat) (k1 : hp_K α a1 = 9) : Met l yX8_countShared (hp_ws yX8_countShared cX8_countShared 5 (some .int)) (hp_rm 1 0 0) (hp_Pc Γ α [.ref a0, .ref a1]) (hp_Qi Γ (fun r β => β = α)) 0 0 (hp_A Γ) := by
  refine hp_start (by decide) ?_
  intro p e s m below meth c C hr hlk B0 hnm
  have C : hp_C Γ p m c cX8_countShared 5 s ([.ref a0, .ref a1] : List Value).toArray RX8 := C
  have hx := C.1.1
  have hb := C.1.2.1
  have hown := C.1.2.2.2.1
  have hts := C.1.2.2.2.2
  have B : hp_B Γ (cw w_X8_countShared) s α α s.heap [] := ⟨B0.1, B0.2.1, cw_rf g⟩
  have lit0 : (0 : Int32).toInt = 0 := by decide
  have lit1 : (1 : Int32).toInt = 1 := by decide
  have hl := lv_entry ([.ref a0, .ref a1]) (n := 5) (Nat.le_of_ble_eq_true rfl)
  show W p l e (hp_rm 1 0 0) s m ([.ref a0, .ref a1] : List Value).toArray below meth c s.heap [] 0 0 (MQ below (hp_Qi Γ (fun r β => β = α)) ([.ref a0, .ref a1] : List Value).toArray s 0 0 (hp_A Γ)) (entryFrame m ([.ref a0, .ref a1] : List Value).toArray 5)
  rw [lg_entry_eq]
  generalize (lg_sl ([.ref a0, .ref a1]) ++ List.replicate (5 - (lg_sl ([.ref a0, .ref a1])).length) Slot.unset).toArray = ls at hl ⊢
  have hl : lv_has ls 5 [(0, .ref a0), (1, .ref a1)] := hl
  refine lv_iconst (v := 0) hx hb dX8_countShared_0 (by decide) (hp_n (n := 1) rfl ?_)
  refine lv_istore_n (lv' := [(2, .int 0), (0, .ref a0), (1, .ref a1)]) hx hb dX8_countShared_1 rfl hl (by decide) rfl (fun ls hl => hp_n (n := 2) rfl ?_)
  refine lv_iconst (v := 0) hx hb dX8_countShared_2 (by decide) (hp_n (n := 3) rfl ?_)
  have J4 : ∀ (nq : Nat) (Hh_1 : Heap) (Lh_1 : List Loc) (Bh_1 : hp_B Γ (cw w_X8_countShared) s α α Hh_1 Lh_1) (v2_h_1 : Int32) (v3_h_1 : Int32) (ih_1_0 : 0 ≤ v3_h_1.toInt) (ls : Array Slot) (hl : lv_has ls 5 [(0, .ref a0), (1, .ref a1), (2, .int v2_h_1), (3, .int v3_h_1)]) (hmu4 : (2147483647 - v3_h_1.toInt).toNat = nq), W p l e (hp_rm 1 0 0) s m ([.ref a0, .ref a1] : List Value).toArray below meth c Hh_1 Lh_1 0 0 (MQ below (hp_Qi Γ (fun r β => β = α)) ([.ref a0, .ref a1] : List Value).toArray s 0 0 (hp_A Γ)) (F0 m 4 ls []) := by
    intro nq
    induction nq using Nat.strongRecOn with
    | ind nq ih4 =>
    intro Hh_1 Lh_1 Bh_1 v2_h_1 v3_h_1 ih_1_0 ls hl hmu4
    have inv4_0 := ih_1_0
    refine lv_iload_n hx hb dX8_countShared_4 rfl (lv_at hl 3 rfl) (hp_n (n := 5) rfl ?_)
    refine lv_aload_n hx hb dX8_countShared_5 rfl (lv_at hl 0 rfl) (hp_n (n := 6) rfl ?_)
    refine q_geti (κ := 9) (k := 3) (φ := 453) (pc' := 9) C Bh_1 (cw_k Bh_1.2.2 k0) fl_X8_22 rfl rfl rfl dX8_countShared_6 rfl (fun x_2 ex_2 => ?_)
    obtain ⟨gx_2a, gx_2b⟩ : 0 ≤ x_2.toInt ∧ x_2.toInt ≤ 64 := by rw [ex_2]; exact Bh_1.2.2.1.1 453 a0 rfl
    refine lv_icmp_ge (tgt := 67) hx hb dX8_countShared_9 (by decide) (fun c_3 => ?_) (fun c_3 => hp_n (n := 12) rfl ?_)
    ·
      have jc_3 := il_le c_3
      refine lv_iload_n hx hb dX8_countShared_67 rfl (lv_at hl 2 rfl) (hp_n (n := 68) rfl ?_)
      exact q_iret C Bh_1 hr hlk rfl dX8_countShared_68
    ·
      have jc_3 := il_nle c_3
      refine lv_iconst (v := 0) hx hb dX8_countShared_12 (by decide) (hp_n (n := 13) rfl ?_)
      have J15 : ∀ (nq : Nat) (Hh_4 : Heap) (Lh_4 : List Loc) (Bh_4 : hp_B Γ (cw w_X8_countShared) s α α Hh_4 Lh_4) (v2_h_4 : Int32) (v4_h_4 : Int32) (ih_4_0 : 0 ≤ v4_h_4.toInt) (ls : Array Slot) (hl : lv_has ls 5 [(0, .ref a0), (1, .ref a1), (2, .int v2_h_4), (3, .int v3_h_1), (4, .int v4_h_4)]) (hmu15 : (2147483647 - v4_h_4.toInt).toNat = nq), W p l e (hp_rm 1 0 0) s m ([.ref a0, .ref a1] : List Value).toArray below meth c Hh_4 Lh_4 0 0 (MQ below (hp_Qi Γ (fun r β => β = α)) ([.ref a0, .ref a1] : List Value).toArray s 0 0 (hp_A Γ)) (F0 m 15 ls []) := by
        intro nq
        induction nq using Nat.strongRecOn with
        | ind nq ih15 =>
        intro Hh_4 Lh_4 Bh_4 v2_h_4 v4_h_4 ih_4_0 ls hl hmu15
        have inv15_0 := ih_4_0
        refine lv_iload hx hb dX8_countShared_15 (lv_at hl 4 rfl) (hp_n (n := 17) rfl ?_)
        refine lv_aload_n hx hb dX8_countShared_17 rfl (lv_at hl 1 rfl) (hp_n (n := 18) rfl ?_)
        refine q_geti (κ := 9) (k := 3) (φ := 453) (pc' := 21) C Bh_4 (cw_k Bh_4.2.2 k1) fl_X8_22 rfl rfl rfl dX8_countShared_18 rfl (fun x_5 ex_5 => ?_)
        obtain ⟨gx_5a, gx_5b⟩ : 0 ≤ x_5.toInt ∧ x_5.toInt ≤ 64 := by rw [ex_5]; exact Bh_4.2.2.1.1 453 a1 rfl
        refine lv_icmp_ge (tgt := 61) hx hb dX8_countShared_21 (by decide) (fun c_6 => ?_) (fun c_6 => hp_n (n := 24) rfl ?_)
        ·
          have jc_6 := il_le c_6
          obtain ⟨x_7, ex_7⟩ : ∃ y : Int32, y = v3_h_1 + 1 := ⟨_, rfl⟩
          have qx_7 : x_7.toInt = v3_h_1.toInt + 1 := by have q0 := ib_hi x_2; have qa := ib_lo v3_h_1; rw [ex_7]; exact ii_add (by omega) (by omega)
          refine lv_iinc (v := x_7) (lv' := [(3, .int x_7), (0, .ref a0), (1, .ref a1), (2, .int v2_h_4), (4, .int v4_h_4)]) hx hb dX8_countShared_61 hl (k := 3) rfl (by rw [ex_7]; rfl) (by decide) rfl (fun ls hl => hp_n (n := 64) rfl ?_)
          refine lv_goto (tgt := 4) hx hb dX8_countShared_64 (by decide) ?_
          exact ih4 _ (by have q0 := ib_hi x_2; have q1 := ib_lo x_2; have qa := ib_hi v3_h_1; have qb := ib_lo v3_h_1; have qc : (v3_h_1 + 1).toInt = v3_h_1.toInt + (1 : Int32).toInt := ii_add (by omega) (by omega); rw [ex_7]; omega) Hh_4 Lh_4 Bh_4 v2_h_4 x_7 (by omega) ls (lv_sub hl [1, 2, 3, 0] rfl) rfl
        ·
          have jc_6 := il_nle c_6
          refine lv_aload_n hx hb dX8_countShared_24 rfl (lv_at hl 0 rfl) (hp_n (n := 25) rfl ?_)
          refine lv_iload_n hx hb dX8_countShared_25 rfl (lv_at hl 3 rfl) (hp_n (n := 26) rfl ?_)
          refine q_ci (pc' := 29) Bh_4 (hp_runV (As := [.int v3_h_1]) (rest := []) C Bh_4 (t_X8_firstAt Γ l α Bh_4.2.2.1 a0 (cw_k Bh_4.2.2 k0) v3_h_1) lb_X8_firstAt lv_X8_firstAt lk_X8_52 (cw_k Bh_4.2.2 k0) rfl (by decide) rfl hl.1 rfl (Nat.le_of_ble_eq_true rfl) dX8_countShared_26 ⟨Nat.le_refl _, Nat.le_refl _⟩) (fun _ _ h => by rw [h]; exact Bh_4.2.2) rfl (fun rh_8 αh_8 Hh_8 Lh_8 ph_8 Bh_8 => ?_)
          rw [ph_8] at Bh_8
          refine lv_aload_n hx hb dX8_countShared_29 rfl (lv_at hl 1 rfl) (hp_n (n := 30) rfl ?_)
          refine lv_iload hx hb dX8_countShared_30 (lv_at hl 4 rfl) (hp_n (n := 32) rfl ?_)
          refine q_ci (pc' := 35) Bh_8 (hp_runV (As := [.int v4_h_4]) (rest := [.int rh_8]) C Bh_8 (t_X8_firstAt Γ l α Bh_8.2.2.1 a1 (cw_k Bh_8.2.2 k1) v4_h_4) lb_X8_firstAt lv_X8_firstAt lk_X8_52 (cw_k Bh_8.2.2 k1) rfl (by decide) rfl hl.1 rfl (Nat.le_of_ble_eq_true rfl) dX8_countShared_32 ⟨Nat.le_refl _, Nat.le_refl _⟩) (fun _ _ h => by rw [h]; exact Bh_8.2.2) rfl (fun rh_9 αh_9 Hh_9 Lh_9 ph_9 Bh_9 => ?_)
          rw [ph_9] at Bh_9
          refine lv_icmp_ne (tgt := 55) hx hb dX8_countShared_35 (by decide) (fun c_10 => ?_) (fun c_10 => hp_n (n := 38) rfl ?_)
          ·
            have jc_10 := il_ne c_10
            obtain ⟨x_11, ex_11⟩ : ∃ y : Int32, y = v4_h_4 + 1 := ⟨_, rfl⟩
            have qx_11 : x_11.toInt = v4_h_4.toInt + 1 := by have q0 := ib_hi x_5; have qa := ib_lo v4_h_4; rw [ex_11]; exact ii_add (by omega) (by omega)
            refine lv_iinc (v := x_11) (lv' := [(4, .int x_11), (0, .ref a0), (1, .ref a1), (2, .int v2_h_4), (3, .int v3_h_1)]) hx hb dX8_countShared_55 hl (k := 4) rfl (by rw [ex_11]; rfl) (by decide) rfl (fun ls hl => hp_n (n := 58) rfl ?_)
            refine lv_goto (tgt := 15) hx hb dX8_countShared_58 (by decide) ?_
            exact ih15 _ (by have q0 := ib_hi x_5; have q1 := ib_lo x_5; have qa := ib_hi v4_h_4; have qb := ib_lo v4_h_4; have qc : (v4_h_4 + 1).toInt = v4_h_4.toInt + (1 : Int32).toInt := ii_add (by omega) (by omega); rw [ex_11]; omega) Hh_9 Lh_9 Bh_9 v2_h_4 x_11 (by omega) ls (lv_sub hl [1, 2, 3, 4, 0] rfl) rfl
          ·
            have jc_10 := il_eq c_10
            refine lv_aload_n hx hb dX8_countShared_38 rfl (lv_at hl 0 rfl) (hp_n (n := 39) rfl ?_)
            refine lv_iload_n hx hb dX8_countShared_39 rfl (lv_at hl 3 rfl) (hp_n (n := 40) rfl ?_)
            refine q_ci (pc' := 43) Bh_9 (hp_runV (As := [.int v3_h_1]) (rest := []) C Bh_9 (t_X8_manyAt Γ l α Bh_9.2.2.1 a0 (cw_k Bh_9.2.2 k0) v3_h_1) lb_X8_manyAt lv_X8_manyAt lk_X8_55 (cw_k Bh_9.2.2 k0) rfl (by decide) rfl hl.1 rfl (Nat.le_of_ble_eq_true rfl) dX8_countShared_40 ⟨Nat.le_refl _, Nat.le_refl _⟩) (fun _ _ h => by rw [h]; exact Bh_9.2.2) rfl (fun rh_12 αh_12 Hh_12 Lh_12 ph_12 Bh_12 => ?_)
            rw [ph_12] at Bh_12
            refine lv_aload_n hx hb dX8_countShared_43 rfl (lv_at hl 1 rfl) (hp_n (n := 44) rfl ?_)
            refine lv_iload hx hb dX8_countShared_44 (lv_at hl 4 rfl) (hp_n (n := 46) rfl ?_)
            refine q_ci (pc' := 49) Bh_12 (hp_runV (As := [.int v4_h_4]) (rest := [.int rh_12]) C Bh_12 (t_X8_manyAt Γ l α Bh_12.2.2.1 a1 (cw_k Bh_12.2.2 k1) v4_h_4) lb_X8_manyAt lv_X8_manyAt lk_X8_55 (cw_k Bh_12.2.2 k1) rfl (by decide) rfl hl.1 rfl (Nat.le_of_ble_eq_true rfl) dX8_countShared_46 ⟨Nat.le_refl _, Nat.le_refl _⟩) (fun _ _ h => by rw [h]; exact Bh_12.2.2) rfl (fun rh_13 αh_13 Hh_13 Lh_13 ph_13 Bh_13 => ?_)
            rw [ph_13] at Bh_13
            refine lv_icmp_ne (tgt := 55) hx hb dX8_countShared_49 (by decide) (fun c_14 => ?_) (fun c_14 => hp_n (n := 52) rfl ?_)
            ·
              have jc_14 := il_ne c_14
              obtain ⟨x_15, ex_15⟩ : ∃ y : Int32, y = v4_h_4 + 1 := ⟨_, rfl⟩
              have qx_15 : x_15.toInt = v4_h_4.toInt + 1 := by have q0 := ib_hi x_5; have qa := ib_lo v4_h_4; rw [ex_15]; exact ii_add (by omega) (by omega)
              refine lv_iinc (v := x_15) (lv' := [(4, .int x_15), (0, .ref a0), (1, .ref a1), (2, .int v2_h_4), (3, .int v3_h_1)]) hx hb dX8_countShared_55 hl (k := 4) rfl (by rw [ex_15]; rfl) (by decide) rfl (fun ls hl => hp_n (n := 58) rfl ?_)
              refine lv_goto (tgt := 15) hx hb dX8_countShared_58 (by decide) ?_
              exact ih15 _ (by have q0 := ib_hi x_5; have q1 := ib_lo x_5; have qa := ib_hi v4_h_4; have qb := ib_lo v4_h_4; have qc : (v4_h_4 + 1).toInt = v4_h_4.toInt + (1 : Int32).toInt := ii_add (by omega) (by omega); rw [ex_15]; omega) Hh_13 Lh_13 Bh_13 v2_h_4 x_15 (by omega) ls (lv_sub hl [1, 2, 3, 4, 0] rfl) rfl
            ·
              have jc_14 := il_eq c_14
              obtain ⟨x_16, ex_16⟩ : ∃ y : Int32, y = v2_h_4 + 1 := ⟨_, rfl⟩
              refine lv_iinc (v := x_16) (lv' := [(2, .int x_16), (0, .ref a0), (1, .ref a1), (3, .int v3_h_1), (4, .int v4_h_4)]) hx hb dX8_countShared_52 hl (k := 2) rfl (by rw [ex_16]; rfl) (by decide) rfl (fun ls hl => hp_n (n := 55) rfl ?_)
              obtain ⟨x_17, ex_17⟩ : ∃ y : Int32, y = v4_h_4 + 1 := ⟨_, rfl⟩
              have qx_17 : x_17.toInt = v4_h_4.toInt + 1 := by have q0 := ib_hi x_5; have qa := ib_lo v4_h_4; rw [ex_17]; exact ii_add (by omega) (by omega)
              refine lv_iinc (v := x_17) (lv' := [(4, .int x_17), (2, .int x_16), (0, .ref a0), (1, .ref a1), (3, .int v3_h_1)]) hx hb dX8_countShared_55 hl (k := 4) rfl (by rw [ex_17]; rfl) (by decide) rfl (fun ls hl => hp_n (n := 58) rfl ?_)
              refine lv_goto (tgt := 15) hx hb dX8_countShared_58 (by decide) ?_
              exact ih15 _ (by have q0 := ib_hi x_5; have q1 := ib_lo x_5; have qa := ib_hi v4_h_4; have qb := ib_lo v4_h_4; have qc : (v4_h_4 + 1).toInt = v4_h_4.toInt + (1 : Int32).toInt := ii_add (by omega) (by omega); rw [ex_17]; omega) Hh_13 Lh_13 Bh_13 x_16 x_17 (by omega) ls (lv_sub hl [2, 3, 1, 4, 0] rfl) rfl
      refine lv_istore (lv' := [(4, .int 0), (0, .ref a0), (1, .ref a1), (2, .int v2_h_1), (3, .int v3_h_1)]) hx hb dX8_countShared_13 hl (by decide) rfl (fun ls hl => hp_n (n := 15) rfl ?_)
      exact J15 _ Hh_1 Lh_1 Bh_1 v2_h_1 0 (by omega) ls (lv_sub hl [1, 2, 3, 4, 0] rfl) rfl
  refine lv_istore_n (lv' := [(3, .int 0), (2, .int 0), (0, .ref a0), (1, .ref a1)]) hx hb dX8_countShared_3 rfl hl (by decide) rfl (fun ls hl => hp_n (n := 4) rfl ?_)
  exact J4 _ s.heap [] B 0 0 (by omega) ls (lv_sub hl [2, 3, 1, 0] rfl) rfl
abbrev w_X8_joined : cw_W := ([], [], [], [])
set_option maxRecDepth 100000 in
set_option maxHeartbeats 4000000 in
theorem t_X8_joined (Γ : hp_G) (l : Launch) (α : hp_T) (g : GC α) (a0 : Nat) (k0 : hp_K α a0 = 9) (a1 : Int32) (a2 : Int32) (a3 : Int32) (a4 : Int32) : Met l yX8_joined (hp_ws yX8_joined cX8_joined 5 (some .int)) (hp_rm 1 0 0) (hp_Pc Γ α [.ref a0, .int a1, .int a2, .int a3, .int a4]) (hp_Qi Γ (fun r β => β = α)) 0 0 (hp_A Γ) := by
  refine hp_start (by decide) ?_
  intro p e s m below meth c C hr hlk B0 hnm
  have C : hp_C Γ p m c cX8_joined 5 s ([.ref a0, .int a1, .int a2, .int a3, .int a4] : List Value).toArray RX8 := C
  have hx := C.1.1
  have hb := C.1.2.1
  have hown := C.1.2.2.2.1
  have hts := C.1.2.2.2.2
  have B : hp_B Γ (cw w_X8_joined) s α α s.heap [] := ⟨B0.1, B0.2.1, cw_rf g⟩
  have lit0 : (0 : Int32).toInt = 0 := by decide
  have hl := lv_entry ([.ref a0, .int a1, .int a2, .int a3, .int a4]) (n := 5) (Nat.le_of_ble_eq_true rfl)
  show W p l e (hp_rm 1 0 0) s m ([.ref a0, .int a1, .int a2, .int a3, .int a4] : List Value).toArray below meth c s.heap [] 0 0 (MQ below (hp_Qi Γ (fun r β => β = α)) ([.ref a0, .int a1, .int a2, .int a3, .int a4] : List Value).toArray s 0 0 (hp_A Γ)) (entryFrame m ([.ref a0, .int a1, .int a2, .int a3, .int a4] : List Value).toArray 5)
  rw [lg_entry_eq]
  generalize (lg_sl ([.ref a0, .int a1, .int a2, .int a3, .int a4]) ++ List.replicate (5 - (lg_sl ([.ref a0, .int a1, .int a2, .int a3, .int a4])).length) Slot.unset).toArray = ls at hl ⊢
  have hl : lv_has ls 5 [(0, .ref a0), (1, .int a1), (2, .int a2), (3, .int a3), (4, .int a4)] := hl
  refine lv_aload_n hx hb dX8_joined_0 rfl (lv_at hl 0 rfl) (hp_n (n := 1) rfl ?_)
  refine lv_iload_n hx hb dX8_joined_1 rfl (lv_at hl 2 rfl) (hp_n (n := 2) rfl ?_)
  refine q_ci (pc' := 5) B (hp_runV (As := [.int a2]) (rest := []) C B (t_X8_isAhead Γ l α B.2.2.1 a0 (cw_k B.2.2 k0) a2) lb_X8_isAhead lv_X8_isAhead lk_X8_58 (cw_k B.2.2 k0) rfl (by decide) rfl hl.1 rfl (Nat.le_of_ble_eq_true rfl) dX8_joined_2 ⟨Nat.le_refl _, Nat.le_refl _⟩) (fun _ _ h => by rw [h.1]; exact B.2.2) rfl (fun rh_1 αh_1 Hh_1 Lh_1 ph_1 Bh_1 => ?_)
  rw [ph_1.1] at Bh_1
  have zh_1 := ph_1.2
  refine lv_if_eq (tgt := 18) hx hb dX8_joined_5 (by decide) (fun c_2 => ?_) (fun c_2 => hp_n (n := 8) rfl ?_)
  ·
    have jc_2 := il_eq c_2
    refine lv_iload_n hx hb dX8_joined_18 rfl (lv_at hl 1 rfl) (hp_n (n := 19) rfl ?_)
    refine lv_iload_n hx hb dX8_joined_19 rfl (lv_at hl 3 rfl) (hp_n (n := 20) rfl ?_)
    refine lv_iload hx hb dX8_joined_20 (lv_at hl 4 rfl) (hp_n (n := 22) rfl ?_)
    refine q_ci (pc' := 25) Bh_1 (hp_runS (As := [.int a1, .int a3, .int a4]) (rest := []) C Bh_1 (t_X11_markOfTwo Γ l α Bh_1.2.2.1 a1 a3 a4) lb_X11_markOfTwo ls_X11_markOfTwo lk_X8_62 rfl (by decide) rfl hl.1 rfl (Nat.le_of_ble_eq_true rfl) dX8_joined_22 ⟨Nat.le_refl _, Nat.le_refl _⟩) (fun _ _ h => by rw [h]; exact Bh_1.2.2) rfl (fun rh_3 αh_3 Hh_3 Lh_3 ph_3 Bh_3 => ?_)
    rw [ph_3] at Bh_3
    exact q_iret C Bh_3 hr hlk rfl dX8_joined_25
  ·
    have jc_2 := il_ne c_2
    refine lv_iload_n hx hb dX8_joined_8 rfl (lv_at hl 1 rfl) (hp_n (n := 9) rfl ?_)
    refine lv_iload hx hb dX8_joined_9 (lv_at hl 4 rfl) (hp_n (n := 11) rfl ?_)
    refine lv_iload_n hx hb dX8_joined_11 rfl (lv_at hl 3 rfl) (hp_n (n := 12) rfl ?_)
    refine q_ci (pc' := 15) Bh_1 (hp_runS (As := [.int a1, .int a4, .int a3]) (rest := []) C Bh_1 (t_X11_markOfTwo Γ l α Bh_1.2.2.1 a1 a4 a3) lb_X11_markOfTwo ls_X11_markOfTwo lk_X8_62 rfl (by decide) rfl hl.1 rfl (Nat.le_of_ble_eq_true rfl) dX8_joined_12 ⟨Nat.le_refl _, Nat.le_refl _⟩) (fun _ _ h => by rw [h]; exact Bh_1.2.2) rfl (fun rh_4 αh_4 Hh_4 Lh_4 ph_4 Bh_4 => ?_)
    rw [ph_4] at Bh_4
    refine lv_goto (tgt := 25) hx hb dX8_joined_15 (by decide) ?_
    exact q_iret C Bh_4 hr hlk rfl dX8_joined_25
abbrev w_X8_folded : cw_W := ([], [], [], [])
set_option maxRecDepth 100000 in
set_option maxHeartbeats 4000000 in
theorem t_X8_folded (Γ : hp_G) (l : Launch) (α : hp_T) (g : GC α) (a0 : Nat) (k0 : hp_K α a0 = 9) (a1 : Int32) (a2 : Nat) (k2 : hp_K α a2 = 6) (a3 : Int32) (a4 : Int32) : Met l yX8_folded (hp_ws yX8_folded cX8_folded 7 (some .int)) (hp_rm 2 0 0) (hp_Pc Γ α [.ref a0, .int a1, .ref a2, .int a3, .int a4]) (hp_Qi Γ (fun r β => β = α)) 0 0 (hp_A Γ) := by
  refine hp_start (by decide) ?_
  intro p e s m below meth c C hr hlk B0 hnm
  have C : hp_C Γ p m c cX8_folded 7 s ([.ref a0, .int a1, .ref a2, .int a3, .int a4] : List Value).toArray RX8 := C
  have hx := C.1.1
  have hb := C.1.2.1
  have hown := C.1.2.2.2.1
  have hts := C.1.2.2.2.2
  have B : hp_B Γ (cw w_X8_folded) s α α s.heap [] := ⟨B0.1, B0.2.1, cw_rf g⟩
  have lit0 : (0 : Int32).toInt = 0 := by decide
  have lit1 : (1 : Int32).toInt = 1 := by decide
  have hl := lv_entry ([.ref a0, .int a1, .ref a2, .int a3, .int a4]) (n := 7) (Nat.le_of_ble_eq_true rfl)
  show W p l e (hp_rm 2 0 0) s m ([.ref a0, .int a1, .ref a2, .int a3, .int a4] : List Value).toArray below meth c s.heap [] 0 0 (MQ below (hp_Qi Γ (fun r β => β = α)) ([.ref a0, .int a1, .ref a2, .int a3, .int a4] : List Value).toArray s 0 0 (hp_A Γ)) (entryFrame m ([.ref a0, .int a1, .ref a2, .int a3, .int a4] : List Value).toArray 7)
  rw [lg_entry_eq]
  generalize (lg_sl ([.ref a0, .int a1, .ref a2, .int a3, .int a4]) ++ List.replicate (7 - (lg_sl ([.ref a0, .int a1, .ref a2, .int a3, .int a4])).length) Slot.unset).toArray = ls at hl ⊢
  have hl : lv_has ls 7 [(0, .ref a0), (1, .int a1), (2, .ref a2), (3, .int a3), (4, .int a4)] := hl
  refine lv_iload_n hx hb dX8_folded_0 rfl (lv_at hl 3 rfl) (hp_n (n := 1) rfl ?_)
  refine lv_istore (lv' := [(5, .int a3), (0, .ref a0), (1, .int a1), (2, .ref a2), (3, .int a3), (4, .int a4)]) hx hb dX8_folded_1 hl (by decide) rfl (fun ls hl => hp_n (n := 3) rfl ?_)
  refine lv_iconst (v := 0) hx hb dX8_folded_3 (by decide) (hp_n (n := 4) rfl ?_)
  have J6 : ∀ (nq : Nat) (Hh_1 : Heap) (Lh_1 : List Loc) (Bh_1 : hp_B Γ (cw w_X8_folded) s α α Hh_1 Lh_1) (v5_h_1 : Int32) (v6_h_1 : Int32) (ih_1_0 : 0 ≤ v6_h_1.toInt) (ls : Array Slot) (hl : lv_has ls 7 [(0, .ref a0), (1, .int a1), (2, .ref a2), (4, .int a4), (5, .int v5_h_1), (6, .int v6_h_1)]) (hmu6 : (2147483647 - v6_h_1.toInt).toNat = nq), W p l e (hp_rm 2 0 0) s m ([.ref a0, .int a1, .ref a2, .int a3, .int a4] : List Value).toArray below meth c Hh_1 Lh_1 0 0 (MQ below (hp_Qi Γ (fun r β => β = α)) ([.ref a0, .int a1, .ref a2, .int a3, .int a4] : List Value).toArray s 0 0 (hp_A Γ)) (F0 m 6 ls []) := by
    intro nq
    induction nq using Nat.strongRecOn with
    | ind nq ih6 =>
    intro Hh_1 Lh_1 Bh_1 v5_h_1 v6_h_1 ih_1_0 ls hl hmu6
    have inv6_0 := ih_1_0
    refine lv_iload hx hb dX8_folded_6 (lv_at hl 5 rfl) (hp_n (n := 8) rfl ?_)
    refine lv_iload hx hb dX8_folded_8 (lv_at hl 3 rfl) (hp_n (n := 10) rfl ?_)
    refine lv_icmp_ge (tgt := 45) hx hb dX8_folded_10 (by decide) (fun c_2 => ?_) (fun c_2 => hp_n (n := 13) rfl ?_)
    ·
      have jc_2 := il_le c_2
      refine lv_iload hx hb dX8_folded_45 (lv_at hl 4 rfl) (hp_n (n := 47) rfl ?_)
      exact q_iret C Bh_1 hr hlk rfl dX8_folded_47
    ·
      have jc_2 := il_nle c_2
      refine lv_iload hx hb dX8_folded_13 (lv_at hl 5 rfl) (hp_n (n := 15) rfl ?_)
      refine lv_aload_n hx hb dX8_folded_15 rfl (lv_at hl 0 rfl) (hp_n (n := 16) rfl ?_)
      refine q_geti (κ := 9) (k := 3) (φ := 453) (pc' := 19) C Bh_1 (cw_k Bh_1.2.2 k0) fl_X8_22 rfl rfl rfl dX8_folded_16 rfl (fun x_3 ex_3 => ?_)
      obtain ⟨gx_3a, gx_3b⟩ : 0 ≤ x_3.toInt ∧ x_3.toInt ≤ 64 := by rw [ex_3]; exact Bh_1.2.2.1.1 453 a0 rfl
      refine lv_icmp_ge (tgt := 45) hx hb dX8_folded_19 (by decide) (fun c_4 => ?_) (fun c_4 => hp_n (n := 22) rfl ?_)
      ·
        have jc_4 := il_le c_4
        refine lv_iload hx hb dX8_folded_45 (lv_at hl 4 rfl) (hp_n (n := 47) rfl ?_)
        exact q_iret C Bh_1 hr hlk rfl dX8_folded_47
      ·
        have jc_4 := il_nle c_4
        refine lv_aload_n hx hb dX8_folded_22 rfl (lv_at hl 0 rfl) (hp_n (n := 23) rfl ?_)
        refine lv_iload_n hx hb dX8_folded_23 rfl (lv_at hl 1 rfl) (hp_n (n := 24) rfl ?_)
        refine lv_iload hx hb dX8_folded_24 (lv_at hl 5 rfl) (hp_n (n := 26) rfl ?_)
        refine lv_iload hx hb dX8_folded_26 (lv_at hl 4 rfl) (hp_n (n := 28) rfl ?_)
        refine lv_aload_n hx hb dX8_folded_28 rfl (lv_at hl 2 rfl) (hp_n (n := 29) rfl ?_)
        refine lv_iload hx hb dX8_folded_29 (lv_at hl 5 rfl) (hp_n (n := 31) rfl ?_)
        refine q_ci (pc' := 34) Bh_1 (hp_runV (As := [.int v6_h_1]) (rest := [.int v5_h_1, .int v6_h_1, .int a1, .ref a0]) C Bh_1 (t_X5_at Γ l α Bh_1.2.2.1 a2 (cw_k Bh_1.2.2 k2) v6_h_1) lb_X5_at lv_X5_at lk_X8_65 (cw_k Bh_1.2.2 k2) rfl (by decide) rfl hl.1 rfl (Nat.le_of_ble_eq_true rfl) dX8_folded_31 ⟨Nat.le_refl _, Nat.le_refl _⟩) (fun _ _ h => by rw [h]; exact Bh_1.2.2) rfl (fun rh_5 αh_5 Hh_5 Lh_5 ph_5 Bh_5 => ?_)
        rw [ph_5] at Bh_5
        refine q_ci (pc' := 37) Bh_5 (hp_runV (As := [.int a1, .int v6_h_1, .int v5_h_1, .int rh_5]) (rest := []) C Bh_5 (t_X8_joined Γ l α Bh_5.2.2.1 a0 (cw_k Bh_5.2.2 k0) a1 v6_h_1 v5_h_1 rh_5) lb_X8_joined lv_X8_joined lk_X8_70 (cw_k Bh_5.2.2 k0) rfl (by decide) rfl hl.1 rfl (Nat.le_of_ble_eq_true rfl) dX8_folded_34 ⟨Nat.le_refl _, Nat.le_refl _⟩) (fun _ _ h => by rw [h]; exact Bh_5.2.2) rfl (fun rh_6 αh_6 Hh_6 Lh_6 ph_6 Bh_6 => ?_)
        rw [ph_6] at Bh_6
        refine lv_istore (lv' := [(5, .int rh_6), (0, .ref a0), (1, .int a1), (2, .ref a2), (4, .int a4), (6, .int v6_h_1)]) hx hb dX8_folded_37 hl (by decide) rfl (fun ls hl => hp_n (n := 39) rfl ?_)
        obtain ⟨x_7, ex_7⟩ : ∃ y : Int32, y = v6_h_1 + 1 := ⟨_, rfl⟩
        have qx_7 : x_7.toInt = v6_h_1.toInt + 1 := by have q0 := ib_hi a4; have q1 := ib_hi x_3; have qa := ib_lo v6_h_1; rw [ex_7]; exact ii_add (by omega) (by omega)
        refine lv_iinc (v := x_7) (lv' := [(6, .int x_7), (5, .int rh_6), (0, .ref a0), (1, .int a1), (2, .ref a2), (4, .int a4)]) hx hb dX8_folded_39 hl (k := 5) rfl (by rw [ex_7]; rfl) (by decide) rfl (fun ls hl => hp_n (n := 42) rfl ?_)
        refine lv_goto (tgt := 6) hx hb dX8_folded_42 (by decide) ?_
        exact ih6 _ (by have q0 := ib_hi a4; have q1 := ib_lo a4; have q2 := ib_hi x_3; have q3 := ib_lo x_3; have qa := ib_hi v6_h_1; have qb := ib_lo v6_h_1; have qc : (v6_h_1 + 1).toInt = v6_h_1.toInt + (1 : Int32).toInt := ii_add (by omega) (by omega); rw [ex_7]; omega) Hh_6 Lh_6 Bh_6 rh_6 x_7 (by omega) ls (lv_sub hl [2, 3, 4, 5, 1, 0] rfl) rfl
  refine lv_istore (lv' := [(6, .int 0), (5, .int a3), (0, .ref a0), (1, .int a1), (2, .ref a2), (3, .int a3), (4, .int a4)]) hx hb dX8_folded_4 hl (by decide) rfl (fun ls hl => hp_n (n := 6) rfl ?_)
  exact J6 _ s.heap [] B a3 0 (by omega) ls (lv_sub hl [2, 3, 4, 6, 1, 0] rfl) rfl
abbrev w_X8_whyInclusion : cw_W := ([], [], [], [])
set_option maxRecDepth 100000 in
set_option maxHeartbeats 4000000 in
theorem t_X8_whyInclusion (Γ : hp_G) (l : Launch) (α : hp_T) (g : GC α) (a0 : Nat) (k0 : hp_K α a0 = 9) (a1 : Int32) (a2 : Nat) (k2 : hp_K α a2 = 6) (a3 : Int32) (a4 : Int32) : Met l yX8_whyInclusion (hp_ws yX8_whyInclusion cX8_whyInclusion 5 (some .int)) (hp_rm 3 0 0) (hp_Pc Γ α [.ref a0, .int a1, .ref a2, .int a3, .int a4]) (hp_Qi Γ (fun r β => β = α)) 0 0 (hp_A Γ) := by
  refine hp_start (by decide) ?_
  intro p e s m below meth c C hr hlk B0 hnm
  have C : hp_C Γ p m c cX8_whyInclusion 5 s ([.ref a0, .int a1, .ref a2, .int a3, .int a4] : List Value).toArray RX8 := C
  have hx := C.1.1
  have hb := C.1.2.1
  have hown := C.1.2.2.2.1
  have hts := C.1.2.2.2.2
  have B : hp_B Γ (cw w_X8_whyInclusion) s α α s.heap [] := ⟨B0.1, B0.2.1, cw_rf g⟩
  have lit0 : (0 : Int32).toInt = 0 := by decide
  have lit1 : (1 : Int32).toInt = 1 := by decide
  have lit2 : (2 : Int32).toInt = 2 := by decide
  have lit3 : (3 : Int32).toInt = 3 := by decide
  have hl := lv_entry ([.ref a0, .int a1, .ref a2, .int a3, .int a4]) (n := 5) (Nat.le_of_ble_eq_true rfl)
  show W p l e (hp_rm 3 0 0) s m ([.ref a0, .int a1, .ref a2, .int a3, .int a4] : List Value).toArray below meth c s.heap [] 0 0 (MQ below (hp_Qi Γ (fun r β => β = α)) ([.ref a0, .int a1, .ref a2, .int a3, .int a4] : List Value).toArray s 0 0 (hp_A Γ)) (entryFrame m ([.ref a0, .int a1, .ref a2, .int a3, .int a4] : List Value).toArray 5)
  rw [lg_entry_eq]
  generalize (lg_sl ([.ref a0, .int a1, .ref a2, .int a3, .int a4]) ++ List.replicate (5 - (lg_sl ([.ref a0, .int a1, .ref a2, .int a3, .int a4])).length) Slot.unset).toArray = ls at hl ⊢
  have hl : lv_has ls 5 [(0, .ref a0), (1, .int a1), (2, .ref a2), (3, .int a3), (4, .int a4)] := hl
  refine lv_aload_n hx hb dX8_whyInclusion_0 rfl (lv_at hl 2 rfl) (hp_n (n := 1) rfl ?_)
  refine q_geti (κ := 6) (k := 1) (φ := 301) (pc' := 4) C B (cw_k B.2.2 k2) fl_X8_74 rfl rfl rfl dX8_whyInclusion_1 rfl (fun x_1 ex_1 => ?_)
  refine lv_aload_n hx hb dX8_whyInclusion_4 rfl (lv_at hl 0 rfl) (hp_n (n := 5) rfl ?_)
  refine q_geti (κ := 9) (k := 3) (φ := 453) (pc' := 8) C B (cw_k B.2.2 k0) fl_X8_22 rfl rfl rfl dX8_whyInclusion_5 rfl (fun x_2 ex_2 => ?_)
  obtain ⟨gx_2a, gx_2b⟩ : 0 ≤ x_2.toInt ∧ x_2.toInt ≤ 64 := by rw [ex_2]; exact B.2.2.1.1 453 a0 rfl
  refine lv_icmp_eq (tgt := 28) hx hb dX8_whyInclusion_8 (by decide) (fun c_3 => ?_) (fun c_3 => hp_n (n := 11) rfl ?_)
  ·
    have jc_3 := il_eq c_3
    refine lv_aload_n hx hb dX8_whyInclusion_28 rfl (lv_at hl 0 rfl) (hp_n (n := 29) rfl ?_)
    refine lv_iload_n hx hb dX8_whyInclusion_29 rfl (lv_at hl 1 rfl) (hp_n (n := 30) rfl ?_)
    refine lv_aload_n hx hb dX8_whyInclusion_30 rfl (lv_at hl 2 rfl) (hp_n (n := 31) rfl ?_)
    refine lv_iload_n hx hb dX8_whyInclusion_31 rfl (lv_at hl 3 rfl) (hp_n (n := 32) rfl ?_)
    refine lv_aload_n hx hb dX8_whyInclusion_32 rfl (lv_at hl 0 rfl) (hp_n (n := 33) rfl ?_)
    refine q_getj (κ := 9) (k := 3) (φ := 453) (pc' := 36) C B (cw_k B.2.2 k0) fl_X8_22 rfl rfl rfl ex_2 dX8_whyInclusion_33 rfl ?_
    refine q_ci (pc' := 39) B (hp_runV (As := [.int a1, .ref a2, .int a3, .int x_2]) (rest := []) C B (t_X8_folded Γ l α B.2.2.1 a0 (cw_k B.2.2 k0) a1 a2 (cw_k B.2.2 k2) a3 x_2) lb_X8_folded lv_X8_folded lk_X8_75 (cw_k B.2.2 k0) rfl (by decide) rfl hl.1 rfl (Nat.le_of_ble_eq_true rfl) dX8_whyInclusion_36 ⟨Nat.le_refl _, Nat.le_refl _⟩) (fun _ _ h => by rw [h]; exact B.2.2) rfl (fun rh_4 αh_4 Hh_4 Lh_4 ph_4 Bh_4 => ?_)
    rw [ph_4] at Bh_4
    refine lv_iload hx hb dX8_whyInclusion_39 (lv_at hl 4 rfl) (hp_n (n := 41) rfl ?_)
    refine lv_icmp_ne (tgt := 48) hx hb dX8_whyInclusion_41 (by decide) (fun c_5 => ?_) (fun c_5 => hp_n (n := 44) rfl ?_)
    ·
      have jc_5 := il_ne c_5
      refine lv_iconst (v := 3) hx hb dX8_whyInclusion_48 (by decide) (hp_n (n := 49) rfl ?_)
      exact q_iret C Bh_4 hr hlk rfl dX8_whyInclusion_49
    ·
      have jc_5 := il_eq c_5
      refine lv_iconst (v := 0) hx hb dX8_whyInclusion_44 (by decide) (hp_n (n := 45) rfl ?_)
      refine lv_goto (tgt := 49) hx hb dX8_whyInclusion_45 (by decide) ?_
      exact q_iret C Bh_4 hr hlk rfl dX8_whyInclusion_49
  ·
    have jc_3 := il_ne c_3
    refine lv_aload_n hx hb dX8_whyInclusion_11 rfl (lv_at hl 2 rfl) (hp_n (n := 12) rfl ?_)
    refine q_getj (κ := 6) (k := 1) (φ := 301) (pc' := 15) C B (cw_k B.2.2 k2) fl_X8_74 rfl rfl rfl ex_1 dX8_whyInclusion_12 rfl ?_
    refine lv_aload_n hx hb dX8_whyInclusion_15 rfl (lv_at hl 0 rfl) (hp_n (n := 16) rfl ?_)
    refine q_getj (κ := 9) (k := 3) (φ := 453) (pc' := 19) C B (cw_k B.2.2 k0) fl_X8_22 rfl rfl rfl ex_2 dX8_whyInclusion_16 rfl ?_
    refine lv_icmp_ge (tgt := 26) hx hb dX8_whyInclusion_19 (by decide) (fun c_6 => ?_) (fun c_6 => hp_n (n := 22) rfl ?_)
    ·
      have jc_6 := il_le c_6
      refine lv_iconst (v := 2) hx hb dX8_whyInclusion_26 (by decide) (hp_n (n := 27) rfl ?_)
      exact q_iret C B hr hlk rfl dX8_whyInclusion_27
    ·
      have jc_6 := il_nle c_6
      refine lv_iconst (v := 1) hx hb dX8_whyInclusion_22 (by decide) (hp_n (n := 23) rfl ?_)
      refine lv_goto (tgt := 27) hx hb dX8_whyInclusion_23 (by decide) ?_
      exact q_iret C B hr hlk rfl dX8_whyInclusion_27
abbrev w_X8_whyGrowth : cw_W := ([453, 454], [], [21, 22, 23], [])
set_option maxRecDepth 100000 in
set_option maxHeartbeats 4000000 in
theorem t_X8_whyGrowth (Γ : hp_G) (l : Launch) (α : hp_T) (g : GC α) (a0 : Nat) (k0 : hp_K α a0 = 9) (a1 : Int32) (a2 : Nat) (k2 : hp_K α a2 = 6) (a3 : Int32) (a4 : Int32) (a5 : Int32) (a6 : Int32) : Met l yX8_whyGrowth (hp_ws yX8_whyGrowth cX8_whyGrowth 10 (some .int)) (hp_rm 4 0 0) (hp_Pc Γ α [.ref a0, .int a1, .ref a2, .int a3, .int a4, .int a5, .int a6]) (hp_Qi Γ (fun r β => cw w_X8_whyGrowth α β)) 0 0 (hp_A Γ) := by
  refine hp_start (by decide) ?_
  intro p e s m below meth c C hr hlk B0 hnm
  have C : hp_C Γ p m c cX8_whyGrowth 10 s ([.ref a0, .int a1, .ref a2, .int a3, .int a4, .int a5, .int a6] : List Value).toArray RX8 := C
  have hx := C.1.1
  have hb := C.1.2.1
  have hown := C.1.2.2.2.1
  have hts := C.1.2.2.2.2
  have B : hp_B Γ (cw w_X8_whyGrowth) s α α s.heap [] := ⟨B0.1, B0.2.1, cw_rf g⟩
  have lit0 : (0 : Int32).toInt = 0 := by decide
  have lit1 : (1 : Int32).toInt = 1 := by decide
  have lit2 : (2 : Int32).toInt = 2 := by decide
  have lit3 : (3 : Int32).toInt = 3 := by decide
  have lit4 : (4 : Int32).toInt = 4 := by decide
  have hl := lv_entry ([.ref a0, .int a1, .ref a2, .int a3, .int a4, .int a5, .int a6]) (n := 10) (Nat.le_of_ble_eq_true rfl)
  show W p l e (hp_rm 4 0 0) s m ([.ref a0, .int a1, .ref a2, .int a3, .int a4, .int a5, .int a6] : List Value).toArray below meth c s.heap [] 0 0 (MQ below (hp_Qi Γ (fun r β => cw w_X8_whyGrowth α β)) ([.ref a0, .int a1, .ref a2, .int a3, .int a4, .int a5, .int a6] : List Value).toArray s 0 0 (hp_A Γ)) (entryFrame m ([.ref a0, .int a1, .ref a2, .int a3, .int a4, .int a5, .int a6] : List Value).toArray 10)
  rw [lg_entry_eq]
  generalize (lg_sl ([.ref a0, .int a1, .ref a2, .int a3, .int a4, .int a5, .int a6]) ++ List.replicate (10 - (lg_sl ([.ref a0, .int a1, .ref a2, .int a3, .int a4, .int a5, .int a6])).length) Slot.unset).toArray = ls at hl ⊢
  have hl : lv_has ls 10 [(0, .ref a0), (1, .int a1), (2, .ref a2), (3, .int a3), (4, .int a4), (5, .int a5), (6, .int a6)] := hl
  refine lv_aload_n hx hb dX8_whyGrowth_0 rfl (lv_at hl 0 rfl) (hp_n (n := 1) rfl ?_)
  refine lv_iload_n hx hb dX8_whyGrowth_1 rfl (lv_at hl 3 rfl) (hp_n (n := 2) rfl ?_)
  refine lv_iload hx hb dX8_whyGrowth_2 (lv_at hl 5 rfl) (hp_n (n := 4) rfl ?_)
  refine q_cv (pc' := 7) B (hp_runV (As := [.int a3, .int a5]) (rest := []) C B (t_X8_toGrowth Γ l α B.2.2.1 a0 (cw_k B.2.2 k0) a3 a5) lb_X8_toGrowth lv_X8_toGrowth lk_X8_79 (cw_k B.2.2 k0) rfl (by decide) rfl hl.1 rfl (Nat.le_of_ble_eq_true rfl) dX8_whyGrowth_4 ⟨Nat.le_refl _, Nat.le_refl _⟩) (fun _ h => cw_tr B.2.2 h (by decide)) rfl (fun αh_1 Hh_1 Lh_1 ph_1 Bh_1 => ?_)
  refine lv_aload_n hx hb dX8_whyGrowth_7 rfl (lv_at hl 2 rfl) (hp_n (n := 8) rfl ?_)
  refine q_geti (κ := 6) (k := 1) (φ := 301) (pc' := 11) C Bh_1 (cw_k Bh_1.2.2 k2) fl_X8_74 rfl rfl rfl dX8_whyGrowth_8 rfl (fun x_2 ex_2 => ?_)
  refine lv_aload_n hx hb dX8_whyGrowth_11 rfl (lv_at hl 0 rfl) (hp_n (n := 12) rfl ?_)
  refine q_geti (κ := 9) (k := 3) (φ := 453) (pc' := 15) C Bh_1 (cw_k Bh_1.2.2 k0) fl_X8_22 rfl rfl rfl dX8_whyGrowth_12 rfl (fun x_3 ex_3 => ?_)
  obtain ⟨gx_3a, gx_3b⟩ : 0 ≤ x_3.toInt ∧ x_3.toInt ≤ 64 := by rw [ex_3]; exact Bh_1.2.2.1.1 453 a0 rfl
  refine lv_icmp_eq (tgt := 35) hx hb dX8_whyGrowth_15 (by decide) (fun c_4 => ?_) (fun c_4 => hp_n (n := 18) rfl ?_)
  ·
    have jc_4 := il_eq c_4
    refine lv_iload_n hx hb dX8_whyGrowth_35 rfl (lv_at hl 3 rfl) (hp_n (n := 36) rfl ?_)
    refine lv_iload hx hb dX8_whyGrowth_36 (lv_at hl 5 rfl) (hp_n (n := 38) rfl ?_)
    refine lv_icmp_ne (tgt := 63) hx hb dX8_whyGrowth_38 (by decide) (fun c_5 => ?_) (fun c_5 => hp_n (n := 41) rfl ?_)
    ·
      have jc_5 := il_ne c_5
      refine lv_iload_n hx hb dX8_whyGrowth_63 rfl (lv_at hl 3 rfl) (hp_n (n := 64) rfl ?_)
      refine lv_if_ne (tgt := 78) hx hb dX8_whyGrowth_64 (by decide) (fun c_6 => ?_) (fun c_6 => hp_n (n := 67) rfl ?_)
      ·
        have jc_6 := il_ne c_6
        refine lv_aload_n hx hb dX8_whyGrowth_78 rfl (lv_at hl 0 rfl) (hp_n (n := 79) rfl ?_)
        refine q_geti (κ := 9) (k := 4) (φ := 454) (pc' := 82) C Bh_1 (cw_k Bh_1.2.2 k0) fl_X8_26 rfl rfl rfl dX8_whyGrowth_79 rfl (fun x_7 ex_7 => ?_)
        refine lv_if_eq (tgt := 93) hx hb dX8_whyGrowth_82 (by decide) (fun c_8 => ?_) (fun c_8 => hp_n (n := 85) rfl ?_)
        ·
          have jc_8 := il_eq c_8
          refine lv_iload hx hb dX8_whyGrowth_93 (lv_at hl 4 rfl) (hp_n (n := 95) rfl ?_)
          refine lv_istore (lv' := [(7, .int a4), (0, .ref a0), (1, .int a1), (2, .ref a2), (3, .int a3), (4, .int a4), (5, .int a5), (6, .int a6)]) hx hb dX8_whyGrowth_95 hl (by decide) rfl (fun ls hl => hp_n (n := 97) rfl ?_)
          refine lv_iload hx hb dX8_whyGrowth_97 (lv_at hl 0 rfl) (hp_n (n := 99) rfl ?_)
          refine lv_istore (lv' := [(8, .int a4), (7, .int a4), (0, .ref a0), (1, .int a1), (2, .ref a2), (3, .int a3), (4, .int a4), (5, .int a5), (6, .int a6)]) hx hb dX8_whyGrowth_99 hl (by decide) rfl (fun ls hl => hp_n (n := 101) rfl ?_)
          refine lv_aload_n hx hb dX8_whyGrowth_101 rfl (lv_at hl 2 rfl) (hp_n (n := 102) rfl ?_)
          refine q_getj (κ := 9) (k := 4) (φ := 454) (pc' := 105) C Bh_1 (cw_k Bh_1.2.2 k0) fl_X8_26 rfl rfl rfl ex_7 dX8_whyGrowth_102 rfl ?_
          refine lv_if_eq (tgt := 112) hx hb dX8_whyGrowth_105 (by decide) (fun c_9 => ?_) (fun c_9 => hp_n (n := 108) rfl ?_)
          ·
            have jc_9 := il_eq c_9
            refine lv_iconst (v := 0) hx hb dX8_whyGrowth_112 (by decide) (hp_n (n := 113) rfl ?_)
            have J115 : ∀ (nq : Nat) (Hh_10 : Heap) (Lh_10 : List Loc) (Bh_10 : hp_B Γ (cw w_X8_whyGrowth) s α αh_1 Hh_10 Lh_10) (v7_h_10 : Int32) (v8_h_10 : Int32) (v9_h_10 : Int32) (ih_10_0 : 0 ≤ v9_h_10.toInt) (ls : Array Slot) (hl : lv_has ls 10 [(0, .ref a0), (1, .int a1), (2, .ref a2), (4, .int a4), (6, .int a6), (7, .int v7_h_10), (8, .int v8_h_10), (9, .int v9_h_10)]) (hmu115 : (2147483647 - v9_h_10.toInt).toNat = nq), W p l e (hp_rm 4 0 0) s m ([.ref a0, .int a1, .ref a2, .int a3, .int a4, .int a5, .int a6] : List Value).toArray below meth c Hh_10 Lh_10 0 0 (MQ below (hp_Qi Γ (fun r β => cw w_X8_whyGrowth α β)) ([.ref a0, .int a1, .ref a2, .int a3, .int a4, .int a5, .int a6] : List Value).toArray s 0 0 (hp_A Γ)) (F0 m 115 ls []) := by
              intro nq
              induction nq using Nat.strongRecOn with
              | ind nq ih115 =>
              intro Hh_10 Lh_10 Bh_10 v7_h_10 v8_h_10 v9_h_10 ih_10_0 ls hl hmu115
              have inv115_0 := ih_10_0
              refine lv_iload hx hb dX8_whyGrowth_115 (lv_at hl 7 rfl) (hp_n (n := 117) rfl ?_)
              refine lv_aload_n hx hb dX8_whyGrowth_117 rfl (lv_at hl 0 rfl) (hp_n (n := 118) rfl ?_)
              refine q_getj (κ := 9) (k := 3) (φ := 453) (pc' := 121) C Bh_10 (cw_k Bh_10.2.2 k0) fl_X8_22 rfl rfl rfl ex_3 dX8_whyGrowth_118 rfl ?_
              refine lv_icmp_ge (tgt := 178) hx hb dX8_whyGrowth_121 (by decide) (fun c_11 => ?_) (fun c_11 => hp_n (n := 124) rfl ?_)
              ·
                have jc_11 := il_le c_11
                refine lv_iload hx hb dX8_whyGrowth_178 (lv_at hl 5 rfl) (hp_n (n := 180) rfl ?_)
                refine lv_iload hx hb dX8_whyGrowth_180 (lv_at hl 3 rfl) (hp_n (n := 182) rfl ?_)
                refine lv_icmp_eq (tgt := 187) hx hb dX8_whyGrowth_182 (by decide) (fun c_12 => ?_) (fun c_12 => hp_n (n := 185) rfl ?_)
                ·
                  have jc_12 := il_eq c_12
                  refine lv_iload hx hb dX8_whyGrowth_187 (lv_at hl 6 rfl) (hp_n (n := 189) rfl ?_)
                  refine lv_iload hx hb dX8_whyGrowth_189 (lv_at hl 4 rfl) (hp_n (n := 191) rfl ?_)
                  refine lv_icmp_ne (tgt := 198) hx hb dX8_whyGrowth_191 (by decide) (fun c_13 => ?_) (fun c_13 => hp_n (n := 194) rfl ?_)
                  ·
                    have jc_13 := il_ne c_13
                    refine lv_iconst (v := 4) hx hb dX8_whyGrowth_198 (by decide) (hp_n (n := 199) rfl ?_)
                    exact q_iret C Bh_10 hr hlk Bh_10.2.2 dX8_whyGrowth_199
                  ·
                    have jc_13 := il_eq c_13
                    refine lv_iconst (v := 0) hx hb dX8_whyGrowth_194 (by decide) (hp_n (n := 195) rfl ?_)
                    refine lv_goto (tgt := 199) hx hb dX8_whyGrowth_195 (by decide) ?_
                    exact q_iret C Bh_10 hr hlk Bh_10.2.2 dX8_whyGrowth_199
                ·
                  have jc_12 := il_ne c_12
                  refine lv_iconst (v := 3) hx hb dX8_whyGrowth_185 (by decide) (hp_n (n := 186) rfl ?_)
                  exact q_iret C Bh_10 hr hlk Bh_10.2.2 dX8_whyGrowth_186
              ·
                have jc_11 := il_nle c_11
                refine lv_aload_n hx hb dX8_whyGrowth_124 rfl (lv_at hl 0 rfl) (hp_n (n := 125) rfl ?_)
                refine lv_iload_n hx hb dX8_whyGrowth_125 rfl (lv_at hl 1 rfl) (hp_n (n := 126) rfl ?_)
                refine lv_iload hx hb dX8_whyGrowth_126 (lv_at hl 7 rfl) (hp_n (n := 128) rfl ?_)
                refine lv_iload hx hb dX8_whyGrowth_128 (lv_at hl 6 rfl) (hp_n (n := 130) rfl ?_)
                refine lv_aload_n hx hb dX8_whyGrowth_130 rfl (lv_at hl 2 rfl) (hp_n (n := 131) rfl ?_)
                refine lv_iload hx hb dX8_whyGrowth_131 (lv_at hl 7 rfl) (hp_n (n := 133) rfl ?_)
                refine q_ci (pc' := 136) Bh_10 (hp_runV (As := [.int v9_h_10]) (rest := [.int v8_h_10, .int v9_h_10, .int a1, .ref a0]) C Bh_10 (t_X5_at Γ l αh_1 Bh_10.2.2.1 a2 (cw_k Bh_10.2.2 k2) v9_h_10) lb_X5_at lv_X5_at lk_X8_65 (cw_k Bh_10.2.2 k2) rfl (by decide) rfl hl.1 rfl (Nat.le_of_ble_eq_true rfl) dX8_whyGrowth_133 ⟨Nat.le_refl _, Nat.le_refl _⟩) (fun _ _ h => by rw [h]; exact Bh_10.2.2) rfl (fun rh_14 αh_14 Hh_14 Lh_14 ph_14 Bh_14 => ?_)
                rw [ph_14] at Bh_14
                refine q_ci (pc' := 139) Bh_14 (hp_runV (As := [.int a1, .int v9_h_10, .int v8_h_10, .int rh_14]) (rest := []) C Bh_14 (t_X8_joined Γ l αh_1 Bh_14.2.2.1 a0 (cw_k Bh_14.2.2 k0) a1 v9_h_10 v8_h_10 rh_14) lb_X8_joined lv_X8_joined lk_X8_70 (cw_k Bh_14.2.2 k0) rfl (by decide) rfl hl.1 rfl (Nat.le_of_ble_eq_true rfl) dX8_whyGrowth_136 ⟨Nat.le_refl _, Nat.le_refl _⟩) (fun _ _ h => by rw [h]; exact Bh_14.2.2) rfl (fun rh_15 αh_15 Hh_15 Lh_15 ph_15 Bh_15 => ?_)
                rw [ph_15] at Bh_15
                refine lv_istore (lv' := [(8, .int rh_15), (0, .ref a0), (1, .int a1), (2, .ref a2), (4, .int a4), (6, .int a6), (7, .int v7_h_10), (9, .int v9_h_10)]) hx hb dX8_whyGrowth_139 hl (by decide) rfl (fun ls hl => hp_n (n := 141) rfl ?_)
                refine lv_aload_n hx hb dX8_whyGrowth_141 rfl (lv_at hl 1 rfl) (hp_n (n := 142) rfl ?_)
                refine lv_iload hx hb dX8_whyGrowth_142 (lv_at hl 7 rfl) (hp_n (n := 144) rfl ?_)
                refine q_ci (pc' := 147) Bh_15 (hp_runV (As := [.int v9_h_10]) (rest := []) C Bh_15 (t_X8_isAhead Γ l αh_1 Bh_15.2.2.1 a0 (cw_k Bh_15.2.2 k0) v9_h_10) lb_X8_isAhead lv_X8_isAhead lk_X8_58 (cw_k Bh_15.2.2 k0) rfl (by decide) rfl hl.1 rfl (Nat.le_of_ble_eq_true rfl) dX8_whyGrowth_144 ⟨Nat.le_refl _, Nat.le_refl _⟩) (fun _ _ h => by rw [h.1]; exact Bh_15.2.2) rfl (fun rh_16 αh_16 Hh_16 Lh_16 ph_16 Bh_16 => ?_)
                rw [ph_16.1] at Bh_16
                have zh_16 := ph_16.2
                refine lv_if_eq (tgt := 168) hx hb dX8_whyGrowth_147 (by decide) (fun c_17 => ?_) (fun c_17 => hp_n (n := 150) rfl ?_)
                ·
                  have jc_17 := il_eq c_17
                  refine lv_iload hx hb dX8_whyGrowth_168 (lv_at hl 6 rfl) (hp_n (n := 170) rfl ?_)
                  refine lv_istore (lv' := [(7, .int v7_h_10), (8, .int rh_15), (0, .ref a0), (1, .int a1), (2, .ref a2), (4, .int a4), (6, .int a6), (9, .int v9_h_10)]) hx hb dX8_whyGrowth_170 hl (by decide) rfl (fun ls hl => hp_n (n := 172) rfl ?_)
                  obtain ⟨x_18, ex_18⟩ : ∃ y : Int32, y = v9_h_10 + 1 := ⟨_, rfl⟩
                  have qx_18 : x_18.toInt = v9_h_10.toInt + 1 := by have q0 := ib_hi x_3; have qa := ib_lo v9_h_10; rw [ex_18]; exact ii_add (by omega) (by omega)
                  refine lv_iinc (v := x_18) (lv' := [(9, .int x_18), (7, .int v7_h_10), (8, .int rh_15), (0, .ref a0), (1, .int a1), (2, .ref a2), (4, .int a4), (6, .int a6)]) hx hb dX8_whyGrowth_172 hl (k := 7) rfl (by rw [ex_18]; rfl) (by decide) rfl (fun ls hl => hp_n (n := 175) rfl ?_)
                  refine lv_goto (tgt := 115) hx hb dX8_whyGrowth_175 (by decide) ?_
                  exact ih115 _ (by have q0 := ib_hi x_3; have q1 := ib_lo x_3; have qa := ib_hi v9_h_10; have qb := ib_lo v9_h_10; have qc : (v9_h_10 + 1).toInt = v9_h_10.toInt + (1 : Int32).toInt := ii_add (by omega) (by omega); rw [ex_18]; omega) Hh_16 Lh_16 Bh_16 v7_h_10 rh_15 x_18 (by omega) ls (lv_sub hl [3, 4, 5, 6, 7, 1, 2, 0] rfl) rfl
                ·
                  have jc_17 := il_ne c_17
                  refine lv_aload_n hx hb dX8_whyGrowth_150 rfl (lv_at hl 1 rfl) (hp_n (n := 151) rfl ?_)
                  refine lv_iload_n hx hb dX8_whyGrowth_151 rfl (lv_at hl 2 rfl) (hp_n (n := 152) rfl ?_)
                  refine lv_iload hx hb dX8_whyGrowth_152 (lv_at hl 7 rfl) (hp_n (n := 154) rfl ?_)
                  refine lv_iload hx hb dX8_whyGrowth_154 (lv_at hl 6 rfl) (hp_n (n := 156) rfl ?_)
                  refine lv_aload_n hx hb dX8_whyGrowth_156 rfl (lv_at hl 3 rfl) (hp_n (n := 157) rfl ?_)
                  refine lv_iload hx hb dX8_whyGrowth_157 (lv_at hl 7 rfl) (hp_n (n := 159) rfl ?_)
                  refine q_ci (pc' := 162) Bh_16 (hp_runV (As := [.int v9_h_10]) (rest := [.int v7_h_10, .int v9_h_10, .int a1, .ref a0]) C Bh_16 (t_X5_at Γ l αh_1 Bh_16.2.2.1 a2 (cw_k Bh_16.2.2 k2) v9_h_10) lb_X5_at lv_X5_at lk_X8_65 (cw_k Bh_16.2.2 k2) rfl (by decide) rfl hl.1 rfl (Nat.le_of_ble_eq_true rfl) dX8_whyGrowth_159 ⟨Nat.le_refl _, Nat.le_refl _⟩) (fun _ _ h => by rw [h]; exact Bh_16.2.2) rfl (fun rh_19 αh_19 Hh_19 Lh_19 ph_19 Bh_19 => ?_)
                  rw [ph_19] at Bh_19
                  refine q_ci (pc' := 165) Bh_19 (hp_runV (As := [.int a1, .int v9_h_10, .int v7_h_10, .int rh_19]) (rest := []) C Bh_19 (t_X8_joined Γ l αh_1 Bh_19.2.2.1 a0 (cw_k Bh_19.2.2 k0) a1 v9_h_10 v7_h_10 rh_19) lb_X8_joined lv_X8_joined lk_X8_70 (cw_k Bh_19.2.2 k0) rfl (by decide) rfl hl.1 rfl (Nat.le_of_ble_eq_true rfl) dX8_whyGrowth_162 ⟨Nat.le_refl _, Nat.le_refl _⟩) (fun _ _ h => by rw [h]; exact Bh_19.2.2) rfl (fun rh_20 αh_20 Hh_20 Lh_20 ph_20 Bh_20 => ?_)
                  rw [ph_20] at Bh_20
                  refine lv_goto (tgt := 170) hx hb dX8_whyGrowth_165 (by decide) ?_
                  refine lv_istore (lv' := [(7, .int rh_20), (8, .int rh_15), (0, .ref a0), (1, .int a1), (2, .ref a2), (4, .int a4), (6, .int a6), (9, .int v9_h_10)]) hx hb dX8_whyGrowth_170 hl (by decide) rfl (fun ls hl => hp_n (n := 172) rfl ?_)
                  obtain ⟨x_21, ex_21⟩ : ∃ y : Int32, y = v9_h_10 + 1 := ⟨_, rfl⟩
                  have qx_21 : x_21.toInt = v9_h_10.toInt + 1 := by have q0 := ib_hi x_3; have qa := ib_lo v9_h_10; rw [ex_21]; exact ii_add (by omega) (by omega)
                  refine lv_iinc (v := x_21) (lv' := [(9, .int x_21), (7, .int rh_20), (8, .int rh_15), (0, .ref a0), (1, .int a1), (2, .ref a2), (4, .int a4), (6, .int a6)]) hx hb dX8_whyGrowth_172 hl (k := 7) rfl (by rw [ex_21]; rfl) (by decide) rfl (fun ls hl => hp_n (n := 175) rfl ?_)
                  refine lv_goto (tgt := 115) hx hb dX8_whyGrowth_175 (by decide) ?_
                  exact ih115 _ (by have q0 := ib_hi x_3; have q1 := ib_lo x_3; have qa := ib_hi v9_h_10; have qb := ib_lo v9_h_10; have qc : (v9_h_10 + 1).toInt = v9_h_10.toInt + (1 : Int32).toInt := ii_add (by omega) (by omega); rw [ex_21]; omega) Hh_20 Lh_20 Bh_20 rh_20 rh_15 x_21 (by omega) ls (lv_sub hl [3, 4, 5, 6, 7, 1, 2, 0] rfl) rfl
            refine lv_istore (lv' := [(9, .int 0), (8, .int a4), (7, .int a4), (0, .ref a0), (1, .int a1), (2, .ref a2), (3, .int a3), (4, .int a4), (5, .int a5), (6, .int a6)]) hx hb dX8_whyGrowth_113 hl (by decide) rfl (fun ls hl => hp_n (n := 115) rfl ?_)
            exact J115 _ Hh_1 Lh_1 Bh_1 a4 a4 0 (by omega) ls (lv_sub hl [3, 4, 5, 7, 9, 2, 1, 0] rfl) rfl
          ·
            have jc_9 := il_ne c_9
            refine lv_iconst (v := 1) hx hb dX8_whyGrowth_108 (by decide) (hp_n (n := 109) rfl ?_)
            refine lv_goto (tgt := 113) hx hb dX8_whyGrowth_109 (by decide) ?_
            have J115 : ∀ (nq : Nat) (Hh_22 : Heap) (Lh_22 : List Loc) (Bh_22 : hp_B Γ (cw w_X8_whyGrowth) s α αh_1 Hh_22 Lh_22) (v7_h_22 : Int32) (v8_h_22 : Int32) (v9_h_22 : Int32) (ih_22_0 : 0 ≤ v9_h_22.toInt) (ls : Array Slot) (hl : lv_has ls 10 [(0, .ref a0), (1, .int a1), (2, .ref a2), (4, .int a4), (6, .int a6), (7, .int v7_h_22), (8, .int v8_h_22), (9, .int v9_h_22)]) (hmu115 : (2147483647 - v9_h_22.toInt).toNat = nq), W p l e (hp_rm 4 0 0) s m ([.ref a0, .int a1, .ref a2, .int a3, .int a4, .int a5, .int a6] : List Value).toArray below meth c Hh_22 Lh_22 0 0 (MQ below (hp_Qi Γ (fun r β => cw w_X8_whyGrowth α β)) ([.ref a0, .int a1, .ref a2, .int a3, .int a4, .int a5, .int a6] : List Value).toArray s 0 0 (hp_A Γ)) (F0 m 115 ls []) := by
              intro nq
              induction nq using Nat.strongRecOn with
              | ind nq ih115 =>
              intro Hh_22 Lh_22 Bh_22 v7_h_22 v8_h_22 v9_h_22 ih_22_0 ls hl hmu115
              have inv115_0 := ih_22_0
              refine lv_iload hx hb dX8_whyGrowth_115 (lv_at hl 7 rfl) (hp_n (n := 117) rfl ?_)
              refine lv_aload_n hx hb dX8_whyGrowth_117 rfl (lv_at hl 0 rfl) (hp_n (n := 118) rfl ?_)
              refine q_getj (κ := 9) (k := 3) (φ := 453) (pc' := 121) C Bh_22 (cw_k Bh_22.2.2 k0) fl_X8_22 rfl rfl rfl ex_3 dX8_whyGrowth_118 rfl ?_
              refine lv_icmp_ge (tgt := 178) hx hb dX8_whyGrowth_121 (by decide) (fun c_23 => ?_) (fun c_23 => hp_n (n := 124) rfl ?_)
              ·
                have jc_23 := il_le c_23
                refine lv_iload hx hb dX8_whyGrowth_178 (lv_at hl 5 rfl) (hp_n (n := 180) rfl ?_)
                refine lv_iload hx hb dX8_whyGrowth_180 (lv_at hl 3 rfl) (hp_n (n := 182) rfl ?_)
                refine lv_icmp_eq (tgt := 187) hx hb dX8_whyGrowth_182 (by decide) (fun c_24 => ?_) (fun c_24 => hp_n (n := 185) rfl ?_)
                ·
                  have jc_24 := il_eq c_24
                  refine lv_iload hx hb dX8_whyGrowth_187 (lv_at hl 6 rfl) (hp_n (n := 189) rfl ?_)
                  refine lv_iload hx hb dX8_whyGrowth_189 (lv_at hl 4 rfl) (hp_n (n := 191) rfl ?_)
                  refine lv_icmp_ne (tgt := 198) hx hb dX8_whyGrowth_191 (by decide) (fun c_25 => ?_) (fun c_25 => hp_n (n := 194) rfl ?_)
                  ·
                    have jc_25 := il_ne c_25
                    refine lv_iconst (v := 4) hx hb dX8_whyGrowth_198 (by decide) (hp_n (n := 199) rfl ?_)
                    exact q_iret C Bh_22 hr hlk Bh_22.2.2 dX8_whyGrowth_199
                  ·
                    have jc_25 := il_eq c_25
                    refine lv_iconst (v := 0) hx hb dX8_whyGrowth_194 (by decide) (hp_n (n := 195) rfl ?_)
                    refine lv_goto (tgt := 199) hx hb dX8_whyGrowth_195 (by decide) ?_
                    exact q_iret C Bh_22 hr hlk Bh_22.2.2 dX8_whyGrowth_199
                ·
                  have jc_24 := il_ne c_24
                  refine lv_iconst (v := 3) hx hb dX8_whyGrowth_185 (by decide) (hp_n (n := 186) rfl ?_)
                  exact q_iret C Bh_22 hr hlk Bh_22.2.2 dX8_whyGrowth_186
              ·
                have jc_23 := il_nle c_23
                refine lv_aload_n hx hb dX8_whyGrowth_124 rfl (lv_at hl 0 rfl) (hp_n (n := 125) rfl ?_)
                refine lv_iload_n hx hb dX8_whyGrowth_125 rfl (lv_at hl 1 rfl) (hp_n (n := 126) rfl ?_)
                refine lv_iload hx hb dX8_whyGrowth_126 (lv_at hl 7 rfl) (hp_n (n := 128) rfl ?_)
                refine lv_iload hx hb dX8_whyGrowth_128 (lv_at hl 6 rfl) (hp_n (n := 130) rfl ?_)
                refine lv_aload_n hx hb dX8_whyGrowth_130 rfl (lv_at hl 2 rfl) (hp_n (n := 131) rfl ?_)
                refine lv_iload hx hb dX8_whyGrowth_131 (lv_at hl 7 rfl) (hp_n (n := 133) rfl ?_)
                refine q_ci (pc' := 136) Bh_22 (hp_runV (As := [.int v9_h_22]) (rest := [.int v8_h_22, .int v9_h_22, .int a1, .ref a0]) C Bh_22 (t_X5_at Γ l αh_1 Bh_22.2.2.1 a2 (cw_k Bh_22.2.2 k2) v9_h_22) lb_X5_at lv_X5_at lk_X8_65 (cw_k Bh_22.2.2 k2) rfl (by decide) rfl hl.1 rfl (Nat.le_of_ble_eq_true rfl) dX8_whyGrowth_133 ⟨Nat.le_refl _, Nat.le_refl _⟩) (fun _ _ h => by rw [h]; exact Bh_22.2.2) rfl (fun rh_26 αh_26 Hh_26 Lh_26 ph_26 Bh_26 => ?_)
                rw [ph_26] at Bh_26
                refine q_ci (pc' := 139) Bh_26 (hp_runV (As := [.int a1, .int v9_h_22, .int v8_h_22, .int rh_26]) (rest := []) C Bh_26 (t_X8_joined Γ l αh_1 Bh_26.2.2.1 a0 (cw_k Bh_26.2.2 k0) a1 v9_h_22 v8_h_22 rh_26) lb_X8_joined lv_X8_joined lk_X8_70 (cw_k Bh_26.2.2 k0) rfl (by decide) rfl hl.1 rfl (Nat.le_of_ble_eq_true rfl) dX8_whyGrowth_136 ⟨Nat.le_refl _, Nat.le_refl _⟩) (fun _ _ h => by rw [h]; exact Bh_26.2.2) rfl (fun rh_27 αh_27 Hh_27 Lh_27 ph_27 Bh_27 => ?_)
                rw [ph_27] at Bh_27
                refine lv_istore (lv' := [(8, .int rh_27), (0, .ref a0), (1, .int a1), (2, .ref a2), (4, .int a4), (6, .int a6), (7, .int v7_h_22), (9, .int v9_h_22)]) hx hb dX8_whyGrowth_139 hl (by decide) rfl (fun ls hl => hp_n (n := 141) rfl ?_)
                refine lv_aload_n hx hb dX8_whyGrowth_141 rfl (lv_at hl 1 rfl) (hp_n (n := 142) rfl ?_)
                refine lv_iload hx hb dX8_whyGrowth_142 (lv_at hl 7 rfl) (hp_n (n := 144) rfl ?_)
                refine q_ci (pc' := 147) Bh_27 (hp_runV (As := [.int v9_h_22]) (rest := []) C Bh_27 (t_X8_isAhead Γ l αh_1 Bh_27.2.2.1 a0 (cw_k Bh_27.2.2 k0) v9_h_22) lb_X8_isAhead lv_X8_isAhead lk_X8_58 (cw_k Bh_27.2.2 k0) rfl (by decide) rfl hl.1 rfl (Nat.le_of_ble_eq_true rfl) dX8_whyGrowth_144 ⟨Nat.le_refl _, Nat.le_refl _⟩) (fun _ _ h => by rw [h.1]; exact Bh_27.2.2) rfl (fun rh_28 αh_28 Hh_28 Lh_28 ph_28 Bh_28 => ?_)
                rw [ph_28.1] at Bh_28
                have zh_28 := ph_28.2
                refine lv_if_eq (tgt := 168) hx hb dX8_whyGrowth_147 (by decide) (fun c_29 => ?_) (fun c_29 => hp_n (n := 150) rfl ?_)
                ·
                  have jc_29 := il_eq c_29
                  refine lv_iload hx hb dX8_whyGrowth_168 (lv_at hl 6 rfl) (hp_n (n := 170) rfl ?_)
                  refine lv_istore (lv' := [(7, .int v7_h_22), (8, .int rh_27), (0, .ref a0), (1, .int a1), (2, .ref a2), (4, .int a4), (6, .int a6), (9, .int v9_h_22)]) hx hb dX8_whyGrowth_170 hl (by decide) rfl (fun ls hl => hp_n (n := 172) rfl ?_)
                  obtain ⟨x_30, ex_30⟩ : ∃ y : Int32, y = v9_h_22 + 1 := ⟨_, rfl⟩
                  have qx_30 : x_30.toInt = v9_h_22.toInt + 1 := by have q0 := ib_hi x_3; have qa := ib_lo v9_h_22; rw [ex_30]; exact ii_add (by omega) (by omega)
                  refine lv_iinc (v := x_30) (lv' := [(9, .int x_30), (7, .int v7_h_22), (8, .int rh_27), (0, .ref a0), (1, .int a1), (2, .ref a2), (4, .int a4), (6, .int a6)]) hx hb dX8_whyGrowth_172 hl (k := 7) rfl (by rw [ex_30]; rfl) (by decide) rfl (fun ls hl => hp_n (n := 175) rfl ?_)
                  refine lv_goto (tgt := 115) hx hb dX8_whyGrowth_175 (by decide) ?_
                  exact ih115 _ (by have q0 := ib_hi x_3; have q1 := ib_lo x_3; have qa := ib_hi v9_h_22; have qb := ib_lo v9_h_22; have qc : (v9_h_22 + 1).toInt = v9_h_22.toInt + (1 : Int32).toInt := ii_add (by omega) (by omega); rw [ex_30]; omega) Hh_28 Lh_28 Bh_28 v7_h_22 rh_27 x_30 (by omega) ls (lv_sub hl [3, 4, 5, 6, 7, 1, 2, 0] rfl) rfl
                ·
                  have jc_29 := il_ne c_29
                  refine lv_aload_n hx hb dX8_whyGrowth_150 rfl (lv_at hl 1 rfl) (hp_n (n := 151) rfl ?_)
                  refine lv_iload_n hx hb dX8_whyGrowth_151 rfl (lv_at hl 2 rfl) (hp_n (n := 152) rfl ?_)
                  refine lv_iload hx hb dX8_whyGrowth_152 (lv_at hl 7 rfl) (hp_n (n := 154) rfl ?_)
                  refine lv_iload hx hb dX8_whyGrowth_154 (lv_at hl 6 rfl) (hp_n (n := 156) rfl ?_)
                  refine lv_aload_n hx hb dX8_whyGrowth_156 rfl (lv_at hl 3 rfl) (hp_n (n := 157) rfl ?_)
                  refine lv_iload hx hb dX8_whyGrowth_157 (lv_at hl 7 rfl) (hp_n (n := 159) rfl ?_)
                  refine q_ci (pc' := 162) Bh_28 (hp_runV (As := [.int v9_h_22]) (rest := [.int v7_h_22, .int v9_h_22, .int a1, .ref a0]) C Bh_28 (t_X5_at Γ l αh_1 Bh_28.2.2.1 a2 (cw_k Bh_28.2.2 k2) v9_h_22) lb_X5_at lv_X5_at lk_X8_65 (cw_k Bh_28.2.2 k2) rfl (by decide) rfl hl.1 rfl (Nat.le_of_ble_eq_true rfl) dX8_whyGrowth_159 ⟨Nat.le_refl _, Nat.le_refl _⟩) (fun _ _ h => by rw [h]; exact Bh_28.2.2) rfl (fun rh_31 αh_31 Hh_31 Lh_31 ph_31 Bh_31 => ?_)
                  rw [ph_31] at Bh_31
                  refine q_ci (pc' := 165) Bh_31 (hp_runV (As := [.int a1, .int v9_h_22, .int v7_h_22, .int rh_31]) (rest := []) C Bh_31 (t_X8_joined Γ l αh_1 Bh_31.2.2.1 a0 (cw_k Bh_31.2.2 k0) a1 v9_h_22 v7_h_22 rh_31) lb_X8_joined lv_X8_joined lk_X8_70 (cw_k Bh_31.2.2 k0) rfl (by decide) rfl hl.1 rfl (Nat.le_of_ble_eq_true rfl) dX8_whyGrowth_162 ⟨Nat.le_refl _, Nat.le_refl _⟩) (fun _ _ h => by rw [h]; exact Bh_31.2.2) rfl (fun rh_32 αh_32 Hh_32 Lh_32 ph_32 Bh_32 => ?_)
                  rw [ph_32] at Bh_32
                  refine lv_goto (tgt := 170) hx hb dX8_whyGrowth_165 (by decide) ?_
                  refine lv_istore (lv' := [(7, .int rh_32), (8, .int rh_27), (0, .ref a0), (1, .int a1), (2, .ref a2), (4, .int a4), (6, .int a6), (9, .int v9_h_22)]) hx hb dX8_whyGrowth_170 hl (by decide) rfl (fun ls hl => hp_n (n := 172) rfl ?_)
                  obtain ⟨x_33, ex_33⟩ : ∃ y : Int32, y = v9_h_22 + 1 := ⟨_, rfl⟩
                  have qx_33 : x_33.toInt = v9_h_22.toInt + 1 := by have q0 := ib_hi x_3; have qa := ib_lo v9_h_22; rw [ex_33]; exact ii_add (by omega) (by omega)
                  refine lv_iinc (v := x_33) (lv' := [(9, .int x_33), (7, .int rh_32), (8, .int rh_27), (0, .ref a0), (1, .int a1), (2, .ref a2), (4, .int a4), (6, .int a6)]) hx hb dX8_whyGrowth_172 hl (k := 7) rfl (by rw [ex_33]; rfl) (by decide) rfl (fun ls hl => hp_n (n := 175) rfl ?_)
                  refine lv_goto (tgt := 115) hx hb dX8_whyGrowth_175 (by decide) ?_
                  exact ih115 _ (by have q0 := ib_hi x_3; have q1 := ib_lo x_3; have qa := ib_hi v9_h_22; have qb := ib_lo v9_h_22; have qc : (v9_h_22 + 1).toInt = v9_h_22.toInt + (1 : Int32).toInt := ii_add (by omega) (by omega); rw [ex_33]; omega) Hh_32 Lh_32 Bh_32 rh_32 rh_27 x_33 (by omega) ls (lv_sub hl [3, 4, 5, 6, 7, 1, 2, 0] rfl) rfl
            refine lv_istore (lv' := [(9, .int 1), (8, .int a4), (7, .int a4), (0, .ref a0), (1, .int a1), (2, .ref a2), (3, .int a3), (4, .int a4), (5, .int a5), (6, .int a6)]) hx hb dX8_whyGrowth_113 hl (by decide) rfl (fun ls hl => hp_n (n := 115) rfl ?_)
            exact J115 _ Hh_1 Lh_1 Bh_1 a4 a4 1 (by omega) ls (lv_sub hl [3, 4, 5, 7, 9, 2, 1, 0] rfl) rfl
        ·
          have jc_8 := il_ne c_8
          refine lv_aload_n hx hb dX8_whyGrowth_85 rfl (lv_at hl 2 rfl) (hp_n (n := 86) rfl ?_)
          refine lv_iconst (v := 0) hx hb dX8_whyGrowth_86 (by decide) (hp_n (n := 87) rfl ?_)
          refine q_ci (pc' := 90) Bh_1 (hp_runV (As := [.int 0]) (rest := []) C Bh_1 (t_X5_at Γ l αh_1 Bh_1.2.2.1 a2 (cw_k Bh_1.2.2 k2) 0) lb_X5_at lv_X5_at lk_X8_65 (cw_k Bh_1.2.2 k2) rfl (by decide) rfl hl.1 rfl (Nat.le_of_ble_eq_true rfl) dX8_whyGrowth_87 ⟨Nat.le_refl _, Nat.le_refl _⟩) (fun _ _ h => by rw [h]; exact Bh_1.2.2) rfl (fun rh_34 αh_34 Hh_34 Lh_34 ph_34 Bh_34 => ?_)
          rw [ph_34] at Bh_34
          refine lv_goto (tgt := 95) hx hb dX8_whyGrowth_90 (by decide) ?_
          refine lv_istore (lv' := [(7, .int rh_34), (0, .ref a0), (1, .int a1), (2, .ref a2), (3, .int a3), (4, .int a4), (5, .int a5), (6, .int a6)]) hx hb dX8_whyGrowth_95 hl (by decide) rfl (fun ls hl => hp_n (n := 97) rfl ?_)
          refine lv_iload hx hb dX8_whyGrowth_97 (lv_at hl 0 rfl) (hp_n (n := 99) rfl ?_)
          refine lv_istore (lv' := [(8, .int rh_34), (7, .int rh_34), (0, .ref a0), (1, .int a1), (2, .ref a2), (3, .int a3), (4, .int a4), (5, .int a5), (6, .int a6)]) hx hb dX8_whyGrowth_99 hl (by decide) rfl (fun ls hl => hp_n (n := 101) rfl ?_)
          refine lv_aload_n hx hb dX8_whyGrowth_101 rfl (lv_at hl 2 rfl) (hp_n (n := 102) rfl ?_)
          refine q_getj (κ := 9) (k := 4) (φ := 454) (pc' := 105) C Bh_34 (cw_k Bh_34.2.2 k0) fl_X8_26 rfl rfl rfl ex_7 dX8_whyGrowth_102 rfl ?_
          refine lv_if_eq (tgt := 112) hx hb dX8_whyGrowth_105 (by decide) (fun c_35 => ?_) (fun c_35 => hp_n (n := 108) rfl ?_)
          ·
            have jc_35 := il_eq c_35
            refine lv_iconst (v := 0) hx hb dX8_whyGrowth_112 (by decide) (hp_n (n := 113) rfl ?_)
            have J115 : ∀ (nq : Nat) (Hh_36 : Heap) (Lh_36 : List Loc) (Bh_36 : hp_B Γ (cw w_X8_whyGrowth) s α αh_1 Hh_36 Lh_36) (v7_h_36 : Int32) (v8_h_36 : Int32) (v9_h_36 : Int32) (ih_36_0 : 0 ≤ v9_h_36.toInt) (ls : Array Slot) (hl : lv_has ls 10 [(0, .ref a0), (1, .int a1), (2, .ref a2), (4, .int a4), (6, .int a6), (7, .int v7_h_36), (8, .int v8_h_36), (9, .int v9_h_36)]) (hmu115 : (2147483647 - v9_h_36.toInt).toNat = nq), W p l e (hp_rm 4 0 0) s m ([.ref a0, .int a1, .ref a2, .int a3, .int a4, .int a5, .int a6] : List Value).toArray below meth c Hh_36 Lh_36 0 0 (MQ below (hp_Qi Γ (fun r β => cw w_X8_whyGrowth α β)) ([.ref a0, .int a1, .ref a2, .int a3, .int a4, .int a5, .int a6] : List Value).toArray s 0 0 (hp_A Γ)) (F0 m 115 ls []) := by
              intro nq
              induction nq using Nat.strongRecOn with
              | ind nq ih115 =>
              intro Hh_36 Lh_36 Bh_36 v7_h_36 v8_h_36 v9_h_36 ih_36_0 ls hl hmu115
              have inv115_0 := ih_36_0
              refine lv_iload hx hb dX8_whyGrowth_115 (lv_at hl 7 rfl) (hp_n (n := 117) rfl ?_)
              refine lv_aload_n hx hb dX8_whyGrowth_117 rfl (lv_at hl 0 rfl) (hp_n (n := 118) rfl ?_)
              refine q_getj (κ := 9) (k := 3) (φ := 453) (pc' := 121) C Bh_36 (cw_k Bh_36.2.2 k0) fl_X8_22 rfl rfl rfl ex_3 dX8_whyGrowth_118 rfl ?_
              refine lv_icmp_ge (tgt := 178) hx hb dX8_whyGrowth_121 (by decide) (fun c_37 => ?_) (fun c_37 => hp_n (n := 124) rfl ?_)
              ·
                have jc_37 := il_le c_37
                refine lv_iload hx hb dX8_whyGrowth_178 (lv_at hl 5 rfl) (hp_n (n := 180) rfl ?_)
                refine lv_iload hx hb dX8_whyGrowth_180 (lv_at hl 3 rfl) (hp_n (n := 182) rfl ?_)
                refine lv_icmp_eq (tgt := 187) hx hb dX8_whyGrowth_182 (by decide) (fun c_38 => ?_) (fun c_38 => hp_n (n := 185) rfl ?_)
                ·
                  have jc_38 := il_eq c_38
                  refine lv_iload hx hb dX8_whyGrowth_187 (lv_at hl 6 rfl) (hp_n (n := 189) rfl ?_)
                  refine lv_iload hx hb dX8_whyGrowth_189 (lv_at hl 4 rfl) (hp_n (n := 191) rfl ?_)
                  refine lv_icmp_ne (tgt := 198) hx hb dX8_whyGrowth_191 (by decide) (fun c_39 => ?_) (fun c_39 => hp_n (n := 194) rfl ?_)
                  ·
                    have jc_39 := il_ne c_39
                    refine lv_iconst (v := 4) hx hb dX8_whyGrowth_198 (by decide) (hp_n (n := 199) rfl ?_)
                    exact q_iret C Bh_36 hr hlk Bh_36.2.2 dX8_whyGrowth_199
                  ·
                    have jc_39 := il_eq c_39
                    refine lv_iconst (v := 0) hx hb dX8_whyGrowth_194 (by decide) (hp_n (n := 195) rfl ?_)
                    refine lv_goto (tgt := 199) hx hb dX8_whyGrowth_195 (by decide) ?_
                    exact q_iret C Bh_36 hr hlk Bh_36.2.2 dX8_whyGrowth_199
                ·
                  have jc_38 := il_ne c_38
                  refine lv_iconst (v := 3) hx hb dX8_whyGrowth_185 (by decide) (hp_n (n := 186) rfl ?_)
                  exact q_iret C Bh_36 hr hlk Bh_36.2.2 dX8_whyGrowth_186
              ·
                have jc_37 := il_nle c_37
                refine lv_aload_n hx hb dX8_whyGrowth_124 rfl (lv_at hl 0 rfl) (hp_n (n := 125) rfl ?_)
                refine lv_iload_n hx hb dX8_whyGrowth_125 rfl (lv_at hl 1 rfl) (hp_n (n := 126) rfl ?_)
                refine lv_iload hx hb dX8_whyGrowth_126 (lv_at hl 7 rfl) (hp_n (n := 128) rfl ?_)
                refine lv_iload hx hb dX8_whyGrowth_128 (lv_at hl 6 rfl) (hp_n (n := 130) rfl ?_)
                refine lv_aload_n hx hb dX8_whyGrowth_130 rfl (lv_at hl 2 rfl) (hp_n (n := 131) rfl ?_)
                refine lv_iload hx hb dX8_whyGrowth_131 (lv_at hl 7 rfl) (hp_n (n := 133) rfl ?_)
                refine q_ci (pc' := 136) Bh_36 (hp_runV (As := [.int v9_h_36]) (rest := [.int v8_h_36, .int v9_h_36, .int a1, .ref a0]) C Bh_36 (t_X5_at Γ l αh_1 Bh_36.2.2.1 a2 (cw_k Bh_36.2.2 k2) v9_h_36) lb_X5_at lv_X5_at lk_X8_65 (cw_k Bh_36.2.2 k2) rfl (by decide) rfl hl.1 rfl (Nat.le_of_ble_eq_true rfl) dX8_whyGrowth_133 ⟨Nat.le_refl _, Nat.le_refl _⟩) (fun _ _ h => by rw [h]; exact Bh_36.2.2) rfl (fun rh_40 αh_40 Hh_40 Lh_40 ph_40 Bh_40 => ?_)
                rw [ph_40] at Bh_40
                refine q_ci (pc' := 139) Bh_40 (hp_runV (As := [.int a1, .int v9_h_36, .int v8_h_36, .int rh_40]) (rest := []) C Bh_40 (t_X8_joined Γ l αh_1 Bh_40.2.2.1 a0 (cw_k Bh_40.2.2 k0) a1 v9_h_36 v8_h_36 rh_40) lb_X8_joined lv_X8_joined lk_X8_70 (cw_k Bh_40.2.2 k0) rfl (by decide) rfl hl.1 rfl (Nat.le_of_ble_eq_true rfl) dX8_whyGrowth_136 ⟨Nat.le_refl _, Nat.le_refl _⟩) (fun _ _ h => by rw [h]; exact Bh_40.2.2) rfl (fun rh_41 αh_41 Hh_41 Lh_41 ph_41 Bh_41 => ?_)
                rw [ph_41] at Bh_41
                refine lv_istore (lv' := [(8, .int rh_41), (0, .ref a0), (1, .int a1), (2, .ref a2), (4, .int a4), (6, .int a6), (7, .int v7_h_36), (9, .int v9_h_36)]) hx hb dX8_whyGrowth_139 hl (by decide) rfl (fun ls hl => hp_n (n := 141) rfl ?_)
                refine lv_aload_n hx hb dX8_whyGrowth_141 rfl (lv_at hl 1 rfl) (hp_n (n := 142) rfl ?_)
                refine lv_iload hx hb dX8_whyGrowth_142 (lv_at hl 7 rfl) (hp_n (n := 144) rfl ?_)
                refine q_ci (pc' := 147) Bh_41 (hp_runV (As := [.int v9_h_36]) (rest := []) C Bh_41 (t_X8_isAhead Γ l αh_1 Bh_41.2.2.1 a0 (cw_k Bh_41.2.2 k0) v9_h_36) lb_X8_isAhead lv_X8_isAhead lk_X8_58 (cw_k Bh_41.2.2 k0) rfl (by decide) rfl hl.1 rfl (Nat.le_of_ble_eq_true rfl) dX8_whyGrowth_144 ⟨Nat.le_refl _, Nat.le_refl _⟩) (fun _ _ h => by rw [h.1]; exact Bh_41.2.2) rfl (fun rh_42 αh_42 Hh_42 Lh_42 ph_42 Bh_42 => ?_)
                rw [ph_42.1] at Bh_42
                have zh_42 := ph_42.2
                refine lv_if_eq (tgt := 168) hx hb dX8_whyGrowth_147 (by decide) (fun c_43 => ?_) (fun c_43 => hp_n (n := 150) rfl ?_)
                ·
                  have jc_43 := il_eq c_43
                  refine lv_iload hx hb dX8_whyGrowth_168 (lv_at hl 6 rfl) (hp_n (n := 170) rfl ?_)
                  refine lv_istore (lv' := [(7, .int v7_h_36), (8, .int rh_41), (0, .ref a0), (1, .int a1), (2, .ref a2), (4, .int a4), (6, .int a6), (9, .int v9_h_36)]) hx hb dX8_whyGrowth_170 hl (by decide) rfl (fun ls hl => hp_n (n := 172) rfl ?_)
                  obtain ⟨x_44, ex_44⟩ : ∃ y : Int32, y = v9_h_36 + 1 := ⟨_, rfl⟩
                  have qx_44 : x_44.toInt = v9_h_36.toInt + 1 := by have q0 := ib_hi x_3; have qa := ib_lo v9_h_36; rw [ex_44]; exact ii_add (by omega) (by omega)
                  refine lv_iinc (v := x_44) (lv' := [(9, .int x_44), (7, .int v7_h_36), (8, .int rh_41), (0, .ref a0), (1, .int a1), (2, .ref a2), (4, .int a4), (6, .int a6)]) hx hb dX8_whyGrowth_172 hl (k := 7) rfl (by rw [ex_44]; rfl) (by decide) rfl (fun ls hl => hp_n (n := 175) rfl ?_)
                  refine lv_goto (tgt := 115) hx hb dX8_whyGrowth_175 (by decide) ?_
                  exact ih115 _ (by have q0 := ib_hi x_3; have q1 := ib_lo x_3; have qa := ib_hi v9_h_36; have qb := ib_lo v9_h_36; have qc : (v9_h_36 + 1).toInt = v9_h_36.toInt + (1 : Int32).toInt := ii_add (by omega) (by omega); rw [ex_44]; omega) Hh_42 Lh_42 Bh_42 v7_h_36 rh_41 x_44 (by omega) ls (lv_sub hl [3, 4, 5, 6, 7, 1, 2, 0] rfl) rfl
                ·
                  have jc_43 := il_ne c_43
                  refine lv_aload_n hx hb dX8_whyGrowth_150 rfl (lv_at hl 1 rfl) (hp_n (n := 151) rfl ?_)
                  refine lv_iload_n hx hb dX8_whyGrowth_151 rfl (lv_at hl 2 rfl) (hp_n (n := 152) rfl ?_)
                  refine lv_iload hx hb dX8_whyGrowth_152 (lv_at hl 7 rfl) (hp_n (n := 154) rfl ?_)
                  refine lv_iload hx hb dX8_whyGrowth_154 (lv_at hl 6 rfl) (hp_n (n := 156) rfl ?_)
                  refine lv_aload_n hx hb dX8_whyGrowth_156 rfl (lv_at hl 3 rfl) (hp_n (n := 157) rfl ?_)
                  refine lv_iload hx hb dX8_whyGrowth_157 (lv_at hl 7 rfl) (hp_n (n := 159) rfl ?_)
                  refine q_ci (pc' := 162) Bh_42 (hp_runV (As := [.int v9_h_36]) (rest := [.int v7_h_36, .int v9_h_36, .int a1, .ref a0]) C Bh_42 (t_X5_at Γ l αh_1 Bh_42.2.2.1 a2 (cw_k Bh_42.2.2 k2) v9_h_36) lb_X5_at lv_X5_at lk_X8_65 (cw_k Bh_42.2.2 k2) rfl (by decide) rfl hl.1 rfl (Nat.le_of_ble_eq_true rfl) dX8_whyGrowth_159 ⟨Nat.le_refl _, Nat.le_refl _⟩) (fun _ _ h => by rw [h]; exact Bh_42.2.2) rfl (fun rh_45 αh_45 Hh_45 Lh_45 ph_45 Bh_45 => ?_)
                  rw [ph_45] at Bh_45
                  refine q_ci (pc' := 165) Bh_45 (hp_runV (As := [.int a1, .int v9_h_36, .int v7_h_36, .int rh_45]) (rest := []) C Bh_45 (t_X8_joined Γ l αh_1 Bh_45.2.2.1 a0 (cw_k Bh_45.2.2 k0) a1 v9_h_36 v7_h_36 rh_45) lb_X8_joined lv_X8_joined lk_X8_70 (cw_k Bh_45.2.2 k0) rfl (by decide) rfl hl.1 rfl (Nat.le_of_ble_eq_true rfl) dX8_whyGrowth_162 ⟨Nat.le_refl _, Nat.le_refl _⟩) (fun _ _ h => by rw [h]; exact Bh_45.2.2) rfl (fun rh_46 αh_46 Hh_46 Lh_46 ph_46 Bh_46 => ?_)
                  rw [ph_46] at Bh_46
                  refine lv_goto (tgt := 170) hx hb dX8_whyGrowth_165 (by decide) ?_
                  refine lv_istore (lv' := [(7, .int rh_46), (8, .int rh_41), (0, .ref a0), (1, .int a1), (2, .ref a2), (4, .int a4), (6, .int a6), (9, .int v9_h_36)]) hx hb dX8_whyGrowth_170 hl (by decide) rfl (fun ls hl => hp_n (n := 172) rfl ?_)
                  obtain ⟨x_47, ex_47⟩ : ∃ y : Int32, y = v9_h_36 + 1 := ⟨_, rfl⟩
                  have qx_47 : x_47.toInt = v9_h_36.toInt + 1 := by have q0 := ib_hi x_3; have qa := ib_lo v9_h_36; rw [ex_47]; exact ii_add (by omega) (by omega)
                  refine lv_iinc (v := x_47) (lv' := [(9, .int x_47), (7, .int rh_46), (8, .int rh_41), (0, .ref a0), (1, .int a1), (2, .ref a2), (4, .int a4), (6, .int a6)]) hx hb dX8_whyGrowth_172 hl (k := 7) rfl (by rw [ex_47]; rfl) (by decide) rfl (fun ls hl => hp_n (n := 175) rfl ?_)
                  refine lv_goto (tgt := 115) hx hb dX8_whyGrowth_175 (by decide) ?_
                  exact ih115 _ (by have q0 := ib_hi x_3; have q1 := ib_lo x_3; have qa := ib_hi v9_h_36; have qb := ib_lo v9_h_36; have qc : (v9_h_36 + 1).toInt = v9_h_36.toInt + (1 : Int32).toInt := ii_add (by omega) (by omega); rw [ex_47]; omega) Hh_46 Lh_46 Bh_46 rh_46 rh_41 x_47 (by omega) ls (lv_sub hl [3, 4, 5, 6, 7, 1, 2, 0] rfl) rfl
            refine lv_istore (lv' := [(9, .int 0), (8, .int rh_34), (7, .int rh_34), (0, .ref a0), (1, .int a1), (2, .ref a2), (3, .int a3), (4, .int a4), (5, .int a5), (6, .int a6)]) hx hb dX8_whyGrowth_113 hl (by decide) rfl (fun ls hl => hp_n (n := 115) rfl ?_)
            exact J115 _ Hh_34 Lh_34 Bh_34 rh_34 rh_34 0 (by omega) ls (lv_sub hl [3, 4, 5, 7, 9, 2, 1, 0] rfl) rfl
          ·
            have jc_35 := il_ne c_35
            refine lv_iconst (v := 1) hx hb dX8_whyGrowth_108 (by decide) (hp_n (n := 109) rfl ?_)
            refine lv_goto (tgt := 113) hx hb dX8_whyGrowth_109 (by decide) ?_
            have J115 : ∀ (nq : Nat) (Hh_48 : Heap) (Lh_48 : List Loc) (Bh_48 : hp_B Γ (cw w_X8_whyGrowth) s α αh_1 Hh_48 Lh_48) (v7_h_48 : Int32) (v8_h_48 : Int32) (v9_h_48 : Int32) (ih_48_0 : 0 ≤ v9_h_48.toInt) (ls : Array Slot) (hl : lv_has ls 10 [(0, .ref a0), (1, .int a1), (2, .ref a2), (4, .int a4), (6, .int a6), (7, .int v7_h_48), (8, .int v8_h_48), (9, .int v9_h_48)]) (hmu115 : (2147483647 - v9_h_48.toInt).toNat = nq), W p l e (hp_rm 4 0 0) s m ([.ref a0, .int a1, .ref a2, .int a3, .int a4, .int a5, .int a6] : List Value).toArray below meth c Hh_48 Lh_48 0 0 (MQ below (hp_Qi Γ (fun r β => cw w_X8_whyGrowth α β)) ([.ref a0, .int a1, .ref a2, .int a3, .int a4, .int a5, .int a6] : List Value).toArray s 0 0 (hp_A Γ)) (F0 m 115 ls []) := by
              intro nq
              induction nq using Nat.strongRecOn with
              | ind nq ih115 =>
              intro Hh_48 Lh_48 Bh_48 v7_h_48 v8_h_48 v9_h_48 ih_48_0 ls hl hmu115
              have inv115_0 := ih_48_0
              refine lv_iload hx hb dX8_whyGrowth_115 (lv_at hl 7 rfl) (hp_n (n := 117) rfl ?_)
              refine lv_aload_n hx hb dX8_whyGrowth_117 rfl (lv_at hl 0 rfl) (hp_n (n := 118) rfl ?_)
              refine q_getj (κ := 9) (k := 3) (φ := 453) (pc' := 121) C Bh_48 (cw_k Bh_48.2.2 k0) fl_X8_22 rfl rfl rfl ex_3 dX8_whyGrowth_118 rfl ?_
              refine lv_icmp_ge (tgt := 178) hx hb dX8_whyGrowth_121 (by decide) (fun c_49 => ?_) (fun c_49 => hp_n (n := 124) rfl ?_)
              ·
                have jc_49 := il_le c_49
                refine lv_iload hx hb dX8_whyGrowth_178 (lv_at hl 5 rfl) (hp_n (n := 180) rfl ?_)
                refine lv_iload hx hb dX8_whyGrowth_180 (lv_at hl 3 rfl) (hp_n (n := 182) rfl ?_)
                refine lv_icmp_eq (tgt := 187) hx hb dX8_whyGrowth_182 (by decide) (fun c_50 => ?_) (fun c_50 => hp_n (n := 185) rfl ?_)
                ·
                  have jc_50 := il_eq c_50
                  refine lv_iload hx hb dX8_whyGrowth_187 (lv_at hl 6 rfl) (hp_n (n := 189) rfl ?_)
                  refine lv_iload hx hb dX8_whyGrowth_189 (lv_at hl 4 rfl) (hp_n (n := 191) rfl ?_)
                  refine lv_icmp_ne (tgt := 198) hx hb dX8_whyGrowth_191 (by decide) (fun c_51 => ?_) (fun c_51 => hp_n (n := 194) rfl ?_)
                  ·
                    have jc_51 := il_ne c_51
                    refine lv_iconst (v := 4) hx hb dX8_whyGrowth_198 (by decide) (hp_n (n := 199) rfl ?_)
                    exact q_iret C Bh_48 hr hlk Bh_48.2.2 dX8_whyGrowth_199
                  ·
                    have jc_51 := il_eq c_51
                    refine lv_iconst (v := 0) hx hb dX8_whyGrowth_194 (by decide) (hp_n (n := 195) rfl ?_)
                    refine lv_goto (tgt := 199) hx hb dX8_whyGrowth_195 (by decide) ?_
                    exact q_iret C Bh_48 hr hlk Bh_48.2.2 dX8_whyGrowth_199
                ·
                  have jc_50 := il_ne c_50
                  refine lv_iconst (v := 3) hx hb dX8_whyGrowth_185 (by decide) (hp_n (n := 186) rfl ?_)
                  exact q_iret C Bh_48 hr hlk Bh_48.2.2 dX8_whyGrowth_186
              ·
                have jc_49 := il_nle c_49
                refine lv_aload_n hx hb dX8_whyGrowth_124 rfl (lv_at hl 0 rfl) (hp_n (n := 125) rfl ?_)
                refine lv_iload_n hx hb dX8_whyGrowth_125 rfl (lv_at hl 1 rfl) (hp_n (n := 126) rfl ?_)
                refine lv_iload hx hb dX8_whyGrowth_126 (lv_at hl 7 rfl) (hp_n (n := 128) rfl ?_)
                refine lv_iload hx hb dX8_whyGrowth_128 (lv_at hl 6 rfl) (hp_n (n := 130) rfl ?_)
                refine lv_aload_n hx hb dX8_whyGrowth_130 rfl (lv_at hl 2 rfl) (hp_n (n := 131) rfl ?_)
                refine lv_iload hx hb dX8_whyGrowth_131 (lv_at hl 7 rfl) (hp_n (n := 133) rfl ?_)
                refine q_ci (pc' := 136) Bh_48 (hp_runV (As := [.int v9_h_48]) (rest := [.int v8_h_48, .int v9_h_48, .int a1, .ref a0]) C Bh_48 (t_X5_at Γ l αh_1 Bh_48.2.2.1 a2 (cw_k Bh_48.2.2 k2) v9_h_48) lb_X5_at lv_X5_at lk_X8_65 (cw_k Bh_48.2.2 k2) rfl (by decide) rfl hl.1 rfl (Nat.le_of_ble_eq_true rfl) dX8_whyGrowth_133 ⟨Nat.le_refl _, Nat.le_refl _⟩) (fun _ _ h => by rw [h]; exact Bh_48.2.2) rfl (fun rh_52 αh_52 Hh_52 Lh_52 ph_52 Bh_52 => ?_)
                rw [ph_52] at Bh_52
                refine q_ci (pc' := 139) Bh_52 (hp_runV (As := [.int a1, .int v9_h_48, .int v8_h_48, .int rh_52]) (rest := []) C Bh_52 (t_X8_joined Γ l αh_1 Bh_52.2.2.1 a0 (cw_k Bh_52.2.2 k0) a1 v9_h_48 v8_h_48 rh_52) lb_X8_joined lv_X8_joined lk_X8_70 (cw_k Bh_52.2.2 k0) rfl (by decide) rfl hl.1 rfl (Nat.le_of_ble_eq_true rfl) dX8_whyGrowth_136 ⟨Nat.le_refl _, Nat.le_refl _⟩) (fun _ _ h => by rw [h]; exact Bh_52.2.2) rfl (fun rh_53 αh_53 Hh_53 Lh_53 ph_53 Bh_53 => ?_)
                rw [ph_53] at Bh_53
                refine lv_istore (lv' := [(8, .int rh_53), (0, .ref a0), (1, .int a1), (2, .ref a2), (4, .int a4), (6, .int a6), (7, .int v7_h_48), (9, .int v9_h_48)]) hx hb dX8_whyGrowth_139 hl (by decide) rfl (fun ls hl => hp_n (n := 141) rfl ?_)
                refine lv_aload_n hx hb dX8_whyGrowth_141 rfl (lv_at hl 1 rfl) (hp_n (n := 142) rfl ?_)
                refine lv_iload hx hb dX8_whyGrowth_142 (lv_at hl 7 rfl) (hp_n (n := 144) rfl ?_)
                refine q_ci (pc' := 147) Bh_53 (hp_runV (As := [.int v9_h_48]) (rest := []) C Bh_53 (t_X8_isAhead Γ l αh_1 Bh_53.2.2.1 a0 (cw_k Bh_53.2.2 k0) v9_h_48) lb_X8_isAhead lv_X8_isAhead lk_X8_58 (cw_k Bh_53.2.2 k0) rfl (by decide) rfl hl.1 rfl (Nat.le_of_ble_eq_true rfl) dX8_whyGrowth_144 ⟨Nat.le_refl _, Nat.le_refl _⟩) (fun _ _ h => by rw [h.1]; exact Bh_53.2.2) rfl (fun rh_54 αh_54 Hh_54 Lh_54 ph_54 Bh_54 => ?_)
                rw [ph_54.1] at Bh_54
                have zh_54 := ph_54.2
                refine lv_if_eq (tgt := 168) hx hb dX8_whyGrowth_147 (by decide) (fun c_55 => ?_) (fun c_55 => hp_n (n := 150) rfl ?_)
                ·
                  have jc_55 := il_eq c_55
                  refine lv_iload hx hb dX8_whyGrowth_168 (lv_at hl 6 rfl) (hp_n (n := 170) rfl ?_)
                  refine lv_istore (lv' := [(7, .int v7_h_48), (8, .int rh_53), (0, .ref a0), (1, .int a1), (2, .ref a2), (4, .int a4), (6, .int a6), (9, .int v9_h_48)]) hx hb dX8_whyGrowth_170 hl (by decide) rfl (fun ls hl => hp_n (n := 172) rfl ?_)
                  obtain ⟨x_56, ex_56⟩ : ∃ y : Int32, y = v9_h_48 + 1 := ⟨_, rfl⟩
                  have qx_56 : x_56.toInt = v9_h_48.toInt + 1 := by have q0 := ib_hi x_3; have qa := ib_lo v9_h_48; rw [ex_56]; exact ii_add (by omega) (by omega)
                  refine lv_iinc (v := x_56) (lv' := [(9, .int x_56), (7, .int v7_h_48), (8, .int rh_53), (0, .ref a0), (1, .int a1), (2, .ref a2), (4, .int a4), (6, .int a6)]) hx hb dX8_whyGrowth_172 hl (k := 7) rfl (by rw [ex_56]; rfl) (by decide) rfl (fun ls hl => hp_n (n := 175) rfl ?_)
                  refine lv_goto (tgt := 115) hx hb dX8_whyGrowth_175 (by decide) ?_
                  exact ih115 _ (by have q0 := ib_hi x_3; have q1 := ib_lo x_3; have qa := ib_hi v9_h_48; have qb := ib_lo v9_h_48; have qc : (v9_h_48 + 1).toInt = v9_h_48.toInt + (1 : Int32).toInt := ii_add (by omega) (by omega); rw [ex_56]; omega) Hh_54 Lh_54 Bh_54 v7_h_48 rh_53 x_56 (by omega) ls (lv_sub hl [3, 4, 5, 6, 7, 1, 2, 0] rfl) rfl
                ·
                  have jc_55 := il_ne c_55
                  refine lv_aload_n hx hb dX8_whyGrowth_150 rfl (lv_at hl 1 rfl) (hp_n (n := 151) rfl ?_)
                  refine lv_iload_n hx hb dX8_whyGrowth_151 rfl (lv_at hl 2 rfl) (hp_n (n := 152) rfl ?_)
                  refine lv_iload hx hb dX8_whyGrowth_152 (lv_at hl 7 rfl) (hp_n (n := 154) rfl ?_)
                  refine lv_iload hx hb dX8_whyGrowth_154 (lv_at hl 6 rfl) (hp_n (n := 156) rfl ?_)
                  refine lv_aload_n hx hb dX8_whyGrowth_156 rfl (lv_at hl 3 rfl) (hp_n (n := 157) rfl ?_)
                  refine lv_iload hx hb dX8_whyGrowth_157 (lv_at hl 7 rfl) (hp_n (n := 159) rfl ?_)
                  refine q_ci (pc' := 162) Bh_54 (hp_runV (As := [.int v9_h_48]) (rest := [.int v7_h_48, .int v9_h_48, .int a1, .ref a0]) C Bh_54 (t_X5_at Γ l αh_1 Bh_54.2.2.1 a2 (cw_k Bh_54.2.2 k2) v9_h_48) lb_X5_at lv_X5_at lk_X8_65 (cw_k Bh_54.2.2 k2) rfl (by decide) rfl hl.1 rfl (Nat.le_of_ble_eq_true rfl) dX8_whyGrowth_159 ⟨Nat.le_refl _, Nat.le_refl _⟩) (fun _ _ h => by rw [h]; exact Bh_54.2.2) rfl (fun rh_57 αh_57 Hh_57 Lh_57 ph_57 Bh_57 => ?_)
                  rw [ph_57] at Bh_57
                  refine q_ci (pc' := 165) Bh_57 (hp_runV (As := [.int a1, .int v9_h_48, .int v7_h_48, .int rh_57]) (rest := []) C Bh_57 (t_X8_joined Γ l αh_1 Bh_57.2.2.1 a0 (cw_k Bh_57.2.2 k0) a1 v9_h_48 v7_h_48 rh_57) lb_X8_joined lv_X8_joined lk_X8_70 (cw_k Bh_57.2.2 k0) rfl (by decide) rfl hl.1 rfl (Nat.le_of_ble_eq_true rfl) dX8_whyGrowth_162 ⟨Nat.le_refl _, Nat.le_refl _⟩) (fun _ _ h => by rw [h]; exact Bh_57.2.2) rfl (fun rh_58 αh_58 Hh_58 Lh_58 ph_58 Bh_58 => ?_)
                  rw [ph_58] at Bh_58
                  refine lv_goto (tgt := 170) hx hb dX8_whyGrowth_165 (by decide) ?_
                  refine lv_istore (lv' := [(7, .int rh_58), (8, .int rh_53), (0, .ref a0), (1, .int a1), (2, .ref a2), (4, .int a4), (6, .int a6), (9, .int v9_h_48)]) hx hb dX8_whyGrowth_170 hl (by decide) rfl (fun ls hl => hp_n (n := 172) rfl ?_)
                  obtain ⟨x_59, ex_59⟩ : ∃ y : Int32, y = v9_h_48 + 1 := ⟨_, rfl⟩
                  have qx_59 : x_59.toInt = v9_h_48.toInt + 1 := by have q0 := ib_hi x_3; have qa := ib_lo v9_h_48; rw [ex_59]; exact ii_add (by omega) (by omega)
                  refine lv_iinc (v := x_59) (lv' := [(9, .int x_59), (7, .int rh_58), (8, .int rh_53), (0, .ref a0), (1, .int a1), (2, .ref a2), (4, .int a4), (6, .int a6)]) hx hb dX8_whyGrowth_172 hl (k := 7) rfl (by rw [ex_59]; rfl) (by decide) rfl (fun ls hl => hp_n (n := 175) rfl ?_)
                  refine lv_goto (tgt := 115) hx hb dX8_whyGrowth_175 (by decide) ?_
                  exact ih115 _ (by have q0 := ib_hi x_3; have q1 := ib_lo x_3; have qa := ib_hi v9_h_48; have qb := ib_lo v9_h_48; have qc : (v9_h_48 + 1).toInt = v9_h_48.toInt + (1 : Int32).toInt := ii_add (by omega) (by omega); rw [ex_59]; omega) Hh_58 Lh_58 Bh_58 rh_58 rh_53 x_59 (by omega) ls (lv_sub hl [3, 4, 5, 6, 7, 1, 2, 0] rfl) rfl
            refine lv_istore (lv' := [(9, .int 1), (8, .int rh_34), (7, .int rh_34), (0, .ref a0), (1, .int a1), (2, .ref a2), (3, .int a3), (4, .int a4), (5, .int a5), (6, .int a6)]) hx hb dX8_whyGrowth_113 hl (by decide) rfl (fun ls hl => hp_n (n := 115) rfl ?_)
            exact J115 _ Hh_34 Lh_34 Bh_34 rh_34 rh_34 1 (by omega) ls (lv_sub hl [3, 4, 5, 7, 9, 2, 1, 0] rfl) rfl
      ·
        have jc_6 := il_eq c_6
        refine lv_iload hx hb dX8_whyGrowth_67 (lv_at hl 4 rfl) (hp_n (n := 69) rfl ?_)
        refine lv_if_ne (tgt := 76) hx hb dX8_whyGrowth_69 (by decide) (fun c_60 => ?_) (fun c_60 => hp_n (n := 72) rfl ?_)
        ·
          have jc_60 := il_ne c_60
          refine lv_iconst (v := 3) hx hb dX8_whyGrowth_76 (by decide) (hp_n (n := 77) rfl ?_)
          exact q_iret C Bh_1 hr hlk Bh_1.2.2 dX8_whyGrowth_77
        ·
          have jc_60 := il_eq c_60
          refine lv_iconst (v := 0) hx hb dX8_whyGrowth_72 (by decide) (hp_n (n := 73) rfl ?_)
          refine lv_goto (tgt := 77) hx hb dX8_whyGrowth_73 (by decide) ?_
          exact q_iret C Bh_1 hr hlk Bh_1.2.2 dX8_whyGrowth_77
    ·
      have jc_5 := il_eq c_5
      refine lv_iload hx hb dX8_whyGrowth_41 (lv_at hl 4 rfl) (hp_n (n := 43) rfl ?_)
      refine lv_iload hx hb dX8_whyGrowth_43 (lv_at hl 6 rfl) (hp_n (n := 45) rfl ?_)
      refine lv_icmp_ne (tgt := 61) hx hb dX8_whyGrowth_45 (by decide) (fun c_61 => ?_) (fun c_61 => hp_n (n := 48) rfl ?_)
      ·
        have jc_61 := il_ne c_61
        refine lv_iconst (v := 3) hx hb dX8_whyGrowth_61 (by decide) (hp_n (n := 62) rfl ?_)
        exact q_iret C Bh_1 hr hlk Bh_1.2.2 dX8_whyGrowth_62
      ·
        have jc_61 := il_eq c_61
        refine lv_iload_n hx hb dX8_whyGrowth_48 rfl (lv_at hl 3 rfl) (hp_n (n := 49) rfl ?_)
        refine lv_if_ne (tgt := 57) hx hb dX8_whyGrowth_49 (by decide) (fun c_62 => ?_) (fun c_62 => hp_n (n := 52) rfl ?_)
        ·
          have jc_62 := il_ne c_62
          refine lv_iconst (v := 0) hx hb dX8_whyGrowth_57 (by decide) (hp_n (n := 58) rfl ?_)
          refine lv_goto (tgt := 62) hx hb dX8_whyGrowth_58 (by decide) ?_
          exact q_iret C Bh_1 hr hlk Bh_1.2.2 dX8_whyGrowth_62
        ·
          have jc_62 := il_eq c_62
          refine lv_iload hx hb dX8_whyGrowth_52 (lv_at hl 4 rfl) (hp_n (n := 54) rfl ?_)
          refine lv_if_ne (tgt := 61) hx hb dX8_whyGrowth_54 (by decide) (fun c_63 => ?_) (fun c_63 => hp_n (n := 57) rfl ?_)
          ·
            have jc_63 := il_ne c_63
            refine lv_iconst (v := 3) hx hb dX8_whyGrowth_61 (by decide) (hp_n (n := 62) rfl ?_)
            exact q_iret C Bh_1 hr hlk Bh_1.2.2 dX8_whyGrowth_62
          ·
            have jc_63 := il_eq c_63
            refine lv_iconst (v := 0) hx hb dX8_whyGrowth_57 (by decide) (hp_n (n := 58) rfl ?_)
            refine lv_goto (tgt := 62) hx hb dX8_whyGrowth_58 (by decide) ?_
            exact q_iret C Bh_1 hr hlk Bh_1.2.2 dX8_whyGrowth_62
  ·
    have jc_4 := il_ne c_4
    refine lv_aload_n hx hb dX8_whyGrowth_18 rfl (lv_at hl 2 rfl) (hp_n (n := 19) rfl ?_)
    refine q_getj (κ := 6) (k := 1) (φ := 301) (pc' := 22) C Bh_1 (cw_k Bh_1.2.2 k2) fl_X8_74 rfl rfl rfl ex_2 dX8_whyGrowth_19 rfl ?_
    refine lv_aload_n hx hb dX8_whyGrowth_22 rfl (lv_at hl 0 rfl) (hp_n (n := 23) rfl ?_)
    refine q_getj (κ := 9) (k := 3) (φ := 453) (pc' := 26) C Bh_1 (cw_k Bh_1.2.2 k0) fl_X8_22 rfl rfl rfl ex_3 dX8_whyGrowth_23 rfl ?_
    refine lv_icmp_ge (tgt := 33) hx hb dX8_whyGrowth_26 (by decide) (fun c_64 => ?_) (fun c_64 => hp_n (n := 29) rfl ?_)
    ·
      have jc_64 := il_le c_64
      refine lv_iconst (v := 2) hx hb dX8_whyGrowth_33 (by decide) (hp_n (n := 34) rfl ?_)
      exact q_iret C Bh_1 hr hlk Bh_1.2.2 dX8_whyGrowth_34
    ·
      have jc_64 := il_nle c_64
      refine lv_iconst (v := 1) hx hb dX8_whyGrowth_29 (by decide) (hp_n (n := 30) rfl ?_)
      refine lv_goto (tgt := 34) hx hb dX8_whyGrowth_30 (by decide) ?_
      exact q_iret C Bh_1 hr hlk Bh_1.2.2 dX8_whyGrowth_34
