abbrev w_X6_byteAt : cw_W := ([], [], [], [])
set_option maxRecDepth 100000 in
set_option maxHeartbeats 4000000 in
theorem t_X6_byteAt (Γ : hp_G) (l : Launch) (α : hp_T) (g : GC α) (a0 : Nat) (k0 : hp_K α a0 = 7) (a1 : Int32) : Met l yX6_byteAt (hp_ws yX6_byteAt cX6_byteAt 2 (some .int)) (hp_rm 0 0 0) (hp_Pc Γ α [.ref a0, .int a1]) (hp_Qi Γ (fun r β => β = α)) 0 0 (hp_A Γ) := by
  refine hp_start (by decide) ?_
  intro p e s m below meth c C hr hlk B0 hnm
  have C : hp_C Γ p m c cX6_byteAt 2 s ([.ref a0, .int a1] : List Value).toArray RX6 := C
  have hx := C.1.1
  have hb := C.1.2.1
  have hown := C.1.2.2.2.1
  have hts := C.1.2.2.2.2
  have B : hp_B Γ (cw w_X6_byteAt) s α α s.heap [] := ⟨B0.1, B0.2.1, cw_rf g⟩
  have lit0 : (0 : Int32).toInt = 0 := by decide
  have lit900 : (900 : Int32).toInt = 900 := by decide
  have hl := lv_entry ([.ref a0, .int a1]) (n := 2) (Nat.le_of_ble_eq_true rfl)
  show W p l e (hp_rm 0 0 0) s m ([.ref a0, .int a1] : List Value).toArray below meth c s.heap [] 0 0 (MQ below (hp_Qi Γ (fun r β => β = α)) ([.ref a0, .int a1] : List Value).toArray s 0 0 (hp_A Γ)) (entryFrame m ([.ref a0, .int a1] : List Value).toArray 2)
  rw [lg_entry_eq]
  generalize (lg_sl ([.ref a0, .int a1]) ++ List.replicate (2 - (lg_sl ([.ref a0, .int a1])).length) Slot.unset).toArray = ls at hl ⊢
  have hl : lv_has ls 2 [(0, .ref a0), (1, .int a1)] := hl
  refine lv_iload_n hx hb dX6_byteAt_0 rfl (lv_at hl 1 rfl) (hp_n (n := 1) rfl ?_)
  refine lv_if_lt (tgt := 30) hx hb dX6_byteAt_1 (by decide) (fun c_1 => ?_) (fun c_1 => hp_n (n := 4) rfl ?_)
  ·
    have jc_1 := il_lt c_1
    refine lv_iconst (v := 0) hx hb dX6_byteAt_30 (by decide) (hp_n (n := 31) rfl ?_)
    exact q_iret C B hr hlk rfl dX6_byteAt_31
  ·
    have jc_1 := il_nlt c_1
    refine lv_iload_n hx hb dX6_byteAt_4 rfl (lv_at hl 1 rfl) (hp_n (n := 5) rfl ?_)
    refine lv_aload_n hx hb dX6_byteAt_5 rfl (lv_at hl 0 rfl) (hp_n (n := 6) rfl ?_)
    refine q_geti (κ := 7) (k := 1) (φ := 351) (pc' := 9) C B (cw_k B.2.2 k0) fl_X6_15 rfl rfl rfl dX6_byteAt_6 rfl (fun x_2 ex_2 => ?_)
    refine lv_icmp_ge (tgt := 30) hx hb dX6_byteAt_9 (by decide) (fun c_3 => ?_) (fun c_3 => hp_n (n := 12) rfl ?_)
    ·
      have jc_3 := il_le c_3
      refine lv_iconst (v := 0) hx hb dX6_byteAt_30 (by decide) (hp_n (n := 31) rfl ?_)
      exact q_iret C B hr hlk rfl dX6_byteAt_31
    ·
      have jc_3 := il_nle c_3
      refine lv_iload_n hx hb dX6_byteAt_12 rfl (lv_at hl 1 rfl) (hp_n (n := 13) rfl ?_)
      refine lv_aload_n hx hb dX6_byteAt_13 rfl (lv_at hl 0 rfl) (hp_n (n := 14) rfl ?_)
      refine q_getu (κ := 7) (k := 0) (φ := 350) (pc' := 17) C B (cw_k B.2.2 k0) fl_X6_9 rfl rfl rfl (cw_u B.2.2 k0) dX6_byteAt_14 rfl (fun b_4 eb_4 kb_4 => ?_)
      rcases kb_4 with kb_4 | kb_4
      ·
        refine q_alen (κ := 24) (t := 1) (n := 900) (x := 900) (ty := .byte) (pc' := 18) C B (cw_k B.2.2 kb_4) (by decide) rfl rfl rfl dX6_byteAt_17 rfl ?_
        refine lv_icmp_ge (tgt := 30) hx hb dX6_byteAt_18 (by decide) (fun c_5 => ?_) (fun c_5 => hp_n (n := 21) rfl ?_)
        ·
          have jc_5 := il_le c_5
          refine lv_iconst (v := 0) hx hb dX6_byteAt_30 (by decide) (hp_n (n := 31) rfl ?_)
          exact q_iret C B hr hlk rfl dX6_byteAt_31
        ·
          have jc_5 := il_nle c_5
          refine lv_aload_n hx hb dX6_byteAt_21 rfl (lv_at hl 0 rfl) (hp_n (n := 22) rfl ?_)
          refine q_gets (κ := 7) (k := 0) (φ := 350) (pc' := 25) C B (cw_k B.2.2 k0) fl_X6_9 rfl rfl rfl eb_4 dX6_byteAt_22 rfl ?_
          refine lv_iload_n hx hb dX6_byteAt_25 rfl (lv_at hl 1 rfl) (hp_n (n := 26) rfl ?_)
          refine q_bal (κ := 24) (n := 900) (pc' := 27) C B (cw_k B.2.2 kb_4) (by decide) rfl (vi_of (by omega) (by omega)) dX6_byteAt_26 rfl (lv_topi (fun x_6 ex_6 => ?_))
          refine lv_goto (tgt := 31) hx hb dX6_byteAt_27 (by decide) ?_
          exact q_iret C B hr hlk rfl dX6_byteAt_31
      ·
        refine q_alen (κ := 36) (t := 1) (n := 0) (x := 0) (ty := .byte) (pc' := 18) C B (cw_k B.2.2 kb_4) (by decide) rfl rfl rfl dX6_byteAt_17 rfl ?_
        refine lv_icmp_ge (tgt := 30) hx hb dX6_byteAt_18 (by decide) (fun c_7 => ?_) (fun c_7 => hp_n (n := 21) rfl ?_)
        ·
          have jc_7 := il_le c_7
          refine lv_iconst (v := 0) hx hb dX6_byteAt_30 (by decide) (hp_n (n := 31) rfl ?_)
          exact q_iret C B hr hlk rfl dX6_byteAt_31
        ·
          have jc_7 := il_nle c_7
          refine lv_aload_n hx hb dX6_byteAt_21 rfl (lv_at hl 0 rfl) (hp_n (n := 22) rfl ?_)
          refine q_gets (κ := 7) (k := 0) (φ := 350) (pc' := 25) C B (cw_k B.2.2 k0) fl_X6_9 rfl rfl rfl eb_4 dX6_byteAt_22 rfl ?_
          refine lv_iload_n hx hb dX6_byteAt_25 rfl (lv_at hl 1 rfl) (hp_n (n := 26) rfl ?_)
          refine q_bal (κ := 36) (n := 0) (pc' := 27) C B (cw_k B.2.2 kb_4) (by decide) rfl (vi_of (by omega) (by omega)) dX6_byteAt_26 rfl (lv_topi (fun x_8 ex_8 => ?_))
          refine lv_goto (tgt := 31) hx hb dX6_byteAt_27 (by decide) ?_
          exact q_iret C B hr hlk rfl dX6_byteAt_31
abbrev w_X6_isBlank : cw_W := ([], [], [], [])
set_option maxRecDepth 100000 in
set_option maxHeartbeats 4000000 in
theorem t_X6_isBlank (Γ : hp_G) (l : Launch) (α : hp_T) (g : GC α) (a0 : Int32) : Met l yX6_isBlank (hp_ws yX6_isBlank cX6_isBlank 1 (some .boolean)) (hp_rm 0 0 0) (hp_Pc Γ α [.int a0]) (hp_Qi Γ (fun r β => β = α ∧ (r = 0 ∨ r = 1))) 0 0 (hp_A Γ) := by
  refine hp_start (by decide) ?_
  intro p e s m below meth c C hr hlk B0 hnm
  have C : hp_C Γ p m c cX6_isBlank 1 s ([.int a0] : List Value).toArray RX6 := C
  have hx := C.1.1
  have hb := C.1.2.1
  have hown := C.1.2.2.2.1
  have hts := C.1.2.2.2.2
  have B : hp_B Γ (cw w_X6_isBlank) s α α s.heap [] := ⟨B0.1, B0.2.1, cw_rf g⟩
  have lit0 : (0 : Int32).toInt = 0 := by decide
  have lit1 : (1 : Int32).toInt = 1 := by decide
  have lit10 : (10 : Int32).toInt = 10 := by decide
  have lit32 : (32 : Int32).toInt = 32 := by decide
  have hl := lv_entry ([.int a0]) (n := 1) (Nat.le_of_ble_eq_true rfl)
  show W p l e (hp_rm 0 0 0) s m ([.int a0] : List Value).toArray below meth c s.heap [] 0 0 (MQ below (hp_Qi Γ (fun r β => β = α ∧ (r = 0 ∨ r = 1))) ([.int a0] : List Value).toArray s 0 0 (hp_A Γ)) (entryFrame m ([.int a0] : List Value).toArray 1)
  rw [lg_entry_eq]
  generalize (lg_sl ([.int a0]) ++ List.replicate (1 - (lg_sl ([.int a0])).length) Slot.unset).toArray = ls at hl ⊢
  have hl : lv_has ls 1 [(0, .int a0)] := hl
  refine lv_iload_n hx hb dX6_isBlank_0 rfl (lv_at hl 0 rfl) (hp_n (n := 1) rfl ?_)
  refine lv_bipush (v := 10) hx hb dX6_isBlank_1 (by decide) (hp_n (n := 3) rfl ?_)
  refine lv_icmp_eq (tgt := 12) hx hb dX6_isBlank_3 (by decide) (fun c_1 => ?_) (fun c_1 => hp_n (n := 6) rfl ?_)
  ·
    have jc_1 := il_eq c_1
    refine lv_iconst (v := 1) hx hb dX6_isBlank_12 (by decide) (hp_n (n := 13) rfl ?_)
    refine lv_goto (tgt := 17) hx hb dX6_isBlank_13 (by decide) ?_
    exact q_zret C B hr hlk (by decide) ⟨rfl, (Or.inr rfl)⟩ dX6_isBlank_17
  ·
    have jc_1 := il_ne c_1
    refine lv_iload_n hx hb dX6_isBlank_6 rfl (lv_at hl 0 rfl) (hp_n (n := 7) rfl ?_)
    refine lv_bipush (v := 32) hx hb dX6_isBlank_7 (by decide) (hp_n (n := 9) rfl ?_)
    refine lv_icmp_ne (tgt := 16) hx hb dX6_isBlank_9 (by decide) (fun c_2 => ?_) (fun c_2 => hp_n (n := 12) rfl ?_)
    ·
      have jc_2 := il_ne c_2
      refine lv_iconst (v := 0) hx hb dX6_isBlank_16 (by decide) (hp_n (n := 17) rfl ?_)
      exact q_zret C B hr hlk (by decide) ⟨rfl, (Or.inl rfl)⟩ dX6_isBlank_17
    ·
      have jc_2 := il_eq c_2
      refine lv_iconst (v := 1) hx hb dX6_isBlank_12 (by decide) (hp_n (n := 13) rfl ?_)
      refine lv_goto (tgt := 17) hx hb dX6_isBlank_13 (by decide) ?_
      exact q_zret C B hr hlk (by decide) ⟨rfl, (Or.inr rfl)⟩ dX6_isBlank_17
abbrev w_X6_kindOf : cw_W := ([], [], [], [])
set_option maxRecDepth 100000 in
set_option maxHeartbeats 4000000 in
theorem t_X6_kindOf (Γ : hp_G) (l : Launch) (α : hp_T) (g : GC α) (a0 : Int32) : Met l yX6_kindOf (hp_ws yX6_kindOf cX6_kindOf 1 (some .int)) (hp_rm 0 0 0) (hp_Pc Γ α [.int a0]) (hp_Qi Γ (fun r β => β = α)) 0 0 (hp_A Γ) := by
  refine hp_start (by decide) ?_
  intro p e s m below meth c C hr hlk B0 hnm
  have C : hp_C Γ p m c cX6_kindOf 1 s ([.int a0] : List Value).toArray RX6 := C
  have hx := C.1.1
  have hb := C.1.2.1
  have hown := C.1.2.2.2.1
  have hts := C.1.2.2.2.2
  have B : hp_B Γ (cw w_X6_kindOf) s α α s.heap [] := ⟨B0.1, B0.2.1, cw_rf g⟩
  have lit1 : (1 : Int32).toInt = 1 := by decide
  have lit2 : (2 : Int32).toInt = 2 := by decide
  have lit3 : (3 : Int32).toInt = 3 := by decide
  have lit4 : (4 : Int32).toInt = 4 := by decide
  have lit48 : (48 : Int32).toInt = 48 := by decide
  have lit57 : (57 : Int32).toInt = 57 := by decide
  have lit59 : (59 : Int32).toInt = 59 := by decide
  have lit97 : (97 : Int32).toInt = 97 := by decide
  have lit122 : (122 : Int32).toInt = 122 := by decide
  have hl := lv_entry ([.int a0]) (n := 1) (Nat.le_of_ble_eq_true rfl)
  show W p l e (hp_rm 0 0 0) s m ([.int a0] : List Value).toArray below meth c s.heap [] 0 0 (MQ below (hp_Qi Γ (fun r β => β = α)) ([.int a0] : List Value).toArray s 0 0 (hp_A Γ)) (entryFrame m ([.int a0] : List Value).toArray 1)
  rw [lg_entry_eq]
  generalize (lg_sl ([.int a0]) ++ List.replicate (1 - (lg_sl ([.int a0])).length) Slot.unset).toArray = ls at hl ⊢
  have hl : lv_has ls 1 [(0, .int a0)] := hl
  refine lv_iload_n hx hb dX6_kindOf_0 rfl (lv_at hl 0 rfl) (hp_n (n := 1) rfl ?_)
  refine lv_bipush (v := 97) hx hb dX6_kindOf_1 (by decide) (hp_n (n := 3) rfl ?_)
  have J14 : ∀ (Hh_1 : Heap) (Lh_1 : List Loc) (Bh_1 : hp_B Γ (cw w_X6_kindOf) s α α Hh_1 Lh_1) (ls : Array Slot) (hl : lv_has ls 1 [(0, .int a0)]), W p l e (hp_rm 0 0 0) s m ([.int a0] : List Value).toArray below meth c Hh_1 Lh_1 0 0 (MQ below (hp_Qi Γ (fun r β => β = α)) ([.int a0] : List Value).toArray s 0 0 (hp_A Γ)) (F0 m 14 ls []) := by
    intro Hh_1 Lh_1 Bh_1 ls hl
    refine lv_iload_n hx hb dX6_kindOf_14 rfl (lv_at hl 0 rfl) (hp_n (n := 15) rfl ?_)
    refine lv_bipush (v := 48) hx hb dX6_kindOf_15 (by decide) (hp_n (n := 17) rfl ?_)
    have J28 : ∀ (Hh_2 : Heap) (Lh_2 : List Loc) (Bh_2 : hp_B Γ (cw w_X6_kindOf) s α α Hh_2 Lh_2) (ls : Array Slot) (hl : lv_has ls 1 [(0, .int a0)]), W p l e (hp_rm 0 0 0) s m ([.int a0] : List Value).toArray below meth c Hh_2 Lh_2 0 0 (MQ below (hp_Qi Γ (fun r β => β = α)) ([.int a0] : List Value).toArray s 0 0 (hp_A Γ)) (F0 m 28 ls []) := by
      intro Hh_2 Lh_2 Bh_2 ls hl
      refine lv_iload_n hx hb dX6_kindOf_28 rfl (lv_at hl 0 rfl) (hp_n (n := 29) rfl ?_)
      refine lv_bipush (v := 59) hx hb dX6_kindOf_29 (by decide) (hp_n (n := 31) rfl ?_)
      refine lv_icmp_ne (tgt := 38) hx hb dX6_kindOf_31 (by decide) (fun c_3 => ?_) (fun c_3 => hp_n (n := 34) rfl ?_)
      ·
        have jc_3 := il_ne c_3
        refine lv_iconst (v := 4) hx hb dX6_kindOf_38 (by decide) (hp_n (n := 39) rfl ?_)
        exact q_iret C Bh_2 hr hlk rfl dX6_kindOf_39
      ·
        have jc_3 := il_eq c_3
        refine lv_iconst (v := 3) hx hb dX6_kindOf_34 (by decide) (hp_n (n := 35) rfl ?_)
        refine lv_goto (tgt := 39) hx hb dX6_kindOf_35 (by decide) ?_
        exact q_iret C Bh_2 hr hlk rfl dX6_kindOf_39
    refine lv_icmp_lt (tgt := 28) hx hb dX6_kindOf_17 (by decide) (fun c_4 => ?_) (fun c_4 => hp_n (n := 20) rfl ?_)
    ·
      have jc_4 := il_lt c_4
      exact J28 Hh_1 Lh_1 Bh_1 ls (lv_sub hl [0] rfl)
    ·
      have jc_4 := il_nlt c_4
      refine lv_iload_n hx hb dX6_kindOf_20 rfl (lv_at hl 0 rfl) (hp_n (n := 21) rfl ?_)
      refine lv_bipush (v := 57) hx hb dX6_kindOf_21 (by decide) (hp_n (n := 23) rfl ?_)
      refine lv_icmp_gt (tgt := 28) hx hb dX6_kindOf_23 (by decide) (fun c_5 => ?_) (fun c_5 => hp_n (n := 26) rfl ?_)
      ·
        have jc_5 := il_lt c_5
        exact J28 Hh_1 Lh_1 Bh_1 ls (lv_sub hl [0] rfl)
      ·
        have jc_5 := il_nlt c_5
        refine lv_iconst (v := 2) hx hb dX6_kindOf_26 (by decide) (hp_n (n := 27) rfl ?_)
        exact q_iret C Bh_1 hr hlk rfl dX6_kindOf_27
  refine lv_icmp_lt (tgt := 14) hx hb dX6_kindOf_3 (by decide) (fun c_6 => ?_) (fun c_6 => hp_n (n := 6) rfl ?_)
  ·
    have jc_6 := il_lt c_6
    exact J14 s.heap [] B ls (lv_sub hl [0] rfl)
  ·
    have jc_6 := il_nlt c_6
    refine lv_iload_n hx hb dX6_kindOf_6 rfl (lv_at hl 0 rfl) (hp_n (n := 7) rfl ?_)
    refine lv_bipush (v := 122) hx hb dX6_kindOf_7 (by decide) (hp_n (n := 9) rfl ?_)
    refine lv_icmp_gt (tgt := 14) hx hb dX6_kindOf_9 (by decide) (fun c_7 => ?_) (fun c_7 => hp_n (n := 12) rfl ?_)
    ·
      have jc_7 := il_lt c_7
      exact J14 s.heap [] B ls (lv_sub hl [0] rfl)
    ·
      have jc_7 := il_nlt c_7
      refine lv_iconst (v := 1) hx hb dX6_kindOf_12 (by decide) (hp_n (n := 13) rfl ?_)
      exact q_iret C B hr hlk rfl dX6_kindOf_13
abbrev w_X6_begin : cw_W := ([351, 352], [350], [], [])
set_option maxRecDepth 100000 in
set_option maxHeartbeats 4000000 in
theorem t_X6_begin (Γ : hp_G) (l : Launch) (α : hp_T) (g : GC α) (a0 : Nat) (k0 : hp_K α a0 = 7) (a1 : Nat) (k1 : hp_K α a1 = 24) (a2 : Int32) : Met l yX6_begin (hp_ws yX6_begin cX6_begin 3 none) (hp_rm 1 0 0) (hp_Pc Γ α [.ref a0, .ref a1, .int a2]) (hp_Qv Γ (fun β => cw w_X6_begin α β)) 0 0 (hp_A Γ) := by
  refine hp_start (by decide) ?_
  intro p e s m below meth c C hr hlk B0 hnm
  have C : hp_C Γ p m c cX6_begin 3 s ([.ref a0, .ref a1, .int a2] : List Value).toArray RX6 := C
  have hx := C.1.1
  have hb := C.1.2.1
  have hown := C.1.2.2.2.1
  have hts := C.1.2.2.2.2
  have B : hp_B Γ (cw w_X6_begin) s α α s.heap [] := ⟨B0.1, B0.2.1, cw_rf g⟩
  have lit0 : (0 : Int32).toInt = 0 := by decide
  have lit900 : (900 : Int32).toInt = 900 := by decide
  have hl := lv_entry ([.ref a0, .ref a1, .int a2]) (n := 3) (Nat.le_of_ble_eq_true rfl)
  show W p l e (hp_rm 1 0 0) s m ([.ref a0, .ref a1, .int a2] : List Value).toArray below meth c s.heap [] 0 0 (MQ below (hp_Qv Γ (fun β => cw w_X6_begin α β)) ([.ref a0, .ref a1, .int a2] : List Value).toArray s 0 0 (hp_A Γ)) (entryFrame m ([.ref a0, .ref a1, .int a2] : List Value).toArray 3)
  rw [lg_entry_eq]
  generalize (lg_sl ([.ref a0, .ref a1, .int a2]) ++ List.replicate (3 - (lg_sl ([.ref a0, .ref a1, .int a2])).length) Slot.unset).toArray = ls at hl ⊢
  have hl : lv_has ls 3 [(0, .ref a0), (1, .ref a1), (2, .int a2)] := hl
  refine lv_aload_n hx hb dX6_begin_0 rfl (lv_at hl 0 rfl) (hp_n (n := 1) rfl ?_)
  refine lv_aload_n hx hb dX6_begin_1 rfl (lv_at hl 1 rfl) (hp_n (n := 2) rfl ?_)
  refine q_putr (κ := 7) (k := 0) (φ := 350) (pc' := 5) C B (cw_k B.2.2 k0) fl_X6_9 rfl rfl rfl rfl rfl rfl (cw_sR B.2.2 (by decide) (Or.inl k1)) dX6_begin_2 rfl (fun αh_1 Hh_1 Lh_1 eh_1 Bh_1 => ?_)
  refine lv_aload_n hx hb dX6_begin_5 rfl (lv_at hl 0 rfl) (hp_n (n := 6) rfl ?_)
  refine lv_iconst (v := 0) hx hb dX6_begin_6 (by decide) (hp_n (n := 7) rfl ?_)
  refine lv_iload_n hx hb dX6_begin_7 rfl (lv_at hl 2 rfl) (hp_n (n := 8) rfl ?_)
  refine lv_aload_n hx hb dX6_begin_8 rfl (lv_at hl 1 rfl) (hp_n (n := 9) rfl ?_)
  refine q_alen (κ := 24) (t := 1) (n := 900) (x := 900) (ty := .byte) (pc' := 10) C Bh_1 (cw_k Bh_1.2.2 k1) (by decide) rfl rfl rfl dX6_begin_9 rfl ?_
  refine q_ci (pc' := 13) Bh_1 (hp_runS (As := [.int a2, .int 900]) (rest := [.int 0, .ref a0]) C Bh_1 (t_J9_min_7cf53 Γ l αh_1 Bh_1.2.2.1 a2 900) lb_J9_min_7cf53 ls_J9_min_7cf53 lk_X6_34 rfl (by decide) rfl hl.1 rfl (Nat.le_of_ble_eq_true rfl) dX6_begin_10 ⟨Nat.le_refl _, Nat.le_refl _⟩) (fun _ _ h => by rw [h.1]; exact Bh_1.2.2) rfl (fun rh_2 αh_2 Hh_2 Lh_2 ph_2 Bh_2 => ?_)
  rw [ph_2.1] at Bh_2
  obtain ⟨ph_2a, ph_2b, ph_2c⟩ := ph_2.2
  refine q_ci (pc' := 16) Bh_2 (hp_runS (As := [.int 0, .int rh_2]) (rest := [.ref a0]) C Bh_2 (t_J9_max_7cf53 Γ l αh_1 Bh_2.2.2.1 0 rh_2) lb_J9_max_7cf53 ls_J9_max_7cf53 lk_X6_40 rfl (by decide) rfl hl.1 rfl (Nat.le_of_ble_eq_true rfl) dX6_begin_13 ⟨Nat.le_refl _, Nat.le_refl _⟩) (fun _ _ h => by rw [h.1]; exact Bh_2.2.2) rfl (fun rh_3 αh_3 Hh_3 Lh_3 ph_3 Bh_3 => ?_)
  rw [ph_3.1] at Bh_3
  obtain ⟨ph_3a, ph_3b, ph_3c⟩ := ph_3.2
  refine q_puti (κ := 7) (k := 1) (φ := 351) (pc' := 19) C Bh_3 (cw_k Bh_3.2.2 k0) fl_X6_15 rfl rfl rfl rfl rfl rfl (cw_sI Bh_3.2.2 (by decide) (fun h => absurd h (by decide))) dX6_begin_16 rfl (fun αh_4 Hh_4 Lh_4 eh_4 Bh_4 => ?_)
  refine lv_aload_n hx hb dX6_begin_19 rfl (lv_at hl 0 rfl) (hp_n (n := 20) rfl ?_)
  refine lv_iconst (v := 0) hx hb dX6_begin_20 (by decide) (hp_n (n := 21) rfl ?_)
  refine q_puti (κ := 7) (k := 2) (φ := 352) (pc' := 24) C Bh_4 (cw_k Bh_4.2.2 k0) fl_X6_19 rfl rfl rfl rfl rfl rfl (cw_sI Bh_4.2.2 (by decide) (fun h => absurd h (by decide))) dX6_begin_21 rfl (fun αh_5 Hh_5 Lh_5 eh_5 Bh_5 => ?_)
  exact q_vret C Bh_5 hr hlk Bh_5.2.2 dX6_begin_24
abbrev w_X6_advance : cw_W := ([352, 353, 354, 355, 356], [], [], [])
set_option maxRecDepth 100000 in
set_option maxHeartbeats 4000000 in
theorem t_X6_advance (Γ : hp_G) (l : Launch) (α : hp_T) (g : GC α) (a0 : Nat) (k0 : hp_K α a0 = 7) : Met l yX6_advance (hp_ws yX6_advance cX6_advance 2 none) (hp_rm 1 0 0) (hp_Pc Γ α [.ref a0]) (hp_Qv Γ (fun β => cw w_X6_advance α β)) 0 0 (hp_A Γ) := by
  refine hp_start (by decide) ?_
  intro p e s m below meth c C hr hlk B0 hnm
  have C : hp_C Γ p m c cX6_advance 2 s ([.ref a0] : List Value).toArray RX6 := C
  have hx := C.1.1
  have hb := C.1.2.1
  have hown := C.1.2.2.2.1
  have hts := C.1.2.2.2.2
  have B : hp_B Γ (cw w_X6_advance) s α α s.heap [] := ⟨B0.1, B0.2.1, cw_rf g⟩
  have lit0 : (0 : Int32).toInt = 0 := by decide
  have lit1 : (1 : Int32).toInt = 1 := by decide
  have lit2 : (2 : Int32).toInt = 2 := by decide
  have lit4 : (4 : Int32).toInt = 4 := by decide
  have lit5 : (5 : Int32).toInt = 5 := by decide
  have lit10 : (10 : Int32).toInt = 10 := by decide
  have lit48 : (48 : Int32).toInt = 48 := by decide
  have lit900 : (900 : Int32).toInt = 900 := by decide
  have hl := lv_entry ([.ref a0]) (n := 2) (Nat.le_of_ble_eq_true rfl)
  show W p l e (hp_rm 1 0 0) s m ([.ref a0] : List Value).toArray below meth c s.heap [] 0 0 (MQ below (hp_Qv Γ (fun β => cw w_X6_advance α β)) ([.ref a0] : List Value).toArray s 0 0 (hp_A Γ)) (entryFrame m ([.ref a0] : List Value).toArray 2)
  rw [lg_entry_eq]
  generalize (lg_sl ([.ref a0]) ++ List.replicate (2 - (lg_sl ([.ref a0])).length) Slot.unset).toArray = ls at hl ⊢
  have hl : lv_has ls 2 [(0, .ref a0)] := hl
  refine lv_iconst (v := 0) hx hb dX6_advance_0 (by decide) (hp_n (n := 1) rfl ?_)
  have J2 : ∀ (nq : Nat) (αh_1 : hp_T) (Hh_1 : Heap) (Lh_1 : List Loc) (Bh_1 : hp_B Γ (cw w_X6_advance) s α αh_1 Hh_1 Lh_1) (v1_h_1 : Int32) (ih_1_0 : 0 ≤ v1_h_1.toInt) (ls : Array Slot) (hl : lv_has ls 2 [(0, .ref a0), (1, .int v1_h_1)]) (hmu2 : (2147483647 - v1_h_1.toInt).toNat = nq), W p l e (hp_rm 1 0 0) s m ([.ref a0] : List Value).toArray below meth c Hh_1 Lh_1 0 0 (MQ below (hp_Qv Γ (fun β => cw w_X6_advance α β)) ([.ref a0] : List Value).toArray s 0 0 (hp_A Γ)) (F0 m 2 ls []) := by
    intro nq
    induction nq using Nat.strongRecOn with
    | ind nq ih2 =>
    intro αh_1 Hh_1 Lh_1 Bh_1 v1_h_1 ih_1_0 ls hl hmu2
    have inv2_0 := ih_1_0
    refine lv_iload_n hx hb dX6_advance_2 rfl (lv_at hl 1 rfl) (hp_n (n := 3) rfl ?_)
    refine lv_sipush (v := 900) hx hb dX6_advance_3 (by decide) (hp_n (n := 6) rfl ?_)
    have J39 : ∀ (Hh_2 : Heap) (Lh_2 : List Loc) (Bh_2 : hp_B Γ (cw w_X6_advance) s α αh_1 Hh_2 Lh_2) (ls : Array Slot) (hl : lv_has ls 2 [(0, .ref a0)]), W p l e (hp_rm 1 0 0) s m ([.ref a0] : List Value).toArray below meth c Hh_2 Lh_2 0 0 (MQ below (hp_Qv Γ (fun β => cw w_X6_advance α β)) ([.ref a0] : List Value).toArray s 0 0 (hp_A Γ)) (F0 m 39 ls []) := by
      intro Hh_2 Lh_2 Bh_2 ls hl
      refine lv_aload_n hx hb dX6_advance_39 rfl (lv_at hl 0 rfl) (hp_n (n := 40) rfl ?_)
      refine lv_aload_n hx hb dX6_advance_40 rfl (lv_at hl 0 rfl) (hp_n (n := 41) rfl ?_)
      refine q_geti (κ := 7) (k := 2) (φ := 352) (pc' := 44) C Bh_2 (cw_k Bh_2.2.2 k0) fl_X6_19 rfl rfl rfl dX6_advance_41 rfl (fun x_3 ex_3 => ?_)
      refine q_puti (κ := 7) (k := 4) (φ := 354) (pc' := 47) C Bh_2 (cw_k Bh_2.2.2 k0) fl_X6_25 rfl rfl rfl rfl rfl rfl (cw_sI Bh_2.2.2 (by decide) (fun h => absurd h (by decide))) dX6_advance_44 rfl (fun αh_4 Hh_4 Lh_4 eh_4 Bh_4 => ?_)
      refine lv_aload_n hx hb dX6_advance_47 rfl (lv_at hl 0 rfl) (hp_n (n := 48) rfl ?_)
      refine lv_aload_n hx hb dX6_advance_48 rfl (lv_at hl 0 rfl) (hp_n (n := 49) rfl ?_)
      have t_5 : x_3 = hp_I αh_4 352 a0 := by rw [eh_4, hp_I_ne (by decide)]; exact ex_3
      refine q_getj (κ := 7) (k := 2) (φ := 352) (pc' := 52) C Bh_4 (cw_k Bh_4.2.2 k0) fl_X6_19 rfl rfl rfl t_5 dX6_advance_49 rfl ?_
      refine lv_aload_n hx hb dX6_advance_52 rfl (lv_at hl 0 rfl) (hp_n (n := 53) rfl ?_)
      refine q_geti (κ := 7) (k := 1) (φ := 351) (pc' := 56) C Bh_4 (cw_k Bh_4.2.2 k0) fl_X6_15 rfl rfl rfl dX6_advance_53 rfl (fun x_6 ex_6 => ?_)
      refine lv_icmp_ge (tgt := 73) hx hb dX6_advance_56 (by decide) (fun c_7 => ?_) (fun c_7 => hp_n (n := 59) rfl ?_)
      ·
        have jc_7 := il_le c_7
        refine lv_iconst (v := 0) hx hb dX6_advance_73 (by decide) (hp_n (n := 74) rfl ?_)
        refine q_puti (κ := 7) (k := 3) (φ := 353) (pc' := 77) C Bh_4 (cw_k Bh_4.2.2 k0) fl_X6_22 rfl rfl rfl rfl rfl rfl (cw_sI Bh_4.2.2 (by decide) (fun h => absurd h (by decide))) dX6_advance_74 rfl (fun αh_8 Hh_8 Lh_8 eh_8 Bh_8 => ?_)
        refine lv_aload_n hx hb dX6_advance_77 rfl (lv_at hl 0 rfl) (hp_n (n := 78) rfl ?_)
        refine lv_dup hx hb dX6_advance_78 rfl (hp_n (n := 79) rfl ?_)
        have t_9 : x_3 = hp_I αh_8 352 a0 := by rw [eh_8, hp_I_ne (by decide)]; exact t_5
        refine q_getj (κ := 7) (k := 2) (φ := 352) (pc' := 82) C Bh_8 (cw_k Bh_8.2.2 k0) fl_X6_19 rfl rfl rfl t_9 dX6_advance_79 rfl ?_
        refine lv_aload_n hx hb dX6_advance_82 rfl (lv_at hl 0 rfl) (hp_n (n := 83) rfl ?_)
        have t_10 : 0 = hp_I αh_8 353 a0 := by rw [eh_8]; exact hp_I_at.symm
        refine q_getj (κ := 7) (k := 3) (φ := 353) (pc' := 86) C Bh_8 (cw_k Bh_8.2.2 k0) fl_X6_22 rfl rfl rfl t_10 dX6_advance_83 rfl ?_
        refine lv_if_ne (tgt := 93) hx hb dX6_advance_86 (by decide) (fun c_11 => ?_) (fun c_11 => hp_n (n := 89) rfl ?_)
        · exact absurd c_11 (by decide)
        refine lv_iconst (v := 0) hx hb dX6_advance_89 (by decide) (hp_n (n := 90) rfl ?_)
        refine lv_goto (tgt := 94) hx hb dX6_advance_90 (by decide) ?_
        refine lv_iadd hx hb dX6_advance_94 (hp_n (n := 95) rfl (lv_topi (fun x_12 ex_12 => ?_)))
        refine q_puti (κ := 7) (k := 2) (φ := 352) (pc' := 98) C Bh_8 (cw_k Bh_8.2.2 k0) fl_X6_19 rfl rfl rfl rfl rfl rfl (cw_sI Bh_8.2.2 (by decide) (fun h => absurd h (by decide))) dX6_advance_95 rfl (fun αh_13 Hh_13 Lh_13 eh_13 Bh_13 => ?_)
        refine lv_iconst (v := 0) hx hb dX6_advance_98 (by decide) (hp_n (n := 99) rfl ?_)
        have J100 : ∀ (nq : Nat) (αh_14 : hp_T) (Hh_14 : Heap) (Lh_14 : List Loc) (Bh_14 : hp_B Γ (cw w_X6_advance) s α αh_14 Hh_14 Lh_14) (v1_h_14 : Int32) (ih_14_0 : 0 ≤ v1_h_14.toInt) (ls : Array Slot) (hl : lv_has ls 2 [(0, .ref a0), (1, .int v1_h_14)]) (hmu100 : (2147483647 - v1_h_14.toInt).toNat = nq), W p l e (hp_rm 1 0 0) s m ([.ref a0] : List Value).toArray below meth c Hh_14 Lh_14 0 0 (MQ below (hp_Qv Γ (fun β => cw w_X6_advance α β)) ([.ref a0] : List Value).toArray s 0 0 (hp_A Γ)) (F0 m 100 ls []) := by
          intro nq
          induction nq using Nat.strongRecOn with
          | ind nq ih100 =>
          intro αh_14 Hh_14 Lh_14 Bh_14 v1_h_14 ih_14_0 ls hl hmu100
          have inv100_0 := ih_14_0
          refine lv_iload_n hx hb dX6_advance_100 rfl (lv_at hl 1 rfl) (hp_n (n := 101) rfl ?_)
          refine lv_sipush (v := 900) hx hb dX6_advance_101 (by decide) (hp_n (n := 104) rfl ?_)
          have J157 : ∀ (Hh_15 : Heap) (Lh_15 : List Loc) (Bh_15 : hp_B Γ (cw w_X6_advance) s α αh_14 Hh_15 Lh_15) (ls : Array Slot) (hl : lv_has ls 2 [(0, .ref a0)]), W p l e (hp_rm 1 0 0) s m ([.ref a0] : List Value).toArray below meth c Hh_15 Lh_15 0 0 (MQ below (hp_Qv Γ (fun β => cw w_X6_advance α β)) ([.ref a0] : List Value).toArray s 0 0 (hp_A Γ)) (F0 m 157 ls []) := by
            intro Hh_15 Lh_15 Bh_15 ls hl
            refine lv_aload_n hx hb dX6_advance_157 rfl (lv_at hl 0 rfl) (hp_n (n := 158) rfl ?_)
            refine lv_aload_n hx hb dX6_advance_158 rfl (lv_at hl 0 rfl) (hp_n (n := 159) rfl ?_)
            refine q_geti (κ := 7) (k := 2) (φ := 352) (pc' := 162) C Bh_15 (cw_k Bh_15.2.2 k0) fl_X6_19 rfl rfl rfl dX6_advance_159 rfl (fun x_16 ex_16 => ?_)
            refine lv_aload_n hx hb dX6_advance_162 rfl (lv_at hl 0 rfl) (hp_n (n := 163) rfl ?_)
            refine q_geti (κ := 7) (k := 4) (φ := 354) (pc' := 166) C Bh_15 (cw_k Bh_15.2.2 k0) fl_X6_25 rfl rfl rfl dX6_advance_163 rfl (fun x_17 ex_17 => ?_)
            refine lv_isub hx hb dX6_advance_166 (hp_n (n := 167) rfl (lv_topi (fun x_18 ex_18 => ?_)))
            refine q_puti (κ := 7) (k := 5) (φ := 355) (pc' := 170) C Bh_15 (cw_k Bh_15.2.2 k0) fl_X6_28 rfl rfl rfl rfl rfl rfl (cw_sI Bh_15.2.2 (by decide) (fun h => absurd h (by decide))) dX6_advance_167 rfl (fun αh_19 Hh_19 Lh_19 eh_19 Bh_19 => ?_)
            refine lv_aload_n hx hb dX6_advance_170 rfl (lv_at hl 0 rfl) (hp_n (n := 171) rfl ?_)
            refine lv_iconst (v := 0) hx hb dX6_advance_171 (by decide) (hp_n (n := 172) rfl ?_)
            refine q_puti (κ := 7) (k := 6) (φ := 356) (pc' := 175) C Bh_19 (cw_k Bh_19.2.2 k0) fl_X6_31 rfl rfl rfl rfl rfl rfl (cw_sI Bh_19.2.2 (by decide) (fun h => absurd h (by decide))) dX6_advance_172 rfl (fun αh_20 Hh_20 Lh_20 eh_20 Bh_20 => ?_)
            refine lv_iconst (v := 0) hx hb dX6_advance_175 (by decide) (hp_n (n := 176) rfl ?_)
            have J177 : ∀ (nq : Nat) (αh_21 : hp_T) (Hh_21 : Heap) (Lh_21 : List Loc) (Bh_21 : hp_B Γ (cw w_X6_advance) s α αh_21 Hh_21 Lh_21) (v1_h_21 : Int32) (ih_21_0 : 0 ≤ v1_h_21.toInt) (ls : Array Slot) (hl : lv_has ls 2 [(0, .ref a0), (1, .int v1_h_21)]) (hmu177 : (2147483647 - v1_h_21.toInt).toNat = nq), W p l e (hp_rm 1 0 0) s m ([.ref a0] : List Value).toArray below meth c Hh_21 Lh_21 0 0 (MQ below (hp_Qv Γ (fun β => cw w_X6_advance α β)) ([.ref a0] : List Value).toArray s 0 0 (hp_A Γ)) (F0 m 177 ls []) := by
              intro nq
              induction nq using Nat.strongRecOn with
              | ind nq ih177 =>
              intro αh_21 Hh_21 Lh_21 Bh_21 v1_h_21 ih_21_0 ls hl hmu177
              have inv177_0 := ih_21_0
              refine lv_iload_n hx hb dX6_advance_177 rfl (lv_at hl 1 rfl) (hp_n (n := 178) rfl ?_)
              refine lv_aload_n hx hb dX6_advance_178 rfl (lv_at hl 0 rfl) (hp_n (n := 179) rfl ?_)
              refine q_geti (κ := 7) (k := 5) (φ := 355) (pc' := 182) C Bh_21 (cw_k Bh_21.2.2 k0) fl_X6_28 rfl rfl rfl dX6_advance_179 rfl (fun x_22 ex_22 => ?_)
              have J229 : ∀ (Hh_23 : Heap) (Lh_23 : List Loc) (Bh_23 : hp_B Γ (cw w_X6_advance) s α αh_21 Hh_23 Lh_23) (ls : Array Slot) (hl : lv_has ls 2 [(0, .ref a0)]), W p l e (hp_rm 1 0 0) s m ([.ref a0] : List Value).toArray below meth c Hh_23 Lh_23 0 0 (MQ below (hp_Qv Γ (fun β => cw w_X6_advance α β)) ([.ref a0] : List Value).toArray s 0 0 (hp_A Γ)) (F0 m 229 ls []) := by
                intro Hh_23 Lh_23 Bh_23 ls hl
                refine lv_aload_n hx hb dX6_advance_229 rfl (lv_at hl 0 rfl) (hp_n (n := 230) rfl ?_)
                refine lv_aload_n hx hb dX6_advance_230 rfl (lv_at hl 0 rfl) (hp_n (n := 231) rfl ?_)
                refine q_geti (κ := 7) (k := 3) (φ := 353) (pc' := 234) C Bh_23 (cw_k Bh_23.2.2 k0) fl_X6_22 rfl rfl rfl dX6_advance_231 rfl (fun x_24 ex_24 => ?_)
                refine lv_iconst (v := 2) hx hb dX6_advance_234 (by decide) (hp_n (n := 235) rfl ?_)
                refine lv_icmp_ne (tgt := 250) hx hb dX6_advance_235 (by decide) (fun c_25 => ?_) (fun c_25 => hp_n (n := 238) rfl ?_)
                ·
                  have jc_25 := il_ne c_25
                  refine lv_aload_n hx hb dX6_advance_250 rfl (lv_at hl 0 rfl) (hp_n (n := 251) rfl ?_)
                  refine q_getj (κ := 7) (k := 3) (φ := 353) (pc' := 254) C Bh_23 (cw_k Bh_23.2.2 k0) fl_X6_22 rfl rfl rfl ex_24 dX6_advance_251 rfl ?_
                  refine q_puti (κ := 7) (k := 3) (φ := 353) (pc' := 257) C Bh_23 (cw_k Bh_23.2.2 k0) fl_X6_22 rfl rfl rfl rfl rfl rfl (cw_sI Bh_23.2.2 (by decide) (fun h => absurd h (by decide))) dX6_advance_254 rfl (fun αh_26 Hh_26 Lh_26 eh_26 Bh_26 => ?_)
                  exact q_vret C Bh_26 hr hlk Bh_26.2.2 dX6_advance_257
                ·
                  have jc_25 := il_eq c_25
                  refine lv_aload_n hx hb dX6_advance_238 rfl (lv_at hl 0 rfl) (hp_n (n := 239) rfl ?_)
                  refine q_getj (κ := 7) (k := 5) (φ := 355) (pc' := 242) C Bh_23 (cw_k Bh_23.2.2 k0) fl_X6_28 rfl rfl rfl ex_22 dX6_advance_239 rfl ?_
                  refine lv_iconst (v := 5) hx hb dX6_advance_242 (by decide) (hp_n (n := 243) rfl ?_)
                  refine lv_icmp_le (tgt := 250) hx hb dX6_advance_243 (by decide) (fun c_27 => ?_) (fun c_27 => hp_n (n := 246) rfl ?_)
                  ·
                    have jc_27 := il_le c_27
                    refine lv_aload_n hx hb dX6_advance_250 rfl (lv_at hl 0 rfl) (hp_n (n := 251) rfl ?_)
                    refine q_getj (κ := 7) (k := 3) (φ := 353) (pc' := 254) C Bh_23 (cw_k Bh_23.2.2 k0) fl_X6_22 rfl rfl rfl ex_24 dX6_advance_251 rfl ?_
                    refine q_puti (κ := 7) (k := 3) (φ := 353) (pc' := 257) C Bh_23 (cw_k Bh_23.2.2 k0) fl_X6_22 rfl rfl rfl rfl rfl rfl (cw_sI Bh_23.2.2 (by decide) (fun h => absurd h (by decide))) dX6_advance_254 rfl (fun αh_28 Hh_28 Lh_28 eh_28 Bh_28 => ?_)
                    exact q_vret C Bh_28 hr hlk Bh_28.2.2 dX6_advance_257
                  ·
                    have jc_27 := il_nle c_27
                    refine lv_iconst (v := 4) hx hb dX6_advance_246 (by decide) (hp_n (n := 247) rfl ?_)
                    refine lv_goto (tgt := 254) hx hb dX6_advance_247 (by decide) ?_
                    refine q_puti (κ := 7) (k := 3) (φ := 353) (pc' := 257) C Bh_23 (cw_k Bh_23.2.2 k0) fl_X6_22 rfl rfl rfl rfl rfl rfl (cw_sI Bh_23.2.2 (by decide) (fun h => absurd h (by decide))) dX6_advance_254 rfl (fun αh_29 Hh_29 Lh_29 eh_29 Bh_29 => ?_)
                    exact q_vret C Bh_29 hr hlk Bh_29.2.2 dX6_advance_257
              refine lv_icmp_ge (tgt := 229) hx hb dX6_advance_182 (by decide) (fun c_30 => ?_) (fun c_30 => hp_n (n := 185) rfl ?_)
              ·
                have jc_30 := il_le c_30
                exact J229 Hh_21 Lh_21 Bh_21 ls (lv_sub hl [0] rfl)
              ·
                have jc_30 := il_nle c_30
                refine lv_iload_n hx hb dX6_advance_185 rfl (lv_at hl 1 rfl) (hp_n (n := 186) rfl ?_)
                refine lv_iconst (v := 5) hx hb dX6_advance_186 (by decide) (hp_n (n := 187) rfl ?_)
                refine lv_icmp_ge (tgt := 229) hx hb dX6_advance_187 (by decide) (fun c_31 => ?_) (fun c_31 => hp_n (n := 190) rfl ?_)
                ·
                  have jc_31 := il_le c_31
                  exact J229 Hh_21 Lh_21 Bh_21 ls (lv_sub hl [0] rfl)
                ·
                  have jc_31 := il_nle c_31
                  refine lv_aload_n hx hb dX6_advance_190 rfl (lv_at hl 0 rfl) (hp_n (n := 191) rfl ?_)
                  refine q_geti (κ := 7) (k := 3) (φ := 353) (pc' := 194) C Bh_21 (cw_k Bh_21.2.2 k0) fl_X6_22 rfl rfl rfl dX6_advance_191 rfl (fun x_32 ex_32 => ?_)
                  refine lv_iconst (v := 2) hx hb dX6_advance_194 (by decide) (hp_n (n := 195) rfl ?_)
                  refine lv_icmp_ne (tgt := 229) hx hb dX6_advance_195 (by decide) (fun c_33 => ?_) (fun c_33 => hp_n (n := 198) rfl ?_)
                  ·
                    have jc_33 := il_ne c_33
                    exact J229 Hh_21 Lh_21 Bh_21 ls (lv_sub hl [0] rfl)
                  ·
                    have jc_33 := il_eq c_33
                    refine lv_aload_n hx hb dX6_advance_198 rfl (lv_at hl 0 rfl) (hp_n (n := 199) rfl ?_)
                    refine lv_bipush (v := 10) hx hb dX6_advance_199 (by decide) (hp_n (n := 201) rfl ?_)
                    refine lv_aload_n hx hb dX6_advance_201 rfl (lv_at hl 0 rfl) (hp_n (n := 202) rfl ?_)
                    refine q_geti (κ := 7) (k := 6) (φ := 356) (pc' := 205) C Bh_21 (cw_k Bh_21.2.2 k0) fl_X6_31 rfl rfl rfl dX6_advance_202 rfl (fun x_34 ex_34 => ?_)
                    refine lv_imul hx hb dX6_advance_205 (hp_n (n := 206) rfl (lv_topi (fun x_35 ex_35 => ?_)))
                    refine lv_aload_n hx hb dX6_advance_206 rfl (lv_at hl 0 rfl) (hp_n (n := 207) rfl ?_)
                    refine lv_aload_n hx hb dX6_advance_207 rfl (lv_at hl 0 rfl) (hp_n (n := 208) rfl ?_)
                    refine q_geti (κ := 7) (k := 4) (φ := 354) (pc' := 211) C Bh_21 (cw_k Bh_21.2.2 k0) fl_X6_25 rfl rfl rfl dX6_advance_208 rfl (fun x_36 ex_36 => ?_)
                    refine lv_iload_n hx hb dX6_advance_211 rfl (lv_at hl 1 rfl) (hp_n (n := 212) rfl ?_)
                    refine lv_iadd hx hb dX6_advance_212 (hp_n (n := 213) rfl (lv_topi (fun x_37 ex_37 => ?_)))
                    refine q_ci (pc' := 216) Bh_21 (hp_runV (As := [.int x_37]) (rest := [.int x_35, .ref a0]) C Bh_21 (t_X6_byteAt Γ l αh_21 Bh_21.2.2.1 a0 (cw_k Bh_21.2.2 k0) x_37) lb_X6_byteAt lv_X6_byteAt lk_X6_43 (cw_k Bh_21.2.2 k0) rfl (by decide) rfl hl.1 rfl (Nat.le_of_ble_eq_true rfl) dX6_advance_213 ⟨Nat.le_refl _, Nat.le_refl _⟩) (fun _ _ h => by rw [h]; exact Bh_21.2.2) rfl (fun rh_38 αh_38 Hh_38 Lh_38 ph_38 Bh_38 => ?_)
                    rw [ph_38] at Bh_38
                    refine lv_iadd hx hb dX6_advance_216 (hp_n (n := 217) rfl (lv_topi (fun x_39 ex_39 => ?_)))
                    refine lv_bipush (v := 48) hx hb dX6_advance_217 (by decide) (hp_n (n := 219) rfl ?_)
                    refine lv_isub hx hb dX6_advance_219 (hp_n (n := 220) rfl (lv_topi (fun x_40 ex_40 => ?_)))
                    refine q_puti (κ := 7) (k := 6) (φ := 356) (pc' := 223) C Bh_38 (cw_k Bh_38.2.2 k0) fl_X6_31 rfl rfl rfl rfl rfl rfl (cw_sI Bh_38.2.2 (by decide) (fun h => absurd h (by decide))) dX6_advance_220 rfl (fun αh_41 Hh_41 Lh_41 eh_41 Bh_41 => ?_)
                    obtain ⟨x_42, ex_42⟩ : ∃ y : Int32, y = v1_h_21 + 1 := ⟨_, rfl⟩
                    have qx_42 : x_42.toInt = v1_h_21.toInt + 1 := by have q0 := ib_hi x_22; have qa := ib_lo v1_h_21; rw [ex_42]; exact ii_add (by omega) (by omega)
                    refine lv_iinc (v := x_42) (lv' := [(1, .int x_42), (0, .ref a0)]) hx hb dX6_advance_223 hl (k := 1) rfl (by rw [ex_42]; rfl) (by decide) rfl (fun ls hl => hp_n (n := 226) rfl ?_)
                    refine lv_goto (tgt := 177) hx hb dX6_advance_226 (by decide) ?_
                    exact ih177 _ (by have q0 := ib_hi x_22; have q1 := ib_lo x_22; have qa := ib_hi v1_h_21; have qb := ib_lo v1_h_21; have qc : (v1_h_21 + 1).toInt = v1_h_21.toInt + (1 : Int32).toInt := ii_add (by omega) (by omega); rw [ex_42]; omega) αh_41 Hh_41 Lh_41 Bh_41 x_42 (by omega) ls (lv_sub hl [1, 0] rfl) rfl
            refine lv_istore_n (lv' := [(1, .int 0), (0, .ref a0)]) hx hb dX6_advance_176 rfl hl (by decide) rfl (fun ls hl => hp_n (n := 177) rfl ?_)
            exact J177 _ αh_20 Hh_20 Lh_20 Bh_20 0 (by omega) ls (lv_sub hl [1, 0] rfl) rfl
          refine lv_icmp_ge (tgt := 157) hx hb dX6_advance_104 (by decide) (fun c_43 => ?_) (fun c_43 => hp_n (n := 107) rfl ?_)
          ·
            have jc_43 := il_le c_43
            exact J157 Hh_14 Lh_14 Bh_14 ls (lv_sub hl [0] rfl)
          ·
            have jc_43 := il_nle c_43
            refine lv_aload_n hx hb dX6_advance_107 rfl (lv_at hl 0 rfl) (hp_n (n := 108) rfl ?_)
            refine q_geti (κ := 7) (k := 3) (φ := 353) (pc' := 111) C Bh_14 (cw_k Bh_14.2.2 k0) fl_X6_22 rfl rfl rfl dX6_advance_108 rfl (fun x_44 ex_44 => ?_)
            refine lv_iconst (v := 1) hx hb dX6_advance_111 (by decide) (hp_n (n := 112) rfl ?_)
            have J123 : ∀ (Hh_45 : Heap) (Lh_45 : List Loc) (Bh_45 : hp_B Γ (cw w_X6_advance) s α αh_14 Hh_45 Lh_45) (ls : Array Slot) (hl : lv_has ls 2 [(0, .ref a0), (1, .int v1_h_14)]), W p l e (hp_rm 1 0 0) s m ([.ref a0] : List Value).toArray below meth c Hh_45 Lh_45 0 0 (MQ below (hp_Qv Γ (fun β => cw w_X6_advance α β)) ([.ref a0] : List Value).toArray s 0 0 (hp_A Γ)) (F0 m 123 ls []) := by
              intro Hh_45 Lh_45 Bh_45 ls hl
              refine lv_aload_n hx hb dX6_advance_123 rfl (lv_at hl 0 rfl) (hp_n (n := 124) rfl ?_)
              refine lv_aload_n hx hb dX6_advance_124 rfl (lv_at hl 0 rfl) (hp_n (n := 125) rfl ?_)
              refine q_geti (κ := 7) (k := 2) (φ := 352) (pc' := 128) C Bh_45 (cw_k Bh_45.2.2 k0) fl_X6_19 rfl rfl rfl dX6_advance_125 rfl (fun x_46 ex_46 => ?_)
              refine q_ci (pc' := 131) Bh_45 (hp_runV (As := [.int x_46]) (rest := []) C Bh_45 (t_X6_byteAt Γ l αh_14 Bh_45.2.2.1 a0 (cw_k Bh_45.2.2 k0) x_46) lb_X6_byteAt lv_X6_byteAt lk_X6_43 (cw_k Bh_45.2.2 k0) rfl (by decide) rfl hl.1 rfl (Nat.le_of_ble_eq_true rfl) dX6_advance_128 ⟨Nat.le_refl _, Nat.le_refl _⟩) (fun _ _ h => by rw [h]; exact Bh_45.2.2) rfl (fun rh_47 αh_47 Hh_47 Lh_47 ph_47 Bh_47 => ?_)
              rw [ph_47] at Bh_47
              refine q_ci (pc' := 134) Bh_47 (hp_runS (As := [.int rh_47]) (rest := []) C Bh_47 (t_X6_kindOf Γ l αh_14 Bh_47.2.2.1 rh_47) lb_X6_kindOf ls_X6_kindOf lk_X6_51 rfl (by decide) rfl hl.1 rfl (Nat.le_of_ble_eq_true rfl) dX6_advance_131 ⟨Nat.le_refl _, Nat.le_refl _⟩) (fun _ _ h => by rw [h]; exact Bh_47.2.2) rfl (fun rh_48 αh_48 Hh_48 Lh_48 ph_48 Bh_48 => ?_)
              rw [ph_48] at Bh_48
              refine lv_aload_n hx hb dX6_advance_134 rfl (lv_at hl 0 rfl) (hp_n (n := 135) rfl ?_)
              refine q_getj (κ := 7) (k := 3) (φ := 353) (pc' := 138) C Bh_48 (cw_k Bh_48.2.2 k0) fl_X6_22 rfl rfl rfl ex_44 dX6_advance_135 rfl ?_
              refine lv_icmp_ne (tgt := 157) hx hb dX6_advance_138 (by decide) (fun c_49 => ?_) (fun c_49 => hp_n (n := 141) rfl ?_)
              ·
                have jc_49 := il_ne c_49
                exact J157 Hh_48 Lh_48 Bh_48 ls (lv_sub hl [0] rfl)
              ·
                have jc_49 := il_eq c_49
                refine lv_aload_n hx hb dX6_advance_141 rfl (lv_at hl 0 rfl) (hp_n (n := 142) rfl ?_)
                refine lv_dup hx hb dX6_advance_142 rfl (hp_n (n := 143) rfl ?_)
                refine q_getj (κ := 7) (k := 2) (φ := 352) (pc' := 146) C Bh_48 (cw_k Bh_48.2.2 k0) fl_X6_19 rfl rfl rfl ex_46 dX6_advance_143 rfl ?_
                refine lv_iconst (v := 1) hx hb dX6_advance_146 (by decide) (hp_n (n := 147) rfl ?_)
                refine lv_iadd hx hb dX6_advance_147 (hp_n (n := 148) rfl (lv_topi (fun x_50 ex_50 => ?_)))
                refine q_puti (κ := 7) (k := 2) (φ := 352) (pc' := 151) C Bh_48 (cw_k Bh_48.2.2 k0) fl_X6_19 rfl rfl rfl rfl rfl rfl (cw_sI Bh_48.2.2 (by decide) (fun h => absurd h (by decide))) dX6_advance_148 rfl (fun αh_51 Hh_51 Lh_51 eh_51 Bh_51 => ?_)
                obtain ⟨x_52, ex_52⟩ : ∃ y : Int32, y = v1_h_14 + 1 := ⟨_, rfl⟩
                have qx_52 : x_52.toInt = v1_h_14.toInt + 1 := by have qa := ib_lo v1_h_14; rw [ex_52]; exact ii_add (by omega) (by omega)
                refine lv_iinc (v := x_52) (lv' := [(1, .int x_52), (0, .ref a0)]) hx hb dX6_advance_151 hl (k := 1) rfl (by rw [ex_52]; rfl) (by decide) rfl (fun ls hl => hp_n (n := 154) rfl ?_)
                refine lv_goto (tgt := 100) hx hb dX6_advance_154 (by decide) ?_
                exact ih100 _ (by have qa := ib_hi v1_h_14; have qb := ib_lo v1_h_14; have qc : (v1_h_14 + 1).toInt = v1_h_14.toInt + (1 : Int32).toInt := ii_add (by omega) (by omega); rw [ex_52]; omega) αh_51 Hh_51 Lh_51 Bh_51 x_52 (by omega) ls (lv_sub hl [1, 0] rfl) rfl
            refine lv_icmp_eq (tgt := 123) hx hb dX6_advance_112 (by decide) (fun c_53 => ?_) (fun c_53 => hp_n (n := 115) rfl ?_)
            ·
              have jc_53 := il_eq c_53
              exact J123 Hh_14 Lh_14 Bh_14 ls (lv_sub hl [0, 1] rfl)
            ·
              have jc_53 := il_ne c_53
              refine lv_aload_n hx hb dX6_advance_115 rfl (lv_at hl 0 rfl) (hp_n (n := 116) rfl ?_)
              refine q_getj (κ := 7) (k := 3) (φ := 353) (pc' := 119) C Bh_14 (cw_k Bh_14.2.2 k0) fl_X6_22 rfl rfl rfl ex_44 dX6_advance_116 rfl ?_
              refine lv_iconst (v := 2) hx hb dX6_advance_119 (by decide) (hp_n (n := 120) rfl ?_)
              refine lv_icmp_ne (tgt := 157) hx hb dX6_advance_120 (by decide) (fun c_54 => ?_) (fun c_54 => hp_n (n := 123) rfl ?_)
              ·
                have jc_54 := il_ne c_54
                exact J157 Hh_14 Lh_14 Bh_14 ls (lv_sub hl [0] rfl)
              ·
                have jc_54 := il_eq c_54
                exact J123 Hh_14 Lh_14 Bh_14 ls (lv_sub hl [0, 1] rfl)
        refine lv_istore_n (lv' := [(1, .int 0), (0, .ref a0)]) hx hb dX6_advance_99 rfl hl (by decide) rfl (fun ls hl => hp_n (n := 100) rfl ?_)
        exact J100 _ αh_13 Hh_13 Lh_13 Bh_13 0 (by omega) ls (lv_sub hl [1, 0] rfl) rfl
      ·
        have jc_7 := il_nle c_7
        refine lv_aload_n hx hb dX6_advance_59 rfl (lv_at hl 0 rfl) (hp_n (n := 60) rfl ?_)
        refine lv_aload_n hx hb dX6_advance_60 rfl (lv_at hl 0 rfl) (hp_n (n := 61) rfl ?_)
        refine q_getj (κ := 7) (k := 2) (φ := 352) (pc' := 64) C Bh_4 (cw_k Bh_4.2.2 k0) fl_X6_19 rfl rfl rfl t_5 dX6_advance_61 rfl ?_
        refine q_ci (pc' := 67) Bh_4 (hp_runV (As := [.int x_3]) (rest := [.ref a0]) C Bh_4 (t_X6_byteAt Γ l αh_4 Bh_4.2.2.1 a0 (cw_k Bh_4.2.2 k0) x_3) lb_X6_byteAt lv_X6_byteAt lk_X6_43 (cw_k Bh_4.2.2 k0) rfl (by decide) rfl hl.1 rfl (Nat.le_of_ble_eq_true rfl) dX6_advance_64 ⟨Nat.le_refl _, Nat.le_refl _⟩) (fun _ _ h => by rw [h]; exact Bh_4.2.2) rfl (fun rh_55 αh_55 Hh_55 Lh_55 ph_55 Bh_55 => ?_)
        rw [ph_55] at Bh_55
        refine q_ci (pc' := 70) Bh_55 (hp_runS (As := [.int rh_55]) (rest := [.ref a0]) C Bh_55 (t_X6_kindOf Γ l αh_4 Bh_55.2.2.1 rh_55) lb_X6_kindOf ls_X6_kindOf lk_X6_51 rfl (by decide) rfl hl.1 rfl (Nat.le_of_ble_eq_true rfl) dX6_advance_67 ⟨Nat.le_refl _, Nat.le_refl _⟩) (fun _ _ h => by rw [h]; exact Bh_55.2.2) rfl (fun rh_56 αh_56 Hh_56 Lh_56 ph_56 Bh_56 => ?_)
        rw [ph_56] at Bh_56
        refine lv_goto (tgt := 74) hx hb dX6_advance_70 (by decide) ?_
        refine q_puti (κ := 7) (k := 3) (φ := 353) (pc' := 77) C Bh_56 (cw_k Bh_56.2.2 k0) fl_X6_22 rfl rfl rfl rfl rfl rfl (cw_sI Bh_56.2.2 (by decide) (fun h => absurd h (by decide))) dX6_advance_74 rfl (fun αh_57 Hh_57 Lh_57 eh_57 Bh_57 => ?_)
        refine lv_aload_n hx hb dX6_advance_77 rfl (lv_at hl 0 rfl) (hp_n (n := 78) rfl ?_)
        refine lv_dup hx hb dX6_advance_78 rfl (hp_n (n := 79) rfl ?_)
        have t_58 : x_3 = hp_I αh_57 352 a0 := by rw [eh_57, hp_I_ne (by decide)]; exact t_5
        refine q_getj (κ := 7) (k := 2) (φ := 352) (pc' := 82) C Bh_57 (cw_k Bh_57.2.2 k0) fl_X6_19 rfl rfl rfl t_58 dX6_advance_79 rfl ?_
        refine lv_aload_n hx hb dX6_advance_82 rfl (lv_at hl 0 rfl) (hp_n (n := 83) rfl ?_)
        have t_59 : rh_56 = hp_I αh_57 353 a0 := by rw [eh_57]; exact hp_I_at.symm
        refine q_getj (κ := 7) (k := 3) (φ := 353) (pc' := 86) C Bh_57 (cw_k Bh_57.2.2 k0) fl_X6_22 rfl rfl rfl t_59 dX6_advance_83 rfl ?_
        refine lv_if_ne (tgt := 93) hx hb dX6_advance_86 (by decide) (fun c_60 => ?_) (fun c_60 => hp_n (n := 89) rfl ?_)
        ·
          have jc_60 := il_ne c_60
          refine lv_iconst (v := 1) hx hb dX6_advance_93 (by decide) (hp_n (n := 94) rfl ?_)
          refine lv_iadd hx hb dX6_advance_94 (hp_n (n := 95) rfl (lv_topi (fun x_61 ex_61 => ?_)))
          have qx_61 : x_61.toInt = x_3.toInt + 1 := by have q0 := ib_hi x_6; have qa := ib_lo x_3; rw [ex_61]; exact ii_add (by omega) (by omega)
          refine q_puti (κ := 7) (k := 2) (φ := 352) (pc' := 98) C Bh_57 (cw_k Bh_57.2.2 k0) fl_X6_19 rfl rfl rfl rfl rfl rfl (cw_sI Bh_57.2.2 (by decide) (fun h => absurd h (by decide))) dX6_advance_95 rfl (fun αh_62 Hh_62 Lh_62 eh_62 Bh_62 => ?_)
          refine lv_iconst (v := 0) hx hb dX6_advance_98 (by decide) (hp_n (n := 99) rfl ?_)
          have J100 : ∀ (nq : Nat) (αh_63 : hp_T) (Hh_63 : Heap) (Lh_63 : List Loc) (Bh_63 : hp_B Γ (cw w_X6_advance) s α αh_63 Hh_63 Lh_63) (v1_h_63 : Int32) (ih_63_0 : 0 ≤ v1_h_63.toInt) (ls : Array Slot) (hl : lv_has ls 2 [(0, .ref a0), (1, .int v1_h_63)]) (hmu100 : (2147483647 - v1_h_63.toInt).toNat = nq), W p l e (hp_rm 1 0 0) s m ([.ref a0] : List Value).toArray below meth c Hh_63 Lh_63 0 0 (MQ below (hp_Qv Γ (fun β => cw w_X6_advance α β)) ([.ref a0] : List Value).toArray s 0 0 (hp_A Γ)) (F0 m 100 ls []) := by
            intro nq
            induction nq using Nat.strongRecOn with
            | ind nq ih100 =>
            intro αh_63 Hh_63 Lh_63 Bh_63 v1_h_63 ih_63_0 ls hl hmu100
            have inv100_0 := ih_63_0
            refine lv_iload_n hx hb dX6_advance_100 rfl (lv_at hl 1 rfl) (hp_n (n := 101) rfl ?_)
            refine lv_sipush (v := 900) hx hb dX6_advance_101 (by decide) (hp_n (n := 104) rfl ?_)
            have J157 : ∀ (Hh_64 : Heap) (Lh_64 : List Loc) (Bh_64 : hp_B Γ (cw w_X6_advance) s α αh_63 Hh_64 Lh_64) (ls : Array Slot) (hl : lv_has ls 2 [(0, .ref a0)]), W p l e (hp_rm 1 0 0) s m ([.ref a0] : List Value).toArray below meth c Hh_64 Lh_64 0 0 (MQ below (hp_Qv Γ (fun β => cw w_X6_advance α β)) ([.ref a0] : List Value).toArray s 0 0 (hp_A Γ)) (F0 m 157 ls []) := by
              intro Hh_64 Lh_64 Bh_64 ls hl
              refine lv_aload_n hx hb dX6_advance_157 rfl (lv_at hl 0 rfl) (hp_n (n := 158) rfl ?_)
              refine lv_aload_n hx hb dX6_advance_158 rfl (lv_at hl 0 rfl) (hp_n (n := 159) rfl ?_)
              refine q_geti (κ := 7) (k := 2) (φ := 352) (pc' := 162) C Bh_64 (cw_k Bh_64.2.2 k0) fl_X6_19 rfl rfl rfl dX6_advance_159 rfl (fun x_65 ex_65 => ?_)
              refine lv_aload_n hx hb dX6_advance_162 rfl (lv_at hl 0 rfl) (hp_n (n := 163) rfl ?_)
              refine q_geti (κ := 7) (k := 4) (φ := 354) (pc' := 166) C Bh_64 (cw_k Bh_64.2.2 k0) fl_X6_25 rfl rfl rfl dX6_advance_163 rfl (fun x_66 ex_66 => ?_)
              refine lv_isub hx hb dX6_advance_166 (hp_n (n := 167) rfl (lv_topi (fun x_67 ex_67 => ?_)))
              refine q_puti (κ := 7) (k := 5) (φ := 355) (pc' := 170) C Bh_64 (cw_k Bh_64.2.2 k0) fl_X6_28 rfl rfl rfl rfl rfl rfl (cw_sI Bh_64.2.2 (by decide) (fun h => absurd h (by decide))) dX6_advance_167 rfl (fun αh_68 Hh_68 Lh_68 eh_68 Bh_68 => ?_)
              refine lv_aload_n hx hb dX6_advance_170 rfl (lv_at hl 0 rfl) (hp_n (n := 171) rfl ?_)
              refine lv_iconst (v := 0) hx hb dX6_advance_171 (by decide) (hp_n (n := 172) rfl ?_)
              refine q_puti (κ := 7) (k := 6) (φ := 356) (pc' := 175) C Bh_68 (cw_k Bh_68.2.2 k0) fl_X6_31 rfl rfl rfl rfl rfl rfl (cw_sI Bh_68.2.2 (by decide) (fun h => absurd h (by decide))) dX6_advance_172 rfl (fun αh_69 Hh_69 Lh_69 eh_69 Bh_69 => ?_)
              refine lv_iconst (v := 0) hx hb dX6_advance_175 (by decide) (hp_n (n := 176) rfl ?_)
              have J177 : ∀ (nq : Nat) (αh_70 : hp_T) (Hh_70 : Heap) (Lh_70 : List Loc) (Bh_70 : hp_B Γ (cw w_X6_advance) s α αh_70 Hh_70 Lh_70) (v1_h_70 : Int32) (ih_70_0 : 0 ≤ v1_h_70.toInt) (ls : Array Slot) (hl : lv_has ls 2 [(0, .ref a0), (1, .int v1_h_70)]) (hmu177 : (2147483647 - v1_h_70.toInt).toNat = nq), W p l e (hp_rm 1 0 0) s m ([.ref a0] : List Value).toArray below meth c Hh_70 Lh_70 0 0 (MQ below (hp_Qv Γ (fun β => cw w_X6_advance α β)) ([.ref a0] : List Value).toArray s 0 0 (hp_A Γ)) (F0 m 177 ls []) := by
                intro nq
                induction nq using Nat.strongRecOn with
                | ind nq ih177 =>
                intro αh_70 Hh_70 Lh_70 Bh_70 v1_h_70 ih_70_0 ls hl hmu177
                have inv177_0 := ih_70_0
                refine lv_iload_n hx hb dX6_advance_177 rfl (lv_at hl 1 rfl) (hp_n (n := 178) rfl ?_)
                refine lv_aload_n hx hb dX6_advance_178 rfl (lv_at hl 0 rfl) (hp_n (n := 179) rfl ?_)
                refine q_geti (κ := 7) (k := 5) (φ := 355) (pc' := 182) C Bh_70 (cw_k Bh_70.2.2 k0) fl_X6_28 rfl rfl rfl dX6_advance_179 rfl (fun x_71 ex_71 => ?_)
                have J229 : ∀ (Hh_72 : Heap) (Lh_72 : List Loc) (Bh_72 : hp_B Γ (cw w_X6_advance) s α αh_70 Hh_72 Lh_72) (ls : Array Slot) (hl : lv_has ls 2 [(0, .ref a0)]), W p l e (hp_rm 1 0 0) s m ([.ref a0] : List Value).toArray below meth c Hh_72 Lh_72 0 0 (MQ below (hp_Qv Γ (fun β => cw w_X6_advance α β)) ([.ref a0] : List Value).toArray s 0 0 (hp_A Γ)) (F0 m 229 ls []) := by
                  intro Hh_72 Lh_72 Bh_72 ls hl
                  refine lv_aload_n hx hb dX6_advance_229 rfl (lv_at hl 0 rfl) (hp_n (n := 230) rfl ?_)
                  refine lv_aload_n hx hb dX6_advance_230 rfl (lv_at hl 0 rfl) (hp_n (n := 231) rfl ?_)
                  refine q_geti (κ := 7) (k := 3) (φ := 353) (pc' := 234) C Bh_72 (cw_k Bh_72.2.2 k0) fl_X6_22 rfl rfl rfl dX6_advance_231 rfl (fun x_73 ex_73 => ?_)
                  refine lv_iconst (v := 2) hx hb dX6_advance_234 (by decide) (hp_n (n := 235) rfl ?_)
                  refine lv_icmp_ne (tgt := 250) hx hb dX6_advance_235 (by decide) (fun c_74 => ?_) (fun c_74 => hp_n (n := 238) rfl ?_)
                  ·
                    have jc_74 := il_ne c_74
                    refine lv_aload_n hx hb dX6_advance_250 rfl (lv_at hl 0 rfl) (hp_n (n := 251) rfl ?_)
                    refine q_getj (κ := 7) (k := 3) (φ := 353) (pc' := 254) C Bh_72 (cw_k Bh_72.2.2 k0) fl_X6_22 rfl rfl rfl ex_73 dX6_advance_251 rfl ?_
                    refine q_puti (κ := 7) (k := 3) (φ := 353) (pc' := 257) C Bh_72 (cw_k Bh_72.2.2 k0) fl_X6_22 rfl rfl rfl rfl rfl rfl (cw_sI Bh_72.2.2 (by decide) (fun h => absurd h (by decide))) dX6_advance_254 rfl (fun αh_75 Hh_75 Lh_75 eh_75 Bh_75 => ?_)
                    exact q_vret C Bh_75 hr hlk Bh_75.2.2 dX6_advance_257
                  ·
                    have jc_74 := il_eq c_74
                    refine lv_aload_n hx hb dX6_advance_238 rfl (lv_at hl 0 rfl) (hp_n (n := 239) rfl ?_)
                    refine q_getj (κ := 7) (k := 5) (φ := 355) (pc' := 242) C Bh_72 (cw_k Bh_72.2.2 k0) fl_X6_28 rfl rfl rfl ex_71 dX6_advance_239 rfl ?_
                    refine lv_iconst (v := 5) hx hb dX6_advance_242 (by decide) (hp_n (n := 243) rfl ?_)
                    refine lv_icmp_le (tgt := 250) hx hb dX6_advance_243 (by decide) (fun c_76 => ?_) (fun c_76 => hp_n (n := 246) rfl ?_)
                    ·
                      have jc_76 := il_le c_76
                      refine lv_aload_n hx hb dX6_advance_250 rfl (lv_at hl 0 rfl) (hp_n (n := 251) rfl ?_)
                      refine q_getj (κ := 7) (k := 3) (φ := 353) (pc' := 254) C Bh_72 (cw_k Bh_72.2.2 k0) fl_X6_22 rfl rfl rfl ex_73 dX6_advance_251 rfl ?_
                      refine q_puti (κ := 7) (k := 3) (φ := 353) (pc' := 257) C Bh_72 (cw_k Bh_72.2.2 k0) fl_X6_22 rfl rfl rfl rfl rfl rfl (cw_sI Bh_72.2.2 (by decide) (fun h => absurd h (by decide))) dX6_advance_254 rfl (fun αh_77 Hh_77 Lh_77 eh_77 Bh_77 => ?_)
                      exact q_vret C Bh_77 hr hlk Bh_77.2.2 dX6_advance_257
                    ·
                      have jc_76 := il_nle c_76
                      refine lv_iconst (v := 4) hx hb dX6_advance_246 (by decide) (hp_n (n := 247) rfl ?_)
                      refine lv_goto (tgt := 254) hx hb dX6_advance_247 (by decide) ?_
                      refine q_puti (κ := 7) (k := 3) (φ := 353) (pc' := 257) C Bh_72 (cw_k Bh_72.2.2 k0) fl_X6_22 rfl rfl rfl rfl rfl rfl (cw_sI Bh_72.2.2 (by decide) (fun h => absurd h (by decide))) dX6_advance_254 rfl (fun αh_78 Hh_78 Lh_78 eh_78 Bh_78 => ?_)
                      exact q_vret C Bh_78 hr hlk Bh_78.2.2 dX6_advance_257
                refine lv_icmp_ge (tgt := 229) hx hb dX6_advance_182 (by decide) (fun c_79 => ?_) (fun c_79 => hp_n (n := 185) rfl ?_)
                ·
                  have jc_79 := il_le c_79
                  exact J229 Hh_70 Lh_70 Bh_70 ls (lv_sub hl [0] rfl)
                ·
                  have jc_79 := il_nle c_79
                  refine lv_iload_n hx hb dX6_advance_185 rfl (lv_at hl 1 rfl) (hp_n (n := 186) rfl ?_)
                  refine lv_iconst (v := 5) hx hb dX6_advance_186 (by decide) (hp_n (n := 187) rfl ?_)
                  refine lv_icmp_ge (tgt := 229) hx hb dX6_advance_187 (by decide) (fun c_80 => ?_) (fun c_80 => hp_n (n := 190) rfl ?_)
                  ·
                    have jc_80 := il_le c_80
                    exact J229 Hh_70 Lh_70 Bh_70 ls (lv_sub hl [0] rfl)
                  ·
                    have jc_80 := il_nle c_80
                    refine lv_aload_n hx hb dX6_advance_190 rfl (lv_at hl 0 rfl) (hp_n (n := 191) rfl ?_)
                    refine q_geti (κ := 7) (k := 3) (φ := 353) (pc' := 194) C Bh_70 (cw_k Bh_70.2.2 k0) fl_X6_22 rfl rfl rfl dX6_advance_191 rfl (fun x_81 ex_81 => ?_)
                    refine lv_iconst (v := 2) hx hb dX6_advance_194 (by decide) (hp_n (n := 195) rfl ?_)
                    refine lv_icmp_ne (tgt := 229) hx hb dX6_advance_195 (by decide) (fun c_82 => ?_) (fun c_82 => hp_n (n := 198) rfl ?_)
                    ·
                      have jc_82 := il_ne c_82
                      exact J229 Hh_70 Lh_70 Bh_70 ls (lv_sub hl [0] rfl)
                    ·
                      have jc_82 := il_eq c_82
                      refine lv_aload_n hx hb dX6_advance_198 rfl (lv_at hl 0 rfl) (hp_n (n := 199) rfl ?_)
                      refine lv_bipush (v := 10) hx hb dX6_advance_199 (by decide) (hp_n (n := 201) rfl ?_)
                      refine lv_aload_n hx hb dX6_advance_201 rfl (lv_at hl 0 rfl) (hp_n (n := 202) rfl ?_)
                      refine q_geti (κ := 7) (k := 6) (φ := 356) (pc' := 205) C Bh_70 (cw_k Bh_70.2.2 k0) fl_X6_31 rfl rfl rfl dX6_advance_202 rfl (fun x_83 ex_83 => ?_)
                      refine lv_imul hx hb dX6_advance_205 (hp_n (n := 206) rfl (lv_topi (fun x_84 ex_84 => ?_)))
                      refine lv_aload_n hx hb dX6_advance_206 rfl (lv_at hl 0 rfl) (hp_n (n := 207) rfl ?_)
                      refine lv_aload_n hx hb dX6_advance_207 rfl (lv_at hl 0 rfl) (hp_n (n := 208) rfl ?_)
                      refine q_geti (κ := 7) (k := 4) (φ := 354) (pc' := 211) C Bh_70 (cw_k Bh_70.2.2 k0) fl_X6_25 rfl rfl rfl dX6_advance_208 rfl (fun x_85 ex_85 => ?_)
                      refine lv_iload_n hx hb dX6_advance_211 rfl (lv_at hl 1 rfl) (hp_n (n := 212) rfl ?_)
                      refine lv_iadd hx hb dX6_advance_212 (hp_n (n := 213) rfl (lv_topi (fun x_86 ex_86 => ?_)))
                      refine q_ci (pc' := 216) Bh_70 (hp_runV (As := [.int x_86]) (rest := [.int x_84, .ref a0]) C Bh_70 (t_X6_byteAt Γ l αh_70 Bh_70.2.2.1 a0 (cw_k Bh_70.2.2 k0) x_86) lb_X6_byteAt lv_X6_byteAt lk_X6_43 (cw_k Bh_70.2.2 k0) rfl (by decide) rfl hl.1 rfl (Nat.le_of_ble_eq_true rfl) dX6_advance_213 ⟨Nat.le_refl _, Nat.le_refl _⟩) (fun _ _ h => by rw [h]; exact Bh_70.2.2) rfl (fun rh_87 αh_87 Hh_87 Lh_87 ph_87 Bh_87 => ?_)
                      rw [ph_87] at Bh_87
                      refine lv_iadd hx hb dX6_advance_216 (hp_n (n := 217) rfl (lv_topi (fun x_88 ex_88 => ?_)))
                      refine lv_bipush (v := 48) hx hb dX6_advance_217 (by decide) (hp_n (n := 219) rfl ?_)
                      refine lv_isub hx hb dX6_advance_219 (hp_n (n := 220) rfl (lv_topi (fun x_89 ex_89 => ?_)))
                      refine q_puti (κ := 7) (k := 6) (φ := 356) (pc' := 223) C Bh_87 (cw_k Bh_87.2.2 k0) fl_X6_31 rfl rfl rfl rfl rfl rfl (cw_sI Bh_87.2.2 (by decide) (fun h => absurd h (by decide))) dX6_advance_220 rfl (fun αh_90 Hh_90 Lh_90 eh_90 Bh_90 => ?_)
                      obtain ⟨x_91, ex_91⟩ : ∃ y : Int32, y = v1_h_70 + 1 := ⟨_, rfl⟩
                      have qx_91 : x_91.toInt = v1_h_70.toInt + 1 := by have q0 := ib_hi x_71; have qa := ib_lo v1_h_70; rw [ex_91]; exact ii_add (by omega) (by omega)
                      refine lv_iinc (v := x_91) (lv' := [(1, .int x_91), (0, .ref a0)]) hx hb dX6_advance_223 hl (k := 1) rfl (by rw [ex_91]; rfl) (by decide) rfl (fun ls hl => hp_n (n := 226) rfl ?_)
                      refine lv_goto (tgt := 177) hx hb dX6_advance_226 (by decide) ?_
                      exact ih177 _ (by have q0 := ib_hi x_71; have q1 := ib_lo x_71; have qa := ib_hi v1_h_70; have qb := ib_lo v1_h_70; have qc : (v1_h_70 + 1).toInt = v1_h_70.toInt + (1 : Int32).toInt := ii_add (by omega) (by omega); rw [ex_91]; omega) αh_90 Hh_90 Lh_90 Bh_90 x_91 (by omega) ls (lv_sub hl [1, 0] rfl) rfl
              refine lv_istore_n (lv' := [(1, .int 0), (0, .ref a0)]) hx hb dX6_advance_176 rfl hl (by decide) rfl (fun ls hl => hp_n (n := 177) rfl ?_)
              exact J177 _ αh_69 Hh_69 Lh_69 Bh_69 0 (by omega) ls (lv_sub hl [1, 0] rfl) rfl
            refine lv_icmp_ge (tgt := 157) hx hb dX6_advance_104 (by decide) (fun c_92 => ?_) (fun c_92 => hp_n (n := 107) rfl ?_)
            ·
              have jc_92 := il_le c_92
              exact J157 Hh_63 Lh_63 Bh_63 ls (lv_sub hl [0] rfl)
            ·
              have jc_92 := il_nle c_92
              refine lv_aload_n hx hb dX6_advance_107 rfl (lv_at hl 0 rfl) (hp_n (n := 108) rfl ?_)
              refine q_geti (κ := 7) (k := 3) (φ := 353) (pc' := 111) C Bh_63 (cw_k Bh_63.2.2 k0) fl_X6_22 rfl rfl rfl dX6_advance_108 rfl (fun x_93 ex_93 => ?_)
              refine lv_iconst (v := 1) hx hb dX6_advance_111 (by decide) (hp_n (n := 112) rfl ?_)
              have J123 : ∀ (Hh_94 : Heap) (Lh_94 : List Loc) (Bh_94 : hp_B Γ (cw w_X6_advance) s α αh_63 Hh_94 Lh_94) (ls : Array Slot) (hl : lv_has ls 2 [(0, .ref a0), (1, .int v1_h_63)]), W p l e (hp_rm 1 0 0) s m ([.ref a0] : List Value).toArray below meth c Hh_94 Lh_94 0 0 (MQ below (hp_Qv Γ (fun β => cw w_X6_advance α β)) ([.ref a0] : List Value).toArray s 0 0 (hp_A Γ)) (F0 m 123 ls []) := by
                intro Hh_94 Lh_94 Bh_94 ls hl
                refine lv_aload_n hx hb dX6_advance_123 rfl (lv_at hl 0 rfl) (hp_n (n := 124) rfl ?_)
                refine lv_aload_n hx hb dX6_advance_124 rfl (lv_at hl 0 rfl) (hp_n (n := 125) rfl ?_)
                refine q_geti (κ := 7) (k := 2) (φ := 352) (pc' := 128) C Bh_94 (cw_k Bh_94.2.2 k0) fl_X6_19 rfl rfl rfl dX6_advance_125 rfl (fun x_95 ex_95 => ?_)
                refine q_ci (pc' := 131) Bh_94 (hp_runV (As := [.int x_95]) (rest := []) C Bh_94 (t_X6_byteAt Γ l αh_63 Bh_94.2.2.1 a0 (cw_k Bh_94.2.2 k0) x_95) lb_X6_byteAt lv_X6_byteAt lk_X6_43 (cw_k Bh_94.2.2 k0) rfl (by decide) rfl hl.1 rfl (Nat.le_of_ble_eq_true rfl) dX6_advance_128 ⟨Nat.le_refl _, Nat.le_refl _⟩) (fun _ _ h => by rw [h]; exact Bh_94.2.2) rfl (fun rh_96 αh_96 Hh_96 Lh_96 ph_96 Bh_96 => ?_)
                rw [ph_96] at Bh_96
                refine q_ci (pc' := 134) Bh_96 (hp_runS (As := [.int rh_96]) (rest := []) C Bh_96 (t_X6_kindOf Γ l αh_63 Bh_96.2.2.1 rh_96) lb_X6_kindOf ls_X6_kindOf lk_X6_51 rfl (by decide) rfl hl.1 rfl (Nat.le_of_ble_eq_true rfl) dX6_advance_131 ⟨Nat.le_refl _, Nat.le_refl _⟩) (fun _ _ h => by rw [h]; exact Bh_96.2.2) rfl (fun rh_97 αh_97 Hh_97 Lh_97 ph_97 Bh_97 => ?_)
                rw [ph_97] at Bh_97
                refine lv_aload_n hx hb dX6_advance_134 rfl (lv_at hl 0 rfl) (hp_n (n := 135) rfl ?_)
                refine q_getj (κ := 7) (k := 3) (φ := 353) (pc' := 138) C Bh_97 (cw_k Bh_97.2.2 k0) fl_X6_22 rfl rfl rfl ex_93 dX6_advance_135 rfl ?_
                refine lv_icmp_ne (tgt := 157) hx hb dX6_advance_138 (by decide) (fun c_98 => ?_) (fun c_98 => hp_n (n := 141) rfl ?_)
                ·
                  have jc_98 := il_ne c_98
                  exact J157 Hh_97 Lh_97 Bh_97 ls (lv_sub hl [0] rfl)
                ·
                  have jc_98 := il_eq c_98
                  refine lv_aload_n hx hb dX6_advance_141 rfl (lv_at hl 0 rfl) (hp_n (n := 142) rfl ?_)
                  refine lv_dup hx hb dX6_advance_142 rfl (hp_n (n := 143) rfl ?_)
                  refine q_getj (κ := 7) (k := 2) (φ := 352) (pc' := 146) C Bh_97 (cw_k Bh_97.2.2 k0) fl_X6_19 rfl rfl rfl ex_95 dX6_advance_143 rfl ?_
                  refine lv_iconst (v := 1) hx hb dX6_advance_146 (by decide) (hp_n (n := 147) rfl ?_)
                  refine lv_iadd hx hb dX6_advance_147 (hp_n (n := 148) rfl (lv_topi (fun x_99 ex_99 => ?_)))
                  refine q_puti (κ := 7) (k := 2) (φ := 352) (pc' := 151) C Bh_97 (cw_k Bh_97.2.2 k0) fl_X6_19 rfl rfl rfl rfl rfl rfl (cw_sI Bh_97.2.2 (by decide) (fun h => absurd h (by decide))) dX6_advance_148 rfl (fun αh_100 Hh_100 Lh_100 eh_100 Bh_100 => ?_)
                  obtain ⟨x_101, ex_101⟩ : ∃ y : Int32, y = v1_h_63 + 1 := ⟨_, rfl⟩
                  have qx_101 : x_101.toInt = v1_h_63.toInt + 1 := by have qa := ib_lo v1_h_63; rw [ex_101]; exact ii_add (by omega) (by omega)
                  refine lv_iinc (v := x_101) (lv' := [(1, .int x_101), (0, .ref a0)]) hx hb dX6_advance_151 hl (k := 1) rfl (by rw [ex_101]; rfl) (by decide) rfl (fun ls hl => hp_n (n := 154) rfl ?_)
                  refine lv_goto (tgt := 100) hx hb dX6_advance_154 (by decide) ?_
                  exact ih100 _ (by have qa := ib_hi v1_h_63; have qb := ib_lo v1_h_63; have qc : (v1_h_63 + 1).toInt = v1_h_63.toInt + (1 : Int32).toInt := ii_add (by omega) (by omega); rw [ex_101]; omega) αh_100 Hh_100 Lh_100 Bh_100 x_101 (by omega) ls (lv_sub hl [1, 0] rfl) rfl
              refine lv_icmp_eq (tgt := 123) hx hb dX6_advance_112 (by decide) (fun c_102 => ?_) (fun c_102 => hp_n (n := 115) rfl ?_)
              ·
                have jc_102 := il_eq c_102
                exact J123 Hh_63 Lh_63 Bh_63 ls (lv_sub hl [0, 1] rfl)
              ·
                have jc_102 := il_ne c_102
                refine lv_aload_n hx hb dX6_advance_115 rfl (lv_at hl 0 rfl) (hp_n (n := 116) rfl ?_)
                refine q_getj (κ := 7) (k := 3) (φ := 353) (pc' := 119) C Bh_63 (cw_k Bh_63.2.2 k0) fl_X6_22 rfl rfl rfl ex_93 dX6_advance_116 rfl ?_
                refine lv_iconst (v := 2) hx hb dX6_advance_119 (by decide) (hp_n (n := 120) rfl ?_)
                refine lv_icmp_ne (tgt := 157) hx hb dX6_advance_120 (by decide) (fun c_103 => ?_) (fun c_103 => hp_n (n := 123) rfl ?_)
                ·
                  have jc_103 := il_ne c_103
                  exact J157 Hh_63 Lh_63 Bh_63 ls (lv_sub hl [0] rfl)
                ·
                  have jc_103 := il_eq c_103
                  exact J123 Hh_63 Lh_63 Bh_63 ls (lv_sub hl [0, 1] rfl)
          refine lv_istore_n (lv' := [(1, .int 0), (0, .ref a0)]) hx hb dX6_advance_99 rfl hl (by decide) rfl (fun ls hl => hp_n (n := 100) rfl ?_)
          exact J100 _ αh_62 Hh_62 Lh_62 Bh_62 0 (by omega) ls (lv_sub hl [1, 0] rfl) rfl
        ·
          have jc_60 := il_eq c_60
          refine lv_iconst (v := 0) hx hb dX6_advance_89 (by decide) (hp_n (n := 90) rfl ?_)
          refine lv_goto (tgt := 94) hx hb dX6_advance_90 (by decide) ?_
          refine lv_iadd hx hb dX6_advance_94 (hp_n (n := 95) rfl (lv_topi (fun x_104 ex_104 => ?_)))
          refine q_puti (κ := 7) (k := 2) (φ := 352) (pc' := 98) C Bh_57 (cw_k Bh_57.2.2 k0) fl_X6_19 rfl rfl rfl rfl rfl rfl (cw_sI Bh_57.2.2 (by decide) (fun h => absurd h (by decide))) dX6_advance_95 rfl (fun αh_105 Hh_105 Lh_105 eh_105 Bh_105 => ?_)
          refine lv_iconst (v := 0) hx hb dX6_advance_98 (by decide) (hp_n (n := 99) rfl ?_)
          have J100 : ∀ (nq : Nat) (αh_106 : hp_T) (Hh_106 : Heap) (Lh_106 : List Loc) (Bh_106 : hp_B Γ (cw w_X6_advance) s α αh_106 Hh_106 Lh_106) (v1_h_106 : Int32) (ih_106_0 : 0 ≤ v1_h_106.toInt) (ls : Array Slot) (hl : lv_has ls 2 [(0, .ref a0), (1, .int v1_h_106)]) (hmu100 : (2147483647 - v1_h_106.toInt).toNat = nq), W p l e (hp_rm 1 0 0) s m ([.ref a0] : List Value).toArray below meth c Hh_106 Lh_106 0 0 (MQ below (hp_Qv Γ (fun β => cw w_X6_advance α β)) ([.ref a0] : List Value).toArray s 0 0 (hp_A Γ)) (F0 m 100 ls []) := by
            intro nq
            induction nq using Nat.strongRecOn with
            | ind nq ih100 =>
            intro αh_106 Hh_106 Lh_106 Bh_106 v1_h_106 ih_106_0 ls hl hmu100
            have inv100_0 := ih_106_0
            refine lv_iload_n hx hb dX6_advance_100 rfl (lv_at hl 1 rfl) (hp_n (n := 101) rfl ?_)
            refine lv_sipush (v := 900) hx hb dX6_advance_101 (by decide) (hp_n (n := 104) rfl ?_)
            have J157 : ∀ (Hh_107 : Heap) (Lh_107 : List Loc) (Bh_107 : hp_B Γ (cw w_X6_advance) s α αh_106 Hh_107 Lh_107) (ls : Array Slot) (hl : lv_has ls 2 [(0, .ref a0)]), W p l e (hp_rm 1 0 0) s m ([.ref a0] : List Value).toArray below meth c Hh_107 Lh_107 0 0 (MQ below (hp_Qv Γ (fun β => cw w_X6_advance α β)) ([.ref a0] : List Value).toArray s 0 0 (hp_A Γ)) (F0 m 157 ls []) := by
              intro Hh_107 Lh_107 Bh_107 ls hl
              refine lv_aload_n hx hb dX6_advance_157 rfl (lv_at hl 0 rfl) (hp_n (n := 158) rfl ?_)
              refine lv_aload_n hx hb dX6_advance_158 rfl (lv_at hl 0 rfl) (hp_n (n := 159) rfl ?_)
              refine q_geti (κ := 7) (k := 2) (φ := 352) (pc' := 162) C Bh_107 (cw_k Bh_107.2.2 k0) fl_X6_19 rfl rfl rfl dX6_advance_159 rfl (fun x_108 ex_108 => ?_)
              refine lv_aload_n hx hb dX6_advance_162 rfl (lv_at hl 0 rfl) (hp_n (n := 163) rfl ?_)
              refine q_geti (κ := 7) (k := 4) (φ := 354) (pc' := 166) C Bh_107 (cw_k Bh_107.2.2 k0) fl_X6_25 rfl rfl rfl dX6_advance_163 rfl (fun x_109 ex_109 => ?_)
              refine lv_isub hx hb dX6_advance_166 (hp_n (n := 167) rfl (lv_topi (fun x_110 ex_110 => ?_)))
              refine q_puti (κ := 7) (k := 5) (φ := 355) (pc' := 170) C Bh_107 (cw_k Bh_107.2.2 k0) fl_X6_28 rfl rfl rfl rfl rfl rfl (cw_sI Bh_107.2.2 (by decide) (fun h => absurd h (by decide))) dX6_advance_167 rfl (fun αh_111 Hh_111 Lh_111 eh_111 Bh_111 => ?_)
              refine lv_aload_n hx hb dX6_advance_170 rfl (lv_at hl 0 rfl) (hp_n (n := 171) rfl ?_)
              refine lv_iconst (v := 0) hx hb dX6_advance_171 (by decide) (hp_n (n := 172) rfl ?_)
              refine q_puti (κ := 7) (k := 6) (φ := 356) (pc' := 175) C Bh_111 (cw_k Bh_111.2.2 k0) fl_X6_31 rfl rfl rfl rfl rfl rfl (cw_sI Bh_111.2.2 (by decide) (fun h => absurd h (by decide))) dX6_advance_172 rfl (fun αh_112 Hh_112 Lh_112 eh_112 Bh_112 => ?_)
              refine lv_iconst (v := 0) hx hb dX6_advance_175 (by decide) (hp_n (n := 176) rfl ?_)
              have J177 : ∀ (nq : Nat) (αh_113 : hp_T) (Hh_113 : Heap) (Lh_113 : List Loc) (Bh_113 : hp_B Γ (cw w_X6_advance) s α αh_113 Hh_113 Lh_113) (v1_h_113 : Int32) (ih_113_0 : 0 ≤ v1_h_113.toInt) (ls : Array Slot) (hl : lv_has ls 2 [(0, .ref a0), (1, .int v1_h_113)]) (hmu177 : (2147483647 - v1_h_113.toInt).toNat = nq), W p l e (hp_rm 1 0 0) s m ([.ref a0] : List Value).toArray below meth c Hh_113 Lh_113 0 0 (MQ below (hp_Qv Γ (fun β => cw w_X6_advance α β)) ([.ref a0] : List Value).toArray s 0 0 (hp_A Γ)) (F0 m 177 ls []) := by
                intro nq
                induction nq using Nat.strongRecOn with
                | ind nq ih177 =>
                intro αh_113 Hh_113 Lh_113 Bh_113 v1_h_113 ih_113_0 ls hl hmu177
                have inv177_0 := ih_113_0
                refine lv_iload_n hx hb dX6_advance_177 rfl (lv_at hl 1 rfl) (hp_n (n := 178) rfl ?_)
                refine lv_aload_n hx hb dX6_advance_178 rfl (lv_at hl 0 rfl) (hp_n (n := 179) rfl ?_)
                refine q_geti (κ := 7) (k := 5) (φ := 355) (pc' := 182) C Bh_113 (cw_k Bh_113.2.2 k0) fl_X6_28 rfl rfl rfl dX6_advance_179 rfl (fun x_114 ex_114 => ?_)
                have J229 : ∀ (Hh_115 : Heap) (Lh_115 : List Loc) (Bh_115 : hp_B Γ (cw w_X6_advance) s α αh_113 Hh_115 Lh_115) (ls : Array Slot) (hl : lv_has ls 2 [(0, .ref a0)]), W p l e (hp_rm 1 0 0) s m ([.ref a0] : List Value).toArray below meth c Hh_115 Lh_115 0 0 (MQ below (hp_Qv Γ (fun β => cw w_X6_advance α β)) ([.ref a0] : List Value).toArray s 0 0 (hp_A Γ)) (F0 m 229 ls []) := by
                  intro Hh_115 Lh_115 Bh_115 ls hl
                  refine lv_aload_n hx hb dX6_advance_229 rfl (lv_at hl 0 rfl) (hp_n (n := 230) rfl ?_)
                  refine lv_aload_n hx hb dX6_advance_230 rfl (lv_at hl 0 rfl) (hp_n (n := 231) rfl ?_)
                  refine q_geti (κ := 7) (k := 3) (φ := 353) (pc' := 234) C Bh_115 (cw_k Bh_115.2.2 k0) fl_X6_22 rfl rfl rfl dX6_advance_231 rfl (fun x_116 ex_116 => ?_)
                  refine lv_iconst (v := 2) hx hb dX6_advance_234 (by decide) (hp_n (n := 235) rfl ?_)
                  refine lv_icmp_ne (tgt := 250) hx hb dX6_advance_235 (by decide) (fun c_117 => ?_) (fun c_117 => hp_n (n := 238) rfl ?_)
                  ·
                    have jc_117 := il_ne c_117
                    refine lv_aload_n hx hb dX6_advance_250 rfl (lv_at hl 0 rfl) (hp_n (n := 251) rfl ?_)
                    refine q_getj (κ := 7) (k := 3) (φ := 353) (pc' := 254) C Bh_115 (cw_k Bh_115.2.2 k0) fl_X6_22 rfl rfl rfl ex_116 dX6_advance_251 rfl ?_
                    refine q_puti (κ := 7) (k := 3) (φ := 353) (pc' := 257) C Bh_115 (cw_k Bh_115.2.2 k0) fl_X6_22 rfl rfl rfl rfl rfl rfl (cw_sI Bh_115.2.2 (by decide) (fun h => absurd h (by decide))) dX6_advance_254 rfl (fun αh_118 Hh_118 Lh_118 eh_118 Bh_118 => ?_)
                    exact q_vret C Bh_118 hr hlk Bh_118.2.2 dX6_advance_257
                  ·
                    have jc_117 := il_eq c_117
                    refine lv_aload_n hx hb dX6_advance_238 rfl (lv_at hl 0 rfl) (hp_n (n := 239) rfl ?_)
                    refine q_getj (κ := 7) (k := 5) (φ := 355) (pc' := 242) C Bh_115 (cw_k Bh_115.2.2 k0) fl_X6_28 rfl rfl rfl ex_114 dX6_advance_239 rfl ?_
                    refine lv_iconst (v := 5) hx hb dX6_advance_242 (by decide) (hp_n (n := 243) rfl ?_)
                    refine lv_icmp_le (tgt := 250) hx hb dX6_advance_243 (by decide) (fun c_119 => ?_) (fun c_119 => hp_n (n := 246) rfl ?_)
                    ·
                      have jc_119 := il_le c_119
                      refine lv_aload_n hx hb dX6_advance_250 rfl (lv_at hl 0 rfl) (hp_n (n := 251) rfl ?_)
                      refine q_getj (κ := 7) (k := 3) (φ := 353) (pc' := 254) C Bh_115 (cw_k Bh_115.2.2 k0) fl_X6_22 rfl rfl rfl ex_116 dX6_advance_251 rfl ?_
                      refine q_puti (κ := 7) (k := 3) (φ := 353) (pc' := 257) C Bh_115 (cw_k Bh_115.2.2 k0) fl_X6_22 rfl rfl rfl rfl rfl rfl (cw_sI Bh_115.2.2 (by decide) (fun h => absurd h (by decide))) dX6_advance_254 rfl (fun αh_120 Hh_120 Lh_120 eh_120 Bh_120 => ?_)
                      exact q_vret C Bh_120 hr hlk Bh_120.2.2 dX6_advance_257
                    ·
                      have jc_119 := il_nle c_119
                      refine lv_iconst (v := 4) hx hb dX6_advance_246 (by decide) (hp_n (n := 247) rfl ?_)
                      refine lv_goto (tgt := 254) hx hb dX6_advance_247 (by decide) ?_
                      refine q_puti (κ := 7) (k := 3) (φ := 353) (pc' := 257) C Bh_115 (cw_k Bh_115.2.2 k0) fl_X6_22 rfl rfl rfl rfl rfl rfl (cw_sI Bh_115.2.2 (by decide) (fun h => absurd h (by decide))) dX6_advance_254 rfl (fun αh_121 Hh_121 Lh_121 eh_121 Bh_121 => ?_)
                      exact q_vret C Bh_121 hr hlk Bh_121.2.2 dX6_advance_257
                refine lv_icmp_ge (tgt := 229) hx hb dX6_advance_182 (by decide) (fun c_122 => ?_) (fun c_122 => hp_n (n := 185) rfl ?_)
                ·
                  have jc_122 := il_le c_122
                  exact J229 Hh_113 Lh_113 Bh_113 ls (lv_sub hl [0] rfl)
                ·
                  have jc_122 := il_nle c_122
                  refine lv_iload_n hx hb dX6_advance_185 rfl (lv_at hl 1 rfl) (hp_n (n := 186) rfl ?_)
                  refine lv_iconst (v := 5) hx hb dX6_advance_186 (by decide) (hp_n (n := 187) rfl ?_)
                  refine lv_icmp_ge (tgt := 229) hx hb dX6_advance_187 (by decide) (fun c_123 => ?_) (fun c_123 => hp_n (n := 190) rfl ?_)
                  ·
                    have jc_123 := il_le c_123
                    exact J229 Hh_113 Lh_113 Bh_113 ls (lv_sub hl [0] rfl)
                  ·
                    have jc_123 := il_nle c_123
                    refine lv_aload_n hx hb dX6_advance_190 rfl (lv_at hl 0 rfl) (hp_n (n := 191) rfl ?_)
                    refine q_geti (κ := 7) (k := 3) (φ := 353) (pc' := 194) C Bh_113 (cw_k Bh_113.2.2 k0) fl_X6_22 rfl rfl rfl dX6_advance_191 rfl (fun x_124 ex_124 => ?_)
                    refine lv_iconst (v := 2) hx hb dX6_advance_194 (by decide) (hp_n (n := 195) rfl ?_)
                    refine lv_icmp_ne (tgt := 229) hx hb dX6_advance_195 (by decide) (fun c_125 => ?_) (fun c_125 => hp_n (n := 198) rfl ?_)
                    ·
                      have jc_125 := il_ne c_125
                      exact J229 Hh_113 Lh_113 Bh_113 ls (lv_sub hl [0] rfl)
                    ·
                      have jc_125 := il_eq c_125
                      refine lv_aload_n hx hb dX6_advance_198 rfl (lv_at hl 0 rfl) (hp_n (n := 199) rfl ?_)
                      refine lv_bipush (v := 10) hx hb dX6_advance_199 (by decide) (hp_n (n := 201) rfl ?_)
                      refine lv_aload_n hx hb dX6_advance_201 rfl (lv_at hl 0 rfl) (hp_n (n := 202) rfl ?_)
                      refine q_geti (κ := 7) (k := 6) (φ := 356) (pc' := 205) C Bh_113 (cw_k Bh_113.2.2 k0) fl_X6_31 rfl rfl rfl dX6_advance_202 rfl (fun x_126 ex_126 => ?_)
                      refine lv_imul hx hb dX6_advance_205 (hp_n (n := 206) rfl (lv_topi (fun x_127 ex_127 => ?_)))
                      refine lv_aload_n hx hb dX6_advance_206 rfl (lv_at hl 0 rfl) (hp_n (n := 207) rfl ?_)
                      refine lv_aload_n hx hb dX6_advance_207 rfl (lv_at hl 0 rfl) (hp_n (n := 208) rfl ?_)
                      refine q_geti (κ := 7) (k := 4) (φ := 354) (pc' := 211) C Bh_113 (cw_k Bh_113.2.2 k0) fl_X6_25 rfl rfl rfl dX6_advance_208 rfl (fun x_128 ex_128 => ?_)
                      refine lv_iload_n hx hb dX6_advance_211 rfl (lv_at hl 1 rfl) (hp_n (n := 212) rfl ?_)
                      refine lv_iadd hx hb dX6_advance_212 (hp_n (n := 213) rfl (lv_topi (fun x_129 ex_129 => ?_)))
                      refine q_ci (pc' := 216) Bh_113 (hp_runV (As := [.int x_129]) (rest := [.int x_127, .ref a0]) C Bh_113 (t_X6_byteAt Γ l αh_113 Bh_113.2.2.1 a0 (cw_k Bh_113.2.2 k0) x_129) lb_X6_byteAt lv_X6_byteAt lk_X6_43 (cw_k Bh_113.2.2 k0) rfl (by decide) rfl hl.1 rfl (Nat.le_of_ble_eq_true rfl) dX6_advance_213 ⟨Nat.le_refl _, Nat.le_refl _⟩) (fun _ _ h => by rw [h]; exact Bh_113.2.2) rfl (fun rh_130 αh_130 Hh_130 Lh_130 ph_130 Bh_130 => ?_)
                      rw [ph_130] at Bh_130
                      refine lv_iadd hx hb dX6_advance_216 (hp_n (n := 217) rfl (lv_topi (fun x_131 ex_131 => ?_)))
                      refine lv_bipush (v := 48) hx hb dX6_advance_217 (by decide) (hp_n (n := 219) rfl ?_)
                      refine lv_isub hx hb dX6_advance_219 (hp_n (n := 220) rfl (lv_topi (fun x_132 ex_132 => ?_)))
                      refine q_puti (κ := 7) (k := 6) (φ := 356) (pc' := 223) C Bh_130 (cw_k Bh_130.2.2 k0) fl_X6_31 rfl rfl rfl rfl rfl rfl (cw_sI Bh_130.2.2 (by decide) (fun h => absurd h (by decide))) dX6_advance_220 rfl (fun αh_133 Hh_133 Lh_133 eh_133 Bh_133 => ?_)
                      obtain ⟨x_134, ex_134⟩ : ∃ y : Int32, y = v1_h_113 + 1 := ⟨_, rfl⟩
                      have qx_134 : x_134.toInt = v1_h_113.toInt + 1 := by have q0 := ib_hi x_114; have qa := ib_lo v1_h_113; rw [ex_134]; exact ii_add (by omega) (by omega)
                      refine lv_iinc (v := x_134) (lv' := [(1, .int x_134), (0, .ref a0)]) hx hb dX6_advance_223 hl (k := 1) rfl (by rw [ex_134]; rfl) (by decide) rfl (fun ls hl => hp_n (n := 226) rfl ?_)
                      refine lv_goto (tgt := 177) hx hb dX6_advance_226 (by decide) ?_
                      exact ih177 _ (by have q0 := ib_hi x_114; have q1 := ib_lo x_114; have qa := ib_hi v1_h_113; have qb := ib_lo v1_h_113; have qc : (v1_h_113 + 1).toInt = v1_h_113.toInt + (1 : Int32).toInt := ii_add (by omega) (by omega); rw [ex_134]; omega) αh_133 Hh_133 Lh_133 Bh_133 x_134 (by omega) ls (lv_sub hl [1, 0] rfl) rfl
              refine lv_istore_n (lv' := [(1, .int 0), (0, .ref a0)]) hx hb dX6_advance_176 rfl hl (by decide) rfl (fun ls hl => hp_n (n := 177) rfl ?_)
              exact J177 _ αh_112 Hh_112 Lh_112 Bh_112 0 (by omega) ls (lv_sub hl [1, 0] rfl) rfl
            refine lv_icmp_ge (tgt := 157) hx hb dX6_advance_104 (by decide) (fun c_135 => ?_) (fun c_135 => hp_n (n := 107) rfl ?_)
            ·
              have jc_135 := il_le c_135
              exact J157 Hh_106 Lh_106 Bh_106 ls (lv_sub hl [0] rfl)
            ·
              have jc_135 := il_nle c_135
              refine lv_aload_n hx hb dX6_advance_107 rfl (lv_at hl 0 rfl) (hp_n (n := 108) rfl ?_)
              refine q_geti (κ := 7) (k := 3) (φ := 353) (pc' := 111) C Bh_106 (cw_k Bh_106.2.2 k0) fl_X6_22 rfl rfl rfl dX6_advance_108 rfl (fun x_136 ex_136 => ?_)
              refine lv_iconst (v := 1) hx hb dX6_advance_111 (by decide) (hp_n (n := 112) rfl ?_)
              have J123 : ∀ (Hh_137 : Heap) (Lh_137 : List Loc) (Bh_137 : hp_B Γ (cw w_X6_advance) s α αh_106 Hh_137 Lh_137) (ls : Array Slot) (hl : lv_has ls 2 [(0, .ref a0), (1, .int v1_h_106)]), W p l e (hp_rm 1 0 0) s m ([.ref a0] : List Value).toArray below meth c Hh_137 Lh_137 0 0 (MQ below (hp_Qv Γ (fun β => cw w_X6_advance α β)) ([.ref a0] : List Value).toArray s 0 0 (hp_A Γ)) (F0 m 123 ls []) := by
                intro Hh_137 Lh_137 Bh_137 ls hl
                refine lv_aload_n hx hb dX6_advance_123 rfl (lv_at hl 0 rfl) (hp_n (n := 124) rfl ?_)
                refine lv_aload_n hx hb dX6_advance_124 rfl (lv_at hl 0 rfl) (hp_n (n := 125) rfl ?_)
                refine q_geti (κ := 7) (k := 2) (φ := 352) (pc' := 128) C Bh_137 (cw_k Bh_137.2.2 k0) fl_X6_19 rfl rfl rfl dX6_advance_125 rfl (fun x_138 ex_138 => ?_)
                refine q_ci (pc' := 131) Bh_137 (hp_runV (As := [.int x_138]) (rest := []) C Bh_137 (t_X6_byteAt Γ l αh_106 Bh_137.2.2.1 a0 (cw_k Bh_137.2.2 k0) x_138) lb_X6_byteAt lv_X6_byteAt lk_X6_43 (cw_k Bh_137.2.2 k0) rfl (by decide) rfl hl.1 rfl (Nat.le_of_ble_eq_true rfl) dX6_advance_128 ⟨Nat.le_refl _, Nat.le_refl _⟩) (fun _ _ h => by rw [h]; exact Bh_137.2.2) rfl (fun rh_139 αh_139 Hh_139 Lh_139 ph_139 Bh_139 => ?_)
                rw [ph_139] at Bh_139
                refine q_ci (pc' := 134) Bh_139 (hp_runS (As := [.int rh_139]) (rest := []) C Bh_139 (t_X6_kindOf Γ l αh_106 Bh_139.2.2.1 rh_139) lb_X6_kindOf ls_X6_kindOf lk_X6_51 rfl (by decide) rfl hl.1 rfl (Nat.le_of_ble_eq_true rfl) dX6_advance_131 ⟨Nat.le_refl _, Nat.le_refl _⟩) (fun _ _ h => by rw [h]; exact Bh_139.2.2) rfl (fun rh_140 αh_140 Hh_140 Lh_140 ph_140 Bh_140 => ?_)
                rw [ph_140] at Bh_140
                refine lv_aload_n hx hb dX6_advance_134 rfl (lv_at hl 0 rfl) (hp_n (n := 135) rfl ?_)
                refine q_getj (κ := 7) (k := 3) (φ := 353) (pc' := 138) C Bh_140 (cw_k Bh_140.2.2 k0) fl_X6_22 rfl rfl rfl ex_136 dX6_advance_135 rfl ?_
                refine lv_icmp_ne (tgt := 157) hx hb dX6_advance_138 (by decide) (fun c_141 => ?_) (fun c_141 => hp_n (n := 141) rfl ?_)
                ·
                  have jc_141 := il_ne c_141
                  exact J157 Hh_140 Lh_140 Bh_140 ls (lv_sub hl [0] rfl)
                ·
                  have jc_141 := il_eq c_141
                  refine lv_aload_n hx hb dX6_advance_141 rfl (lv_at hl 0 rfl) (hp_n (n := 142) rfl ?_)
                  refine lv_dup hx hb dX6_advance_142 rfl (hp_n (n := 143) rfl ?_)
                  refine q_getj (κ := 7) (k := 2) (φ := 352) (pc' := 146) C Bh_140 (cw_k Bh_140.2.2 k0) fl_X6_19 rfl rfl rfl ex_138 dX6_advance_143 rfl ?_
                  refine lv_iconst (v := 1) hx hb dX6_advance_146 (by decide) (hp_n (n := 147) rfl ?_)
                  refine lv_iadd hx hb dX6_advance_147 (hp_n (n := 148) rfl (lv_topi (fun x_142 ex_142 => ?_)))
                  refine q_puti (κ := 7) (k := 2) (φ := 352) (pc' := 151) C Bh_140 (cw_k Bh_140.2.2 k0) fl_X6_19 rfl rfl rfl rfl rfl rfl (cw_sI Bh_140.2.2 (by decide) (fun h => absurd h (by decide))) dX6_advance_148 rfl (fun αh_143 Hh_143 Lh_143 eh_143 Bh_143 => ?_)
                  obtain ⟨x_144, ex_144⟩ : ∃ y : Int32, y = v1_h_106 + 1 := ⟨_, rfl⟩
                  have qx_144 : x_144.toInt = v1_h_106.toInt + 1 := by have qa := ib_lo v1_h_106; rw [ex_144]; exact ii_add (by omega) (by omega)
                  refine lv_iinc (v := x_144) (lv' := [(1, .int x_144), (0, .ref a0)]) hx hb dX6_advance_151 hl (k := 1) rfl (by rw [ex_144]; rfl) (by decide) rfl (fun ls hl => hp_n (n := 154) rfl ?_)
                  refine lv_goto (tgt := 100) hx hb dX6_advance_154 (by decide) ?_
                  exact ih100 _ (by have qa := ib_hi v1_h_106; have qb := ib_lo v1_h_106; have qc : (v1_h_106 + 1).toInt = v1_h_106.toInt + (1 : Int32).toInt := ii_add (by omega) (by omega); rw [ex_144]; omega) αh_143 Hh_143 Lh_143 Bh_143 x_144 (by omega) ls (lv_sub hl [1, 0] rfl) rfl
              refine lv_icmp_eq (tgt := 123) hx hb dX6_advance_112 (by decide) (fun c_145 => ?_) (fun c_145 => hp_n (n := 115) rfl ?_)
              ·
                have jc_145 := il_eq c_145
                exact J123 Hh_106 Lh_106 Bh_106 ls (lv_sub hl [0, 1] rfl)
              ·
                have jc_145 := il_ne c_145
                refine lv_aload_n hx hb dX6_advance_115 rfl (lv_at hl 0 rfl) (hp_n (n := 116) rfl ?_)
                refine q_getj (κ := 7) (k := 3) (φ := 353) (pc' := 119) C Bh_106 (cw_k Bh_106.2.2 k0) fl_X6_22 rfl rfl rfl ex_136 dX6_advance_116 rfl ?_
                refine lv_iconst (v := 2) hx hb dX6_advance_119 (by decide) (hp_n (n := 120) rfl ?_)
                refine lv_icmp_ne (tgt := 157) hx hb dX6_advance_120 (by decide) (fun c_146 => ?_) (fun c_146 => hp_n (n := 123) rfl ?_)
                ·
                  have jc_146 := il_ne c_146
                  exact J157 Hh_106 Lh_106 Bh_106 ls (lv_sub hl [0] rfl)
                ·
                  have jc_146 := il_eq c_146
                  exact J123 Hh_106 Lh_106 Bh_106 ls (lv_sub hl [0, 1] rfl)
          refine lv_istore_n (lv' := [(1, .int 0), (0, .ref a0)]) hx hb dX6_advance_99 rfl hl (by decide) rfl (fun ls hl => hp_n (n := 100) rfl ?_)
          exact J100 _ αh_105 Hh_105 Lh_105 Bh_105 0 (by omega) ls (lv_sub hl [1, 0] rfl) rfl
    refine lv_icmp_ge (tgt := 39) hx hb dX6_advance_6 (by decide) (fun c_147 => ?_) (fun c_147 => hp_n (n := 9) rfl ?_)
    ·
      have jc_147 := il_le c_147
      exact J39 Hh_1 Lh_1 Bh_1 ls (lv_sub hl [0] rfl)
    ·
      have jc_147 := il_nle c_147
      refine lv_aload_n hx hb dX6_advance_9 rfl (lv_at hl 0 rfl) (hp_n (n := 10) rfl ?_)
      refine lv_aload_n hx hb dX6_advance_10 rfl (lv_at hl 0 rfl) (hp_n (n := 11) rfl ?_)
      refine q_geti (κ := 7) (k := 2) (φ := 352) (pc' := 14) C Bh_1 (cw_k Bh_1.2.2 k0) fl_X6_19 rfl rfl rfl dX6_advance_11 rfl (fun x_148 ex_148 => ?_)
      refine q_ci (pc' := 17) Bh_1 (hp_runV (As := [.int x_148]) (rest := []) C Bh_1 (t_X6_byteAt Γ l αh_1 Bh_1.2.2.1 a0 (cw_k Bh_1.2.2 k0) x_148) lb_X6_byteAt lv_X6_byteAt lk_X6_43 (cw_k Bh_1.2.2 k0) rfl (by decide) rfl hl.1 rfl (Nat.le_of_ble_eq_true rfl) dX6_advance_14 ⟨Nat.le_refl _, Nat.le_refl _⟩) (fun _ _ h => by rw [h]; exact Bh_1.2.2) rfl (fun rh_149 αh_149 Hh_149 Lh_149 ph_149 Bh_149 => ?_)
      rw [ph_149] at Bh_149
      refine q_ci (pc' := 20) Bh_149 (hp_runS (As := [.int rh_149]) (rest := []) C Bh_149 (t_X6_isBlank Γ l αh_1 Bh_149.2.2.1 rh_149) lb_X6_isBlank ls_X6_isBlank lk_X6_47 rfl (by decide) rfl hl.1 rfl (Nat.le_of_ble_eq_true rfl) dX6_advance_17 ⟨Nat.le_refl _, Nat.le_refl _⟩) (fun _ _ h => by rw [h.1]; exact Bh_149.2.2) rfl (fun rh_150 αh_150 Hh_150 Lh_150 ph_150 Bh_150 => ?_)
      rw [ph_150.1] at Bh_150
      have zh_150 := ph_150.2
      refine lv_if_eq (tgt := 39) hx hb dX6_advance_20 (by decide) (fun c_151 => ?_) (fun c_151 => hp_n (n := 23) rfl ?_)
      ·
        have jc_151 := il_eq c_151
        exact J39 Hh_150 Lh_150 Bh_150 ls (lv_sub hl [0] rfl)
      ·
        have jc_151 := il_ne c_151
        refine lv_aload_n hx hb dX6_advance_23 rfl (lv_at hl 0 rfl) (hp_n (n := 24) rfl ?_)
        refine lv_dup hx hb dX6_advance_24 rfl (hp_n (n := 25) rfl ?_)
        refine q_getj (κ := 7) (k := 2) (φ := 352) (pc' := 28) C Bh_150 (cw_k Bh_150.2.2 k0) fl_X6_19 rfl rfl rfl ex_148 dX6_advance_25 rfl ?_
        refine lv_iconst (v := 1) hx hb dX6_advance_28 (by decide) (hp_n (n := 29) rfl ?_)
        refine lv_iadd hx hb dX6_advance_29 (hp_n (n := 30) rfl (lv_topi (fun x_152 ex_152 => ?_)))
        refine q_puti (κ := 7) (k := 2) (φ := 352) (pc' := 33) C Bh_150 (cw_k Bh_150.2.2 k0) fl_X6_19 rfl rfl rfl rfl rfl rfl (cw_sI Bh_150.2.2 (by decide) (fun h => absurd h (by decide))) dX6_advance_30 rfl (fun αh_153 Hh_153 Lh_153 eh_153 Bh_153 => ?_)
        obtain ⟨x_154, ex_154⟩ : ∃ y : Int32, y = v1_h_1 + 1 := ⟨_, rfl⟩
        have qx_154 : x_154.toInt = v1_h_1.toInt + 1 := by have qa := ib_lo v1_h_1; rw [ex_154]; exact ii_add (by omega) (by omega)
        refine lv_iinc (v := x_154) (lv' := [(1, .int x_154), (0, .ref a0)]) hx hb dX6_advance_33 hl (k := 1) rfl (by rw [ex_154]; rfl) (by decide) rfl (fun ls hl => hp_n (n := 36) rfl ?_)
        refine lv_goto (tgt := 2) hx hb dX6_advance_36 (by decide) ?_
        exact ih2 _ (by have qa := ib_hi v1_h_1; have qb := ib_lo v1_h_1; have qc : (v1_h_1 + 1).toInt = v1_h_1.toInt + (1 : Int32).toInt := ii_add (by omega) (by omega); rw [ex_154]; omega) αh_153 Hh_153 Lh_153 Bh_153 x_154 (by omega) ls (lv_sub hl [1, 0] rfl) rfl
  refine lv_istore_n (lv' := [(1, .int 0), (0, .ref a0)]) hx hb dX6_advance_1 rfl hl (by decide) rfl (fun ls hl => hp_n (n := 2) rfl ?_)
  exact J2 _ α s.heap [] B 0 (by omega) ls (lv_sub hl [1, 0] rfl) rfl
abbrev w_X6_spells : cw_W := ([], [], [], [])
set_option maxRecDepth 100000 in
set_option maxHeartbeats 4000000 in
theorem t_X6_spells (Γ : hp_G) (l : Launch) (α : hp_T) (g : GC α) (a0 : Nat) (k0 : hp_K α a0 = 7) (i1 : Nat) (h1 : i1 < 21) : Met l yX6_spells (hp_ws yX6_spells cX6_spells 4 (some .boolean)) (hp_rm 4 0 0) (hp_Pc Γ α [.ref a0, .ref (Γ.2.2.2.2.1 i1)]) (hp_Qi Γ (fun r β => β = α ∧ (r = 0 ∨ r = 1))) 0 0 (hp_A Γ) := by
  refine hp_start (by decide) ?_
  intro p e s m below meth c C hr hlk B0 hnm
  have C : hp_C Γ p m c cX6_spells 4 s ([.ref a0, .ref (Γ.2.2.2.2.1 i1)] : List Value).toArray RX6 := C
  have hx := C.1.1
  have hb := C.1.2.1
  have hown := C.1.2.2.2.1
  have hts := C.1.2.2.2.2
  have B : hp_B Γ (cw w_X6_spells) s α α s.heap [] := ⟨B0.1, B0.2.1, cw_rf g⟩
  have lit0 : (0 : Int32).toInt = 0 := by decide
  have lit1 : (1 : Int32).toInt = 1 := by decide
  have hl := lv_entry ([.ref a0, .ref (Γ.2.2.2.2.1 i1)]) (n := 4) (Nat.le_of_ble_eq_true rfl)
  show W p l e (hp_rm 4 0 0) s m ([.ref a0, .ref (Γ.2.2.2.2.1 i1)] : List Value).toArray below meth c s.heap [] 0 0 (MQ below (hp_Qi Γ (fun r β => β = α ∧ (r = 0 ∨ r = 1))) ([.ref a0, .ref (Γ.2.2.2.2.1 i1)] : List Value).toArray s 0 0 (hp_A Γ)) (entryFrame m ([.ref a0, .ref (Γ.2.2.2.2.1 i1)] : List Value).toArray 4)
  rw [lg_entry_eq]
  generalize (lg_sl ([.ref a0, .ref (Γ.2.2.2.2.1 i1)]) ++ List.replicate (4 - (lg_sl ([.ref a0, .ref (Γ.2.2.2.2.1 i1)])).length) Slot.unset).toArray = ls at hl ⊢
  have hl : lv_has ls 4 [(0, .ref a0), (1, .ref (Γ.2.2.2.2.1 i1))] := hl
  refine lv_aload_n hx hb dX6_spells_0 rfl (lv_at hl 0 rfl) (hp_n (n := 1) rfl ?_)
  refine q_geti (κ := 7) (k := 3) (φ := 353) (pc' := 4) C B (cw_k B.2.2 k0) fl_X6_22 rfl rfl rfl dX6_spells_1 rfl (fun x_1 ex_1 => ?_)
  refine lv_iconst (v := 1) hx hb dX6_spells_4 (by decide) (hp_n (n := 5) rfl ?_)
  refine lv_icmp_ne (tgt := 23) hx hb dX6_spells_5 (by decide) (fun c_2 => ?_) (fun c_2 => hp_n (n := 8) rfl ?_)
  ·
    have jc_2 := il_ne c_2
    refine lv_iconst (v := 0) hx hb dX6_spells_23 (by decide) (hp_n (n := 24) rfl ?_)
    refine lv_istore_n (lv' := [(2, .int 0), (0, .ref a0), (1, .ref (Γ.2.2.2.2.1 i1))]) hx hb dX6_spells_24 rfl hl (by decide) rfl (fun ls hl => hp_n (n := 25) rfl ?_)
    refine lv_iconst (v := 0) hx hb dX6_spells_25 (by decide) (hp_n (n := 26) rfl ?_)
    have J27 : ∀ (nq : Nat) (Hh_3 : Heap) (Lh_3 : List Loc) (Bh_3 : hp_B Γ (cw w_X6_spells) s α α Hh_3 Lh_3) (v2_h_3 : Int32) (zv2_h_3 : v2_h_3 = 0 ∨ v2_h_3 = 1) (v3_h_3 : Int32) (ih_3_0 : 0 ≤ v3_h_3.toInt) (ls : Array Slot) (hl : lv_has ls 4 [(0, .ref a0), (1, .ref (Γ.2.2.2.2.1 i1)), (2, .int v2_h_3), (3, .int v3_h_3)]) (hmu27 : (2147483647 - v3_h_3.toInt).toNat = nq), W p l e (hp_rm 4 0 0) s m ([.ref a0, .ref (Γ.2.2.2.2.1 i1)] : List Value).toArray below meth c Hh_3 Lh_3 0 0 (MQ below (hp_Qi Γ (fun r β => β = α ∧ (r = 0 ∨ r = 1))) ([.ref a0, .ref (Γ.2.2.2.2.1 i1)] : List Value).toArray s 0 0 (hp_A Γ)) (F0 m 27 ls []) := by
      intro nq
      induction nq using Nat.strongRecOn with
      | ind nq ih27 =>
      intro Hh_3 Lh_3 Bh_3 v2_h_3 zv2_h_3 v3_h_3 ih_3_0 ls hl hmu27
      have inv27_0 := ih_3_0
      refine lv_iload_n hx hb dX6_spells_27 rfl (lv_at hl 3 rfl) (hp_n (n := 28) rfl ?_)
      refine lv_aload_n hx hb dX6_spells_28 rfl (lv_at hl 1 rfl) (hp_n (n := 29) rfl ?_)
      refine q_ci (pc' := 32) Bh_3 (hp_runT (i := i1) (As := []) (rest := [.int v3_h_3]) C B0.1 Bh_3 h1 (t_J0_length_8abf5 Γ l α i1 h1) lb_J0_length_8abf5 li_J0_length_8abf5 sx_J0_length_8abf5 rfl lk_X6_54 rfl (by decide) rfl hl.1 rfl (Nat.le_of_ble_eq_true rfl) dX6_spells_29 ⟨Nat.le_refl _, Nat.le_refl _⟩) (fun _ _ h => by rw [h.1]; exact Bh_3.2.2) rfl (fun rh_4 αh_4 Hh_4 Lh_4 ph_4 Bh_4 => ?_)
      rw [ph_4.1] at Bh_4
      have lnh_4 : rh_4.toInt = (hp_len i1).toInt := by rw [ph_4.2]
      refine lv_icmp_ge (tgt := 69) hx hb dX6_spells_32 (by decide) (fun c_5 => ?_) (fun c_5 => hp_n (n := 35) rfl ?_)
      ·
        have jc_5 := il_le c_5
        refine lv_iload_n hx hb dX6_spells_69 rfl (lv_at hl 2 rfl) (hp_n (n := 70) rfl ?_)
        exact q_zret C Bh_4 hr hlk (nz_z zv2_h_3) ⟨rfl, zv2_h_3⟩ dX6_spells_70
      ·
        have jc_5 := il_nle c_5
        refine lv_iload_n hx hb dX6_spells_35 rfl (lv_at hl 2 rfl) (hp_n (n := 36) rfl ?_)
        refine lv_if_eq (tgt := 69) hx hb dX6_spells_36 (by decide) (fun c_6 => ?_) (fun c_6 => hp_n (n := 39) rfl ?_)
        ·
          have jc_6 := il_eq c_6
          refine lv_iload_n hx hb dX6_spells_69 rfl (lv_at hl 2 rfl) (hp_n (n := 70) rfl ?_)
          exact q_zret C Bh_4 hr hlk (nz_z zv2_h_3) ⟨rfl, zv2_h_3⟩ dX6_spells_70
        ·
          have jc_6 := il_ne c_6
          refine lv_aload_n hx hb dX6_spells_39 rfl (lv_at hl 0 rfl) (hp_n (n := 40) rfl ?_)
          refine lv_aload_n hx hb dX6_spells_40 rfl (lv_at hl 0 rfl) (hp_n (n := 41) rfl ?_)
          refine q_geti (κ := 7) (k := 4) (φ := 354) (pc' := 44) C Bh_4 (cw_k Bh_4.2.2 k0) fl_X6_25 rfl rfl rfl dX6_spells_41 rfl (fun x_7 ex_7 => ?_)
          refine lv_iload_n hx hb dX6_spells_44 rfl (lv_at hl 3 rfl) (hp_n (n := 45) rfl ?_)
          refine lv_iadd hx hb dX6_spells_45 (hp_n (n := 46) rfl (lv_topi (fun x_8 ex_8 => ?_)))
          refine q_ci (pc' := 49) Bh_4 (hp_runV (As := [.int x_8]) (rest := []) C Bh_4 (t_X6_byteAt Γ l α Bh_4.2.2.1 a0 (cw_k Bh_4.2.2 k0) x_8) lb_X6_byteAt lv_X6_byteAt lk_X6_43 (cw_k Bh_4.2.2 k0) rfl (by decide) rfl hl.1 rfl (Nat.le_of_ble_eq_true rfl) dX6_spells_46 ⟨Nat.le_refl _, Nat.le_refl _⟩) (fun _ _ h => by rw [h]; exact Bh_4.2.2) rfl (fun rh_9 αh_9 Hh_9 Lh_9 ph_9 Bh_9 => ?_)
          rw [ph_9] at Bh_9
          refine lv_aload_n hx hb dX6_spells_49 rfl (lv_at hl 1 rfl) (hp_n (n := 50) rfl ?_)
          refine lv_iload_n hx hb dX6_spells_50 rfl (lv_at hl 3 rfl) (hp_n (n := 51) rfl ?_)
          refine q_ci (pc' := 54) Bh_9 (hp_runT (i := i1) (As := [.int v3_h_3]) (rest := [.int rh_9]) C B0.1 Bh_9 h1 (t_J0_charAt_5068e Γ l α i1 h1 v3_h_3 (by omega) (by omega)) lb_J0_charAt_5068e li_J0_charAt_5068e sx_J0_charAt_5068e rfl lk_X6_59 rfl (by decide) rfl hl.1 rfl (Nat.le_of_ble_eq_true rfl) dX6_spells_51 ⟨Nat.le_refl _, Nat.le_refl _⟩) (fun _ _ h => by rw [h.1]; exact Bh_9.2.2) rfl (fun rh_10 αh_10 Hh_10 Lh_10 ph_10 Bh_10 => ?_)
          rw [ph_10.1] at Bh_10
          refine lv_icmp_ne (tgt := 61) hx hb dX6_spells_54 (by decide) (fun c_11 => ?_) (fun c_11 => hp_n (n := 57) rfl ?_)
          ·
            have jc_11 := il_ne c_11
            refine lv_iconst (v := 0) hx hb dX6_spells_61 (by decide) (hp_n (n := 62) rfl ?_)
            refine lv_istore_n (lv' := [(2, .int 0), (0, .ref a0), (1, .ref (Γ.2.2.2.2.1 i1)), (3, .int v3_h_3)]) hx hb dX6_spells_62 rfl hl (by decide) rfl (fun ls hl => hp_n (n := 63) rfl ?_)
            obtain ⟨x_12, ex_12⟩ : ∃ y : Int32, y = v3_h_3 + 1 := ⟨_, rfl⟩
            have qx_12 : x_12.toInt = v3_h_3.toInt + 1 := by have q0 := ib_hi rh_4; have qa := ib_lo v3_h_3; rw [ex_12]; exact ii_add (by omega) (by omega)
            refine lv_iinc (v := x_12) (lv' := [(3, .int x_12), (2, .int 0), (0, .ref a0), (1, .ref (Γ.2.2.2.2.1 i1))]) hx hb dX6_spells_63 hl (k := 3) rfl (by rw [ex_12]; rfl) (by decide) rfl (fun ls hl => hp_n (n := 66) rfl ?_)
            refine lv_goto (tgt := 27) hx hb dX6_spells_66 (by decide) ?_
            exact ih27 _ (by have q0 := ib_hi rh_4; have q1 := ib_lo rh_4; have qa := ib_hi v3_h_3; have qb := ib_lo v3_h_3; have qc : (v3_h_3 + 1).toInt = v3_h_3.toInt + (1 : Int32).toInt := ii_add (by omega) (by omega); rw [ex_12]; omega) Hh_10 Lh_10 Bh_10 0 (Or.inl rfl) x_12 (by omega) ls (lv_sub hl [2, 3, 1, 0] rfl) rfl
          ·
            have jc_11 := il_eq c_11
            refine lv_iconst (v := 1) hx hb dX6_spells_57 (by decide) (hp_n (n := 58) rfl ?_)
            refine lv_goto (tgt := 62) hx hb dX6_spells_58 (by decide) ?_
            refine lv_istore_n (lv' := [(2, .int 1), (0, .ref a0), (1, .ref (Γ.2.2.2.2.1 i1)), (3, .int v3_h_3)]) hx hb dX6_spells_62 rfl hl (by decide) rfl (fun ls hl => hp_n (n := 63) rfl ?_)
            obtain ⟨x_13, ex_13⟩ : ∃ y : Int32, y = v3_h_3 + 1 := ⟨_, rfl⟩
            have qx_13 : x_13.toInt = v3_h_3.toInt + 1 := by have q0 := ib_hi rh_4; have qa := ib_lo v3_h_3; rw [ex_13]; exact ii_add (by omega) (by omega)
            refine lv_iinc (v := x_13) (lv' := [(3, .int x_13), (2, .int 1), (0, .ref a0), (1, .ref (Γ.2.2.2.2.1 i1))]) hx hb dX6_spells_63 hl (k := 3) rfl (by rw [ex_13]; rfl) (by decide) rfl (fun ls hl => hp_n (n := 66) rfl ?_)
            refine lv_goto (tgt := 27) hx hb dX6_spells_66 (by decide) ?_
            exact ih27 _ (by have q0 := ib_hi rh_4; have q1 := ib_lo rh_4; have qa := ib_hi v3_h_3; have qb := ib_lo v3_h_3; have qc : (v3_h_3 + 1).toInt = v3_h_3.toInt + (1 : Int32).toInt := ii_add (by omega) (by omega); rw [ex_13]; omega) Hh_10 Lh_10 Bh_10 1 (Or.inr rfl) x_13 (by omega) ls (lv_sub hl [2, 3, 1, 0] rfl) rfl
    refine lv_istore_n (lv' := [(3, .int 0), (2, .int 0), (0, .ref a0), (1, .ref (Γ.2.2.2.2.1 i1))]) hx hb dX6_spells_26 rfl hl (by decide) rfl (fun ls hl => hp_n (n := 27) rfl ?_)
    exact J27 _ s.heap [] B 0 (Or.inl rfl) 0 (by omega) ls (lv_sub hl [2, 3, 1, 0] rfl) rfl
  ·
    have jc_2 := il_eq c_2
    refine lv_aload_n hx hb dX6_spells_8 rfl (lv_at hl 0 rfl) (hp_n (n := 9) rfl ?_)
    refine q_geti (κ := 7) (k := 5) (φ := 355) (pc' := 12) C B (cw_k B.2.2 k0) fl_X6_28 rfl rfl rfl dX6_spells_9 rfl (fun x_14 ex_14 => ?_)
    refine lv_aload_n hx hb dX6_spells_12 rfl (lv_at hl 1 rfl) (hp_n (n := 13) rfl ?_)
    refine q_ci (pc' := 16) B (hp_runT (i := i1) (As := []) (rest := [.int x_14]) C B0.1 B h1 (t_J0_length_8abf5 Γ l α i1 h1) lb_J0_length_8abf5 li_J0_length_8abf5 sx_J0_length_8abf5 rfl lk_X6_54 rfl (by decide) rfl hl.1 rfl (Nat.le_of_ble_eq_true rfl) dX6_spells_13 ⟨Nat.le_refl _, Nat.le_refl _⟩) (fun _ _ h => by rw [h.1]; exact B.2.2) rfl (fun rh_15 αh_15 Hh_15 Lh_15 ph_15 Bh_15 => ?_)
    rw [ph_15.1] at Bh_15
    have lnh_15 : rh_15.toInt = (hp_len i1).toInt := by rw [ph_15.2]
    refine lv_icmp_ne (tgt := 23) hx hb dX6_spells_16 (by decide) (fun c_16 => ?_) (fun c_16 => hp_n (n := 19) rfl ?_)
    ·
      have jc_16 := il_ne c_16
      refine lv_iconst (v := 0) hx hb dX6_spells_23 (by decide) (hp_n (n := 24) rfl ?_)
      refine lv_istore_n (lv' := [(2, .int 0), (0, .ref a0), (1, .ref (Γ.2.2.2.2.1 i1))]) hx hb dX6_spells_24 rfl hl (by decide) rfl (fun ls hl => hp_n (n := 25) rfl ?_)
      refine lv_iconst (v := 0) hx hb dX6_spells_25 (by decide) (hp_n (n := 26) rfl ?_)
      have J27 : ∀ (nq : Nat) (Hh_17 : Heap) (Lh_17 : List Loc) (Bh_17 : hp_B Γ (cw w_X6_spells) s α α Hh_17 Lh_17) (v2_h_17 : Int32) (zv2_h_17 : v2_h_17 = 0 ∨ v2_h_17 = 1) (v3_h_17 : Int32) (ih_17_0 : 0 ≤ v3_h_17.toInt) (ls : Array Slot) (hl : lv_has ls 4 [(0, .ref a0), (1, .ref (Γ.2.2.2.2.1 i1)), (2, .int v2_h_17), (3, .int v3_h_17)]) (hmu27 : (2147483647 - v3_h_17.toInt).toNat = nq), W p l e (hp_rm 4 0 0) s m ([.ref a0, .ref (Γ.2.2.2.2.1 i1)] : List Value).toArray below meth c Hh_17 Lh_17 0 0 (MQ below (hp_Qi Γ (fun r β => β = α ∧ (r = 0 ∨ r = 1))) ([.ref a0, .ref (Γ.2.2.2.2.1 i1)] : List Value).toArray s 0 0 (hp_A Γ)) (F0 m 27 ls []) := by
        intro nq
        induction nq using Nat.strongRecOn with
        | ind nq ih27 =>
        intro Hh_17 Lh_17 Bh_17 v2_h_17 zv2_h_17 v3_h_17 ih_17_0 ls hl hmu27
        have inv27_0 := ih_17_0
        refine lv_iload_n hx hb dX6_spells_27 rfl (lv_at hl 3 rfl) (hp_n (n := 28) rfl ?_)
        refine lv_aload_n hx hb dX6_spells_28 rfl (lv_at hl 1 rfl) (hp_n (n := 29) rfl ?_)
        refine q_ci (pc' := 32) Bh_17 (hp_runT (i := i1) (As := []) (rest := [.int v3_h_17]) C B0.1 Bh_17 h1 (t_J0_length_8abf5 Γ l α i1 h1) lb_J0_length_8abf5 li_J0_length_8abf5 sx_J0_length_8abf5 rfl lk_X6_54 rfl (by decide) rfl hl.1 rfl (Nat.le_of_ble_eq_true rfl) dX6_spells_29 ⟨Nat.le_refl _, Nat.le_refl _⟩) (fun _ _ h => by rw [h.1]; exact Bh_17.2.2) rfl (fun rh_18 αh_18 Hh_18 Lh_18 ph_18 Bh_18 => ?_)
        rw [ph_18.1] at Bh_18
        have lnh_18 : rh_18.toInt = (hp_len i1).toInt := by rw [ph_18.2]
        refine lv_icmp_ge (tgt := 69) hx hb dX6_spells_32 (by decide) (fun c_19 => ?_) (fun c_19 => hp_n (n := 35) rfl ?_)
        ·
          have jc_19 := il_le c_19
          refine lv_iload_n hx hb dX6_spells_69 rfl (lv_at hl 2 rfl) (hp_n (n := 70) rfl ?_)
          exact q_zret C Bh_18 hr hlk (nz_z zv2_h_17) ⟨rfl, zv2_h_17⟩ dX6_spells_70
        ·
          have jc_19 := il_nle c_19
          refine lv_iload_n hx hb dX6_spells_35 rfl (lv_at hl 2 rfl) (hp_n (n := 36) rfl ?_)
          refine lv_if_eq (tgt := 69) hx hb dX6_spells_36 (by decide) (fun c_20 => ?_) (fun c_20 => hp_n (n := 39) rfl ?_)
          ·
            have jc_20 := il_eq c_20
            refine lv_iload_n hx hb dX6_spells_69 rfl (lv_at hl 2 rfl) (hp_n (n := 70) rfl ?_)
            exact q_zret C Bh_18 hr hlk (nz_z zv2_h_17) ⟨rfl, zv2_h_17⟩ dX6_spells_70
          ·
            have jc_20 := il_ne c_20
            refine lv_aload_n hx hb dX6_spells_39 rfl (lv_at hl 0 rfl) (hp_n (n := 40) rfl ?_)
            refine lv_aload_n hx hb dX6_spells_40 rfl (lv_at hl 0 rfl) (hp_n (n := 41) rfl ?_)
            refine q_geti (κ := 7) (k := 4) (φ := 354) (pc' := 44) C Bh_18 (cw_k Bh_18.2.2 k0) fl_X6_25 rfl rfl rfl dX6_spells_41 rfl (fun x_21 ex_21 => ?_)
            refine lv_iload_n hx hb dX6_spells_44 rfl (lv_at hl 3 rfl) (hp_n (n := 45) rfl ?_)
            refine lv_iadd hx hb dX6_spells_45 (hp_n (n := 46) rfl (lv_topi (fun x_22 ex_22 => ?_)))
            refine q_ci (pc' := 49) Bh_18 (hp_runV (As := [.int x_22]) (rest := []) C Bh_18 (t_X6_byteAt Γ l α Bh_18.2.2.1 a0 (cw_k Bh_18.2.2 k0) x_22) lb_X6_byteAt lv_X6_byteAt lk_X6_43 (cw_k Bh_18.2.2 k0) rfl (by decide) rfl hl.1 rfl (Nat.le_of_ble_eq_true rfl) dX6_spells_46 ⟨Nat.le_refl _, Nat.le_refl _⟩) (fun _ _ h => by rw [h]; exact Bh_18.2.2) rfl (fun rh_23 αh_23 Hh_23 Lh_23 ph_23 Bh_23 => ?_)
            rw [ph_23] at Bh_23
            refine lv_aload_n hx hb dX6_spells_49 rfl (lv_at hl 1 rfl) (hp_n (n := 50) rfl ?_)
            refine lv_iload_n hx hb dX6_spells_50 rfl (lv_at hl 3 rfl) (hp_n (n := 51) rfl ?_)
            refine q_ci (pc' := 54) Bh_23 (hp_runT (i := i1) (As := [.int v3_h_17]) (rest := [.int rh_23]) C B0.1 Bh_23 h1 (t_J0_charAt_5068e Γ l α i1 h1 v3_h_17 (by omega) (by omega)) lb_J0_charAt_5068e li_J0_charAt_5068e sx_J0_charAt_5068e rfl lk_X6_59 rfl (by decide) rfl hl.1 rfl (Nat.le_of_ble_eq_true rfl) dX6_spells_51 ⟨Nat.le_refl _, Nat.le_refl _⟩) (fun _ _ h => by rw [h.1]; exact Bh_23.2.2) rfl (fun rh_24 αh_24 Hh_24 Lh_24 ph_24 Bh_24 => ?_)
            rw [ph_24.1] at Bh_24
            refine lv_icmp_ne (tgt := 61) hx hb dX6_spells_54 (by decide) (fun c_25 => ?_) (fun c_25 => hp_n (n := 57) rfl ?_)
            ·
              have jc_25 := il_ne c_25
              refine lv_iconst (v := 0) hx hb dX6_spells_61 (by decide) (hp_n (n := 62) rfl ?_)
              refine lv_istore_n (lv' := [(2, .int 0), (0, .ref a0), (1, .ref (Γ.2.2.2.2.1 i1)), (3, .int v3_h_17)]) hx hb dX6_spells_62 rfl hl (by decide) rfl (fun ls hl => hp_n (n := 63) rfl ?_)
              obtain ⟨x_26, ex_26⟩ : ∃ y : Int32, y = v3_h_17 + 1 := ⟨_, rfl⟩
              have qx_26 : x_26.toInt = v3_h_17.toInt + 1 := by have q0 := ib_hi rh_18; have qa := ib_lo v3_h_17; rw [ex_26]; exact ii_add (by omega) (by omega)
              refine lv_iinc (v := x_26) (lv' := [(3, .int x_26), (2, .int 0), (0, .ref a0), (1, .ref (Γ.2.2.2.2.1 i1))]) hx hb dX6_spells_63 hl (k := 3) rfl (by rw [ex_26]; rfl) (by decide) rfl (fun ls hl => hp_n (n := 66) rfl ?_)
              refine lv_goto (tgt := 27) hx hb dX6_spells_66 (by decide) ?_
              exact ih27 _ (by have q0 := ib_hi rh_18; have q1 := ib_lo rh_18; have qa := ib_hi v3_h_17; have qb := ib_lo v3_h_17; have qc : (v3_h_17 + 1).toInt = v3_h_17.toInt + (1 : Int32).toInt := ii_add (by omega) (by omega); rw [ex_26]; omega) Hh_24 Lh_24 Bh_24 0 (Or.inl rfl) x_26 (by omega) ls (lv_sub hl [2, 3, 1, 0] rfl) rfl
            ·
              have jc_25 := il_eq c_25
              refine lv_iconst (v := 1) hx hb dX6_spells_57 (by decide) (hp_n (n := 58) rfl ?_)
              refine lv_goto (tgt := 62) hx hb dX6_spells_58 (by decide) ?_
              refine lv_istore_n (lv' := [(2, .int 1), (0, .ref a0), (1, .ref (Γ.2.2.2.2.1 i1)), (3, .int v3_h_17)]) hx hb dX6_spells_62 rfl hl (by decide) rfl (fun ls hl => hp_n (n := 63) rfl ?_)
              obtain ⟨x_27, ex_27⟩ : ∃ y : Int32, y = v3_h_17 + 1 := ⟨_, rfl⟩
              have qx_27 : x_27.toInt = v3_h_17.toInt + 1 := by have q0 := ib_hi rh_18; have qa := ib_lo v3_h_17; rw [ex_27]; exact ii_add (by omega) (by omega)
              refine lv_iinc (v := x_27) (lv' := [(3, .int x_27), (2, .int 1), (0, .ref a0), (1, .ref (Γ.2.2.2.2.1 i1))]) hx hb dX6_spells_63 hl (k := 3) rfl (by rw [ex_27]; rfl) (by decide) rfl (fun ls hl => hp_n (n := 66) rfl ?_)
              refine lv_goto (tgt := 27) hx hb dX6_spells_66 (by decide) ?_
              exact ih27 _ (by have q0 := ib_hi rh_18; have q1 := ib_lo rh_18; have qa := ib_hi v3_h_17; have qb := ib_lo v3_h_17; have qc : (v3_h_17 + 1).toInt = v3_h_17.toInt + (1 : Int32).toInt := ii_add (by omega) (by omega); rw [ex_27]; omega) Hh_24 Lh_24 Bh_24 1 (Or.inr rfl) x_27 (by omega) ls (lv_sub hl [2, 3, 1, 0] rfl) rfl
      refine lv_istore_n (lv' := [(3, .int 0), (2, .int 0), (0, .ref a0), (1, .ref (Γ.2.2.2.2.1 i1))]) hx hb dX6_spells_26 rfl hl (by decide) rfl (fun ls hl => hp_n (n := 27) rfl ?_)
      exact J27 _ Hh_15 Lh_15 Bh_15 0 (Or.inl rfl) 0 (by omega) ls (lv_sub hl [2, 3, 1, 0] rfl) rfl
    ·
      have jc_16 := il_eq c_16
      refine lv_iconst (v := 1) hx hb dX6_spells_19 (by decide) (hp_n (n := 20) rfl ?_)
      refine lv_goto (tgt := 24) hx hb dX6_spells_20 (by decide) ?_
      refine lv_istore_n (lv' := [(2, .int 1), (0, .ref a0), (1, .ref (Γ.2.2.2.2.1 i1))]) hx hb dX6_spells_24 rfl hl (by decide) rfl (fun ls hl => hp_n (n := 25) rfl ?_)
      refine lv_iconst (v := 0) hx hb dX6_spells_25 (by decide) (hp_n (n := 26) rfl ?_)
      have J27 : ∀ (nq : Nat) (Hh_28 : Heap) (Lh_28 : List Loc) (Bh_28 : hp_B Γ (cw w_X6_spells) s α α Hh_28 Lh_28) (v2_h_28 : Int32) (zv2_h_28 : v2_h_28 = 0 ∨ v2_h_28 = 1) (v3_h_28 : Int32) (ih_28_0 : 0 ≤ v3_h_28.toInt) (ls : Array Slot) (hl : lv_has ls 4 [(0, .ref a0), (1, .ref (Γ.2.2.2.2.1 i1)), (2, .int v2_h_28), (3, .int v3_h_28)]) (hmu27 : (2147483647 - v3_h_28.toInt).toNat = nq), W p l e (hp_rm 4 0 0) s m ([.ref a0, .ref (Γ.2.2.2.2.1 i1)] : List Value).toArray below meth c Hh_28 Lh_28 0 0 (MQ below (hp_Qi Γ (fun r β => β = α ∧ (r = 0 ∨ r = 1))) ([.ref a0, .ref (Γ.2.2.2.2.1 i1)] : List Value).toArray s 0 0 (hp_A Γ)) (F0 m 27 ls []) := by
        intro nq
        induction nq using Nat.strongRecOn with
        | ind nq ih27 =>
        intro Hh_28 Lh_28 Bh_28 v2_h_28 zv2_h_28 v3_h_28 ih_28_0 ls hl hmu27
        have inv27_0 := ih_28_0
        refine lv_iload_n hx hb dX6_spells_27 rfl (lv_at hl 3 rfl) (hp_n (n := 28) rfl ?_)
        refine lv_aload_n hx hb dX6_spells_28 rfl (lv_at hl 1 rfl) (hp_n (n := 29) rfl ?_)
        refine q_ci (pc' := 32) Bh_28 (hp_runT (i := i1) (As := []) (rest := [.int v3_h_28]) C B0.1 Bh_28 h1 (t_J0_length_8abf5 Γ l α i1 h1) lb_J0_length_8abf5 li_J0_length_8abf5 sx_J0_length_8abf5 rfl lk_X6_54 rfl (by decide) rfl hl.1 rfl (Nat.le_of_ble_eq_true rfl) dX6_spells_29 ⟨Nat.le_refl _, Nat.le_refl _⟩) (fun _ _ h => by rw [h.1]; exact Bh_28.2.2) rfl (fun rh_29 αh_29 Hh_29 Lh_29 ph_29 Bh_29 => ?_)
        rw [ph_29.1] at Bh_29
        have lnh_29 : rh_29.toInt = (hp_len i1).toInt := by rw [ph_29.2]
        refine lv_icmp_ge (tgt := 69) hx hb dX6_spells_32 (by decide) (fun c_30 => ?_) (fun c_30 => hp_n (n := 35) rfl ?_)
        ·
          have jc_30 := il_le c_30
          refine lv_iload_n hx hb dX6_spells_69 rfl (lv_at hl 2 rfl) (hp_n (n := 70) rfl ?_)
          exact q_zret C Bh_29 hr hlk (nz_z zv2_h_28) ⟨rfl, zv2_h_28⟩ dX6_spells_70
        ·
          have jc_30 := il_nle c_30
          refine lv_iload_n hx hb dX6_spells_35 rfl (lv_at hl 2 rfl) (hp_n (n := 36) rfl ?_)
          refine lv_if_eq (tgt := 69) hx hb dX6_spells_36 (by decide) (fun c_31 => ?_) (fun c_31 => hp_n (n := 39) rfl ?_)
          ·
            have jc_31 := il_eq c_31
            refine lv_iload_n hx hb dX6_spells_69 rfl (lv_at hl 2 rfl) (hp_n (n := 70) rfl ?_)
            exact q_zret C Bh_29 hr hlk (nz_z zv2_h_28) ⟨rfl, zv2_h_28⟩ dX6_spells_70
          ·
            have jc_31 := il_ne c_31
            refine lv_aload_n hx hb dX6_spells_39 rfl (lv_at hl 0 rfl) (hp_n (n := 40) rfl ?_)
            refine lv_aload_n hx hb dX6_spells_40 rfl (lv_at hl 0 rfl) (hp_n (n := 41) rfl ?_)
            refine q_geti (κ := 7) (k := 4) (φ := 354) (pc' := 44) C Bh_29 (cw_k Bh_29.2.2 k0) fl_X6_25 rfl rfl rfl dX6_spells_41 rfl (fun x_32 ex_32 => ?_)
            refine lv_iload_n hx hb dX6_spells_44 rfl (lv_at hl 3 rfl) (hp_n (n := 45) rfl ?_)
            refine lv_iadd hx hb dX6_spells_45 (hp_n (n := 46) rfl (lv_topi (fun x_33 ex_33 => ?_)))
            refine q_ci (pc' := 49) Bh_29 (hp_runV (As := [.int x_33]) (rest := []) C Bh_29 (t_X6_byteAt Γ l α Bh_29.2.2.1 a0 (cw_k Bh_29.2.2 k0) x_33) lb_X6_byteAt lv_X6_byteAt lk_X6_43 (cw_k Bh_29.2.2 k0) rfl (by decide) rfl hl.1 rfl (Nat.le_of_ble_eq_true rfl) dX6_spells_46 ⟨Nat.le_refl _, Nat.le_refl _⟩) (fun _ _ h => by rw [h]; exact Bh_29.2.2) rfl (fun rh_34 αh_34 Hh_34 Lh_34 ph_34 Bh_34 => ?_)
            rw [ph_34] at Bh_34
            refine lv_aload_n hx hb dX6_spells_49 rfl (lv_at hl 1 rfl) (hp_n (n := 50) rfl ?_)
            refine lv_iload_n hx hb dX6_spells_50 rfl (lv_at hl 3 rfl) (hp_n (n := 51) rfl ?_)
            refine q_ci (pc' := 54) Bh_34 (hp_runT (i := i1) (As := [.int v3_h_28]) (rest := [.int rh_34]) C B0.1 Bh_34 h1 (t_J0_charAt_5068e Γ l α i1 h1 v3_h_28 (by omega) (by omega)) lb_J0_charAt_5068e li_J0_charAt_5068e sx_J0_charAt_5068e rfl lk_X6_59 rfl (by decide) rfl hl.1 rfl (Nat.le_of_ble_eq_true rfl) dX6_spells_51 ⟨Nat.le_refl _, Nat.le_refl _⟩) (fun _ _ h => by rw [h.1]; exact Bh_34.2.2) rfl (fun rh_35 αh_35 Hh_35 Lh_35 ph_35 Bh_35 => ?_)
            rw [ph_35.1] at Bh_35
            refine lv_icmp_ne (tgt := 61) hx hb dX6_spells_54 (by decide) (fun c_36 => ?_) (fun c_36 => hp_n (n := 57) rfl ?_)
            ·
              have jc_36 := il_ne c_36
              refine lv_iconst (v := 0) hx hb dX6_spells_61 (by decide) (hp_n (n := 62) rfl ?_)
              refine lv_istore_n (lv' := [(2, .int 0), (0, .ref a0), (1, .ref (Γ.2.2.2.2.1 i1)), (3, .int v3_h_28)]) hx hb dX6_spells_62 rfl hl (by decide) rfl (fun ls hl => hp_n (n := 63) rfl ?_)
              obtain ⟨x_37, ex_37⟩ : ∃ y : Int32, y = v3_h_28 + 1 := ⟨_, rfl⟩
              have qx_37 : x_37.toInt = v3_h_28.toInt + 1 := by have q0 := ib_hi rh_29; have qa := ib_lo v3_h_28; rw [ex_37]; exact ii_add (by omega) (by omega)
              refine lv_iinc (v := x_37) (lv' := [(3, .int x_37), (2, .int 0), (0, .ref a0), (1, .ref (Γ.2.2.2.2.1 i1))]) hx hb dX6_spells_63 hl (k := 3) rfl (by rw [ex_37]; rfl) (by decide) rfl (fun ls hl => hp_n (n := 66) rfl ?_)
              refine lv_goto (tgt := 27) hx hb dX6_spells_66 (by decide) ?_
              exact ih27 _ (by have q0 := ib_hi rh_29; have q1 := ib_lo rh_29; have qa := ib_hi v3_h_28; have qb := ib_lo v3_h_28; have qc : (v3_h_28 + 1).toInt = v3_h_28.toInt + (1 : Int32).toInt := ii_add (by omega) (by omega); rw [ex_37]; omega) Hh_35 Lh_35 Bh_35 0 (Or.inl rfl) x_37 (by omega) ls (lv_sub hl [2, 3, 1, 0] rfl) rfl
            ·
              have jc_36 := il_eq c_36
              refine lv_iconst (v := 1) hx hb dX6_spells_57 (by decide) (hp_n (n := 58) rfl ?_)
              refine lv_goto (tgt := 62) hx hb dX6_spells_58 (by decide) ?_
              refine lv_istore_n (lv' := [(2, .int 1), (0, .ref a0), (1, .ref (Γ.2.2.2.2.1 i1)), (3, .int v3_h_28)]) hx hb dX6_spells_62 rfl hl (by decide) rfl (fun ls hl => hp_n (n := 63) rfl ?_)
              obtain ⟨x_38, ex_38⟩ : ∃ y : Int32, y = v3_h_28 + 1 := ⟨_, rfl⟩
              have qx_38 : x_38.toInt = v3_h_28.toInt + 1 := by have q0 := ib_hi rh_29; have qa := ib_lo v3_h_28; rw [ex_38]; exact ii_add (by omega) (by omega)
              refine lv_iinc (v := x_38) (lv' := [(3, .int x_38), (2, .int 1), (0, .ref a0), (1, .ref (Γ.2.2.2.2.1 i1))]) hx hb dX6_spells_63 hl (k := 3) rfl (by rw [ex_38]; rfl) (by decide) rfl (fun ls hl => hp_n (n := 66) rfl ?_)
              refine lv_goto (tgt := 27) hx hb dX6_spells_66 (by decide) ?_
              exact ih27 _ (by have q0 := ib_hi rh_29; have q1 := ib_lo rh_29; have qa := ib_hi v3_h_28; have qb := ib_lo v3_h_28; have qc : (v3_h_28 + 1).toInt = v3_h_28.toInt + (1 : Int32).toInt := ii_add (by omega) (by omega); rw [ex_38]; omega) Hh_35 Lh_35 Bh_35 1 (Or.inr rfl) x_38 (by omega) ls (lv_sub hl [2, 3, 1, 0] rfl) rfl
      refine lv_istore_n (lv' := [(3, .int 0), (2, .int 1), (0, .ref a0), (1, .ref (Γ.2.2.2.2.1 i1))]) hx hb dX6_spells_26 rfl hl (by decide) rfl (fun ls hl => hp_n (n := 27) rfl ?_)
      exact J27 _ Hh_15 Lh_15 Bh_15 1 (Or.inr rfl) 0 (by omega) ls (lv_sub hl [2, 3, 1, 0] rfl) rfl
abbrev w_X6_copyWord : cw_W := ([501], [], [27], [])
