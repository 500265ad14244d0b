abbrev w_X4_restOf : cw_W := ([], [], [], [])
set_option maxRecDepth 100000 in
set_option maxHeartbeats 4000000 in
theorem t_X4_restOf (Γ : hp_G) (l : Launch) (α : hp_T) (g : GC α) (a0 : Nat) (k0 : hp_K α a0 = 5) (a1 : Int64) : Met l yX4_restOf (hp_ws yX4_restOf cX4_restOf 3 (some .int)) (hp_rm 1 0 0) (hp_Pc Γ α [.ref a0, .long a1]) (hp_Qi Γ (fun r β => β = α)) 0 0 (hp_A Γ) := by
  refine hp_start (by decide) ?_
  intro p e s m below meth c C hr hlk B0 hnm
  have C : hp_C Γ p m c cX4_restOf 3 s ([.ref a0, .long a1] : List Value).toArray RX4 := C
  have hx := C.1.1
  have hb := C.1.2.1
  have hown := C.1.2.2.2.1
  have hts := C.1.2.2.2.2
  have B : hp_B Γ (cw w_X4_restOf) s α α s.heap [] := ⟨B0.1, B0.2.1, cw_rf g⟩
  have lit0 : (0 : Int32).toInt = 0 := by decide
  have hl := lv_entry ([.ref a0, .long a1]) (n := 3) (Nat.le_of_ble_eq_true rfl)
  show W p l e (hp_rm 1 0 0) s m ([.ref a0, .long a1] : List Value).toArray below meth c s.heap [] 0 0 (MQ below (hp_Qi Γ (fun r β => β = α)) ([.ref a0, .long a1] : List Value).toArray s 0 0 (hp_A Γ)) (entryFrame m ([.ref a0, .long a1] : List Value).toArray 3)
  rw [lg_entry_eq]
  generalize (lg_sl ([.ref a0, .long a1]) ++ List.replicate (3 - (lg_sl ([.ref a0, .long a1])).length) Slot.unset).toArray = ls at hl ⊢
  have hl : lv_has ls 3 [(0, .ref a0), (1, .long a1)] := hl
  refine lv_aload_n hx hb dX4_restOf_0 rfl (lv_at hl 0 rfl) (hp_n (n := 1) rfl ?_)
  refine q_geti (κ := 5) (k := 2) (φ := 252) (pc' := 4) C B (cw_k B.2.2 k0) fl_X4_19 rfl rfl rfl dX4_restOf_1 rfl (fun x_1 ex_1 => ?_)
  refine lv_if_le (tgt := 20) hx hb dX4_restOf_4 (by decide) (fun c_2 => ?_) (fun c_2 => hp_n (n := 7) rfl ?_)
  ·
    have jc_2 := il_le c_2
    refine lv_iconst (v := 0) hx hb dX4_restOf_20 (by decide) (hp_n (n := 21) rfl ?_)
    exact q_iret C B hr hlk rfl dX4_restOf_21
  ·
    have jc_2 := il_nle c_2
    refine lv_lload_n hx hb dX4_restOf_7 rfl (lv_at hl 1 rfl) (hp_n (n := 8) rfl ?_)
    refine lv_aload_n hx hb dX4_restOf_8 rfl (lv_at hl 0 rfl) (hp_n (n := 9) rfl ?_)
    refine q_getj (κ := 5) (k := 2) (φ := 252) (pc' := 12) C B (cw_k B.2.2 k0) fl_X4_19 rfl rfl rfl ex_1 dX4_restOf_9 rfl ?_
    refine lv_i2l hx hb dX4_restOf_12 rfl (hp_n (n := 13) rfl (lv_topl (fun x_3 ex_3 => ?_)))
    refine q_cl (pc' := 16) B (hp_runS (As := [.long a1, .long x_3]) (rest := []) C B (t_J9_floorMod_f86c9 Γ l α B.2.2.1 a1 x_3 (li_nz ex_3 (by omega))) lb_J9_floorMod_f86c9 ls_J9_floorMod_f86c9 lk_X4_104 rfl (by decide) rfl hl.1 rfl (Nat.le_of_ble_eq_true rfl) dX4_restOf_13 ⟨Nat.le_refl _, Nat.le_refl _⟩) (fun _ _ h => by rw [h]; exact B.2.2) rfl (fun rh_4 αh_4 Hh_4 Lh_4 ph_4 Bh_4 => ?_)
    rw [ph_4] at Bh_4
    refine lv_l2i hx hb dX4_restOf_16 rfl (hp_n (n := 17) rfl (lv_topi (fun x_5 ex_5 => ?_)))
    refine lv_goto (tgt := 21) hx hb dX4_restOf_17 (by decide) ?_
    exact q_iret C Bh_4 hr hlk rfl dX4_restOf_21
abbrev w_X4_firstOf : cw_W := ([], [], [], [])
set_option maxRecDepth 100000 in
set_option maxHeartbeats 4000000 in
theorem t_X4_firstOf (Γ : hp_G) (l : Launch) (α : hp_T) (g : GC α) (a0 : Nat) (k0 : hp_K α a0 = 5) (a1 : Int32) : Met l yX4_firstOf (hp_ws yX4_firstOf cX4_firstOf 2 (some .int)) (hp_rm 2 0 0) (hp_Pc Γ α [.ref a0, .int a1]) (hp_Qi Γ (fun r β => β = α)) 0 0 (hp_A Γ) := by
  refine hp_start (by decide) ?_
  intro p e s m below meth c C hr hlk B0 hnm
  have C : hp_C Γ p m c cX4_firstOf 2 s ([.ref a0, .int a1] : List Value).toArray RX4 := C
  have hx := C.1.1
  have hb := C.1.2.1
  have hown := C.1.2.2.2.1
  have hts := C.1.2.2.2.2
  have B : hp_B Γ (cw w_X4_firstOf) s α α s.heap [] := ⟨B0.1, B0.2.1, cw_rf g⟩
  have hl := lv_entry ([.ref a0, .int a1]) (n := 2) (Nat.le_of_ble_eq_true rfl)
  show W p l e (hp_rm 2 0 0) s m ([.ref a0, .int a1] : List Value).toArray below meth c s.heap [] 0 0 (MQ below (hp_Qi Γ (fun r β => β = α)) ([.ref a0, .int a1] : List Value).toArray s 0 0 (hp_A Γ)) (entryFrame m ([.ref a0, .int a1] : List Value).toArray 2)
  rw [lg_entry_eq]
  generalize (lg_sl ([.ref a0, .int a1]) ++ List.replicate (2 - (lg_sl ([.ref a0, .int a1])).length) Slot.unset).toArray = ls at hl ⊢
  have hl : lv_has ls 2 [(0, .ref a0), (1, .int a1)] := hl
  refine lv_aload_n hx hb dX4_firstOf_0 rfl (lv_at hl 0 rfl) (hp_n (n := 1) rfl ?_)
  refine lv_iload_n hx hb dX4_firstOf_1 rfl (lv_at hl 1 rfl) (hp_n (n := 2) rfl ?_)
  refine lv_i2l hx hb dX4_firstOf_2 rfl (hp_n (n := 3) rfl (lv_topl (fun x_1 ex_1 => ?_)))
  refine lv_ldc2 hx hb hown (hts _ kc_X4_102) dX4_firstOf_3 (hp_n (n := 6) rfl ?_)
  refine lv_lsub hx hb dX4_firstOf_6 (hp_n (n := 7) rfl (lv_topl (fun x_2 ex_2 => ?_)))
  refine q_ci (pc' := 10) B (hp_runV (As := [.long x_2]) (rest := []) C B (t_X4_restOf Γ l α B.2.2.1 a0 (cw_k B.2.2 k0) x_2) lb_X4_restOf lv_X4_restOf lk_X4_98 (cw_k B.2.2 k0) rfl (by decide) rfl hl.1 rfl (Nat.le_of_ble_eq_true rfl) dX4_firstOf_7 ⟨Nat.le_refl _, Nat.le_refl _⟩) (fun _ _ h => by rw [h]; exact B.2.2) rfl (fun rh_3 αh_3 Hh_3 Lh_3 ph_3 Bh_3 => ?_)
  rw [ph_3] at Bh_3
  exact q_iret C Bh_3 hr hlk rfl dX4_firstOf_10
abbrev w_X4_leastRoot : cw_W := ([], [], [], [])
set_option maxRecDepth 100000 in
set_option maxHeartbeats 4000000 in
theorem t_X4_leastRoot (Γ : hp_G) (l : Launch) (α : hp_T) (g : GC α) (a0 : Nat) (k0 : hp_K α a0 = 5) (a1 : Int32) (a2 : Int32) : Met l yX4_leastRoot (hp_ws yX4_leastRoot cX4_leastRoot 4 (some .int)) (hp_rm 2 0 0) (hp_Pc Γ α [.ref a0, .int a1, .int a2]) (hp_Qi Γ (fun r β => β = α)) 0 0 (hp_A Γ) := by
  refine hp_start (by decide) ?_
  intro p e s m below meth c C hr hlk B0 hnm
  have C : hp_C Γ p m c cX4_leastRoot 4 s ([.ref a0, .int a1, .int a2] : List Value).toArray RX4 := C
  have hx := C.1.1
  have hb := C.1.2.1
  have hown := C.1.2.2.2.1
  have hts := C.1.2.2.2.2
  have B : hp_B Γ (cw w_X4_leastRoot) s α α s.heap [] := ⟨B0.1, B0.2.1, cw_rf g⟩
  have litm1 : ((-1) : Int32).toInt = (-1) := by decide
  have lit0 : (0 : Int32).toInt = 0 := by decide
  have lit7 : (7 : Int32).toInt = 7 := by decide
  have lit65521 : (65521 : Int32).toInt = 65521 := by decide
  have hl := lv_entry ([.ref a0, .int a1, .int a2]) (n := 4) (Nat.le_of_ble_eq_true rfl)
  show W p l e (hp_rm 2 0 0) s m ([.ref a0, .int a1, .int a2] : List Value).toArray below meth c s.heap [] 0 0 (MQ below (hp_Qi Γ (fun r β => β = α)) ([.ref a0, .int a1, .int a2] : List Value).toArray s 0 0 (hp_A Γ)) (entryFrame m ([.ref a0, .int a1, .int a2] : List Value).toArray 4)
  rw [lg_entry_eq]
  generalize (lg_sl ([.ref a0, .int a1, .int a2]) ++ List.replicate (4 - (lg_sl ([.ref a0, .int a1, .int a2])).length) Slot.unset).toArray = ls at hl ⊢
  have hl : lv_has ls 4 [(0, .ref a0), (1, .int a1), (2, .int a2)] := hl
  refine lv_aload_n hx hb dX4_leastRoot_0 rfl (lv_at hl 0 rfl) (hp_n (n := 1) rfl ?_)
  refine lv_iload_n hx hb dX4_leastRoot_1 rfl (lv_at hl 2 rfl) (hp_n (n := 2) rfl ?_)
  refine lv_iload_n hx hb dX4_leastRoot_2 rfl (lv_at hl 1 rfl) (hp_n (n := 3) rfl ?_)
  refine lv_isub hx hb dX4_leastRoot_3 (hp_n (n := 4) rfl (lv_topi (fun x_1 ex_1 => ?_)))
  refine lv_bipush (v := 7) hx hb dX4_leastRoot_4 (by decide) (hp_n (n := 6) rfl ?_)
  refine lv_isub hx hb dX4_leastRoot_6 (hp_n (n := 7) rfl (lv_topi (fun x_2 ex_2 => ?_)))
  refine lv_i2l hx hb dX4_leastRoot_7 rfl (hp_n (n := 8) rfl (lv_topl (fun x_3 ex_3 => ?_)))
  refine q_ci (pc' := 11) B (hp_runV (As := [.long x_3]) (rest := []) C B (t_X4_restOf Γ l α B.2.2.1 a0 (cw_k B.2.2 k0) x_3) lb_X4_restOf lv_X4_restOf lk_X4_98 (cw_k B.2.2 k0) rfl (by decide) rfl hl.1 rfl (Nat.le_of_ble_eq_true rfl) dX4_leastRoot_8 ⟨Nat.le_refl _, Nat.le_refl _⟩) (fun _ _ h => by rw [h]; exact B.2.2) rfl (fun rh_4 αh_4 Hh_4 Lh_4 ph_4 Bh_4 => ?_)
  rw [ph_4] at Bh_4
  refine lv_istore_n (lv' := [(3, .int rh_4), (0, .ref a0), (1, .int a1), (2, .int a2)]) hx hb dX4_leastRoot_11 rfl hl (by decide) rfl (fun ls hl => hp_n (n := 12) rfl ?_)
  refine lv_iload_n hx hb dX4_leastRoot_12 rfl (lv_at hl 0 rfl) (hp_n (n := 13) rfl ?_)
  refine lv_if_lt (tgt := 34) hx hb dX4_leastRoot_13 (by decide) (fun c_5 => ?_) (fun c_5 => hp_n (n := 16) rfl ?_)
  ·
    have jc_5 := il_lt c_5
    refine lv_iconst (v := (-1)) hx hb dX4_leastRoot_34 (by decide) (hp_n (n := 35) rfl ?_)
    exact q_iret C Bh_4 hr hlk rfl dX4_leastRoot_35
  ·
    have jc_5 := il_nlt c_5
    refine lv_iload_n hx hb dX4_leastRoot_16 rfl (lv_at hl 0 rfl) (hp_n (n := 17) rfl ?_)
    refine lv_aload_n hx hb dX4_leastRoot_17 rfl (lv_at hl 1 rfl) (hp_n (n := 18) rfl ?_)
    refine q_getr (κ := 5) (k := 0) (φ := 250) (pc' := 21) C Bh_4 (cw_k Bh_4.2.2 k0) fl_X4_10 rfl rfl rfl (cw_r Bh_4.2.2 k0 rfl rfl (by decide) (by decide)) dX4_leastRoot_18 rfl (fun b_6 eb_6 kb_6 => ?_)
    refine q_alen (κ := 34) (t := 0) (n := 65521) (x := 65521) (ty := .int) (pc' := 22) C Bh_4 (cw_k Bh_4.2.2 kb_6) (by decide) rfl rfl rfl dX4_leastRoot_21 rfl ?_
    refine lv_icmp_ge (tgt := 34) hx hb dX4_leastRoot_22 (by decide) (fun c_7 => ?_) (fun c_7 => hp_n (n := 25) rfl ?_)
    ·
      have jc_7 := il_le c_7
      refine lv_iconst (v := (-1)) hx hb dX4_leastRoot_34 (by decide) (hp_n (n := 35) rfl ?_)
      exact q_iret C Bh_4 hr hlk rfl dX4_leastRoot_35
    ·
      have jc_7 := il_nle c_7
      refine lv_aload_n hx hb dX4_leastRoot_25 rfl (lv_at hl 1 rfl) (hp_n (n := 26) rfl ?_)
      refine q_gets (κ := 5) (k := 0) (φ := 250) (pc' := 29) C Bh_4 (cw_k Bh_4.2.2 k0) fl_X4_10 rfl rfl rfl eb_6 dX4_leastRoot_26 rfl ?_
      refine lv_iload_n hx hb dX4_leastRoot_29 rfl (lv_at hl 0 rfl) (hp_n (n := 30) rfl ?_)
      refine q_ial (κ := 34) (n := 65521) (pc' := 31) C Bh_4 (cw_k Bh_4.2.2 kb_6) (by decide) rfl (vi_of (by omega) (by omega)) dX4_leastRoot_30 rfl (lv_topi (fun x_8 ex_8 => ?_))
      refine lv_goto (tgt := 35) hx hb dX4_leastRoot_31 (by decide) ?_
      exact q_iret C Bh_4 hr hlk rfl dX4_leastRoot_35
abbrev w_X4_secondOf : cw_W := ([], [], [], [])
set_option maxRecDepth 100000 in
set_option maxHeartbeats 4000000 in
theorem t_X4_secondOf (Γ : hp_G) (l : Launch) (α : hp_T) (g : GC α) (a0 : Nat) (k0 : hp_K α a0 = 5) (a1 : Int32) (a2 : Int32) : Met l yX4_secondOf (hp_ws yX4_secondOf cX4_secondOf 3 (some .int)) (hp_rm 2 0 0) (hp_Pc Γ α [.ref a0, .int a1, .int a2]) (hp_Qi Γ (fun r β => β = α)) 0 0 (hp_A Γ) := by
  refine hp_start (by decide) ?_
  intro p e s m below meth c C hr hlk B0 hnm
  have C : hp_C Γ p m c cX4_secondOf 3 s ([.ref a0, .int a1, .int a2] : List Value).toArray RX4 := C
  have hx := C.1.1
  have hb := C.1.2.1
  have hown := C.1.2.2.2.1
  have hts := C.1.2.2.2.2
  have B : hp_B Γ (cw w_X4_secondOf) s α α s.heap [] := ⟨B0.1, B0.2.1, cw_rf g⟩
  have lit0 : (0 : Int32).toInt = 0 := by decide
  have hl := lv_entry ([.ref a0, .int a1, .int a2]) (n := 3) (Nat.le_of_ble_eq_true rfl)
  show W p l e (hp_rm 2 0 0) s m ([.ref a0, .int a1, .int a2] : List Value).toArray below meth c s.heap [] 0 0 (MQ below (hp_Qi Γ (fun r β => β = α)) ([.ref a0, .int a1, .int a2] : List Value).toArray s 0 0 (hp_A Γ)) (entryFrame m ([.ref a0, .int a1, .int a2] : List Value).toArray 3)
  rw [lg_entry_eq]
  generalize (lg_sl ([.ref a0, .int a1, .int a2]) ++ List.replicate (3 - (lg_sl ([.ref a0, .int a1, .int a2])).length) Slot.unset).toArray = ls at hl ⊢
  have hl : lv_has ls 3 [(0, .ref a0), (1, .int a1), (2, .int a2)] := hl
  refine lv_aload_n hx hb dX4_secondOf_0 rfl (lv_at hl 0 rfl) (hp_n (n := 1) rfl ?_)
  refine lv_iload_n hx hb dX4_secondOf_1 rfl (lv_at hl 2 rfl) (hp_n (n := 2) rfl ?_)
  refine lv_aload_n hx hb dX4_secondOf_2 rfl (lv_at hl 0 rfl) (hp_n (n := 3) rfl ?_)
  refine q_geti (κ := 5) (k := 2) (φ := 252) (pc' := 6) C B (cw_k B.2.2 k0) fl_X4_19 rfl rfl rfl dX4_secondOf_3 rfl (fun x_1 ex_1 => ?_)
  refine lv_iload_n hx hb dX4_secondOf_6 rfl (lv_at hl 1 rfl) (hp_n (n := 7) rfl ?_)
  refine lv_iconst (v := 0) hx hb dX4_secondOf_7 (by decide) (hp_n (n := 8) rfl ?_)
  refine q_ci (pc' := 11) B (hp_runS (As := [.int x_1, .int a1, .int 0]) (rest := [.int a2, .ref a0]) C B (t_X11_markOfTwo Γ l α B.2.2.1 x_1 a1 0) lb_X11_markOfTwo ls_X11_markOfTwo lk_X4_94 rfl (by decide) rfl hl.1 rfl (Nat.le_of_ble_eq_true rfl) dX4_secondOf_8 ⟨Nat.le_refl _, Nat.le_refl _⟩) (fun _ _ h => by rw [h]; exact B.2.2) rfl (fun rh_2 αh_2 Hh_2 Lh_2 ph_2 Bh_2 => ?_)
  rw [ph_2] at Bh_2
  refine lv_isub hx hb dX4_secondOf_11 (hp_n (n := 12) rfl (lv_topi (fun x_3 ex_3 => ?_)))
  refine lv_i2l hx hb dX4_secondOf_12 rfl (hp_n (n := 13) rfl (lv_topl (fun x_4 ex_4 => ?_)))
  refine q_ci (pc' := 16) Bh_2 (hp_runV (As := [.long x_4]) (rest := []) C Bh_2 (t_X4_restOf Γ l α Bh_2.2.2.1 a0 (cw_k Bh_2.2.2 k0) x_4) lb_X4_restOf lv_X4_restOf lk_X4_98 (cw_k Bh_2.2.2 k0) rfl (by decide) rfl hl.1 rfl (Nat.le_of_ble_eq_true rfl) dX4_secondOf_13 ⟨Nat.le_refl _, Nat.le_refl _⟩) (fun _ _ h => by rw [h]; exact Bh_2.2.2) rfl (fun rh_5 αh_5 Hh_5 Lh_5 ph_5 Bh_5 => ?_)
  rw [ph_5] at Bh_5
  exact q_iret C Bh_5 hr hlk rfl dX4_secondOf_16
abbrev w_X4_take : cw_W := ([259, 260], [], [], [])
set_option maxRecDepth 100000 in
set_option maxHeartbeats 4000000 in
theorem t_X4_take (Γ : hp_G) (l : Launch) (α : hp_T) (g : GC α) (a0 : Nat) (k0 : hp_K α a0 = 5) (a1 : Int32) : Met l yX4_take (hp_ws yX4_take cX4_take 2 none) (hp_rm 1 0 0) (hp_Pc Γ α [.ref a0, .int a1]) (hp_Qv Γ (fun β => cw w_X4_take α β)) 0 0 (hp_A Γ) := by
  refine hp_start (by decide) ?_
  intro p e s m below meth c C hr hlk B0 hnm
  have C : hp_C Γ p m c cX4_take 2 s ([.ref a0, .int a1] : List Value).toArray RX4 := C
  have hx := C.1.1
  have hb := C.1.2.1
  have hown := C.1.2.2.2.1
  have hts := C.1.2.2.2.2
  have B : hp_B Γ (cw w_X4_take) s α α s.heap [] := ⟨B0.1, B0.2.1, cw_rf g⟩
  have lit0 : (0 : Int32).toInt = 0 := by decide
  have lit1 : (1 : Int32).toInt = 1 := by decide
  have hl := lv_entry ([.ref a0, .int a1]) (n := 2) (Nat.le_of_ble_eq_true rfl)
  show W p l e (hp_rm 1 0 0) s m ([.ref a0, .int a1] : List Value).toArray below meth c s.heap [] 0 0 (MQ below (hp_Qv Γ (fun β => cw w_X4_take α β)) ([.ref a0, .int a1] : List Value).toArray s 0 0 (hp_A Γ)) (entryFrame m ([.ref a0, .int a1] : List Value).toArray 2)
  rw [lg_entry_eq]
  generalize (lg_sl ([.ref a0, .int a1]) ++ List.replicate (2 - (lg_sl ([.ref a0, .int a1])).length) Slot.unset).toArray = ls at hl ⊢
  have hl : lv_has ls 2 [(0, .ref a0), (1, .int a1)] := hl
  refine lv_iload_n hx hb dX4_take_0 rfl (lv_at hl 1 rfl) (hp_n (n := 1) rfl ?_)
  refine lv_aload_n hx hb dX4_take_1 rfl (lv_at hl 0 rfl) (hp_n (n := 2) rfl ?_)
  refine q_geti (κ := 5) (k := 8) (φ := 258) (pc' := 5) C B (cw_k B.2.2 k0) fl_X4_46 rfl rfl rfl dX4_take_2 rfl (fun x_1 ex_1 => ?_)
  refine lv_icmp_ne (tgt := 9) hx hb dX4_take_5 (by decide) (fun c_2 => ?_) (fun c_2 => hp_n (n := 8) rfl ?_)
  ·
    have jc_2 := il_ne c_2
    refine lv_aload_n hx hb dX4_take_9 rfl (lv_at hl 0 rfl) (hp_n (n := 10) rfl ?_)
    refine lv_aload_n hx hb dX4_take_10 rfl (lv_at hl 0 rfl) (hp_n (n := 11) rfl ?_)
    refine q_geti (κ := 5) (k := 9) (φ := 259) (pc' := 14) C B (cw_k B.2.2 k0) fl_X4_49 rfl rfl rfl dX4_take_11 rfl (fun x_3 ex_3 => ?_)
    refine lv_if_ne (tgt := 21) hx hb dX4_take_14 (by decide) (fun c_4 => ?_) (fun c_4 => hp_n (n := 17) rfl ?_)
    ·
      have jc_4 := il_ne c_4
      refine lv_aload_n hx hb dX4_take_21 rfl (lv_at hl 0 rfl) (hp_n (n := 22) rfl ?_)
      refine q_geti (κ := 5) (k := 10) (φ := 260) (pc' := 25) C B (cw_k B.2.2 k0) fl_X4_52 rfl rfl rfl dX4_take_22 rfl (fun x_5 ex_5 => ?_)
      refine lv_iload_n hx hb dX4_take_25 rfl (lv_at hl 1 rfl) (hp_n (n := 26) rfl ?_)
      refine q_ci (pc' := 29) B (hp_runS (As := [.int x_5, .int a1]) (rest := [.ref a0]) C B (t_J9_min_7cf53 Γ l α B.2.2.1 x_5 a1) lb_J9_min_7cf53 ls_J9_min_7cf53 lk_X4_89 rfl (by decide) rfl hl.1 rfl (Nat.le_of_ble_eq_true rfl) dX4_take_26 ⟨Nat.le_refl _, Nat.le_refl _⟩) (fun _ _ h => by rw [h.1]; exact B.2.2) rfl (fun rh_6 αh_6 Hh_6 Lh_6 ph_6 Bh_6 => ?_)
      rw [ph_6.1] at Bh_6
      obtain ⟨ph_6a, ph_6b, ph_6c⟩ := ph_6.2
      refine q_puti (κ := 5) (k := 10) (φ := 260) (pc' := 32) C Bh_6 (cw_k Bh_6.2.2 k0) fl_X4_52 rfl rfl rfl rfl rfl rfl (cw_sI Bh_6.2.2 (by decide) (fun h => absurd h (by decide))) dX4_take_29 rfl (fun αh_7 Hh_7 Lh_7 eh_7 Bh_7 => ?_)
      refine lv_aload_n hx hb dX4_take_32 rfl (lv_at hl 0 rfl) (hp_n (n := 33) rfl ?_)
      refine lv_dup hx hb dX4_take_33 rfl (hp_n (n := 34) rfl ?_)
      have t_8 : x_3 = hp_I αh_7 259 a0 := by rw [eh_7, hp_I_ne (by decide)]; exact ex_3
      refine q_getj (κ := 5) (k := 9) (φ := 259) (pc' := 37) C Bh_7 (cw_k Bh_7.2.2 k0) fl_X4_49 rfl rfl rfl t_8 dX4_take_34 rfl ?_
      refine lv_iconst (v := 1) hx hb dX4_take_37 (by decide) (hp_n (n := 38) rfl ?_)
      refine lv_iadd hx hb dX4_take_38 (hp_n (n := 39) rfl (lv_topi (fun x_9 ex_9 => ?_)))
      refine q_puti (κ := 5) (k := 9) (φ := 259) (pc' := 42) C Bh_7 (cw_k Bh_7.2.2 k0) fl_X4_49 rfl rfl rfl rfl rfl rfl (cw_sI Bh_7.2.2 (by decide) (fun h => absurd h (by decide))) dX4_take_39 rfl (fun αh_10 Hh_10 Lh_10 eh_10 Bh_10 => ?_)
      exact q_vret C Bh_10 hr hlk Bh_10.2.2 dX4_take_42
    ·
      have jc_4 := il_eq c_4
      refine lv_iload_n hx hb dX4_take_17 rfl (lv_at hl 1 rfl) (hp_n (n := 18) rfl ?_)
      refine lv_goto (tgt := 29) hx hb dX4_take_18 (by decide) ?_
      refine q_puti (κ := 5) (k := 10) (φ := 260) (pc' := 32) C B (cw_k B.2.2 k0) fl_X4_52 rfl rfl rfl rfl rfl rfl (cw_sI B.2.2 (by decide) (fun h => absurd h (by decide))) dX4_take_29 rfl (fun αh_11 Hh_11 Lh_11 eh_11 Bh_11 => ?_)
      refine lv_aload_n hx hb dX4_take_32 rfl (lv_at hl 0 rfl) (hp_n (n := 33) rfl ?_)
      refine lv_dup hx hb dX4_take_33 rfl (hp_n (n := 34) rfl ?_)
      have t_12 : x_3 = hp_I αh_11 259 a0 := by rw [eh_11, hp_I_ne (by decide)]; exact ex_3
      refine q_getj (κ := 5) (k := 9) (φ := 259) (pc' := 37) C Bh_11 (cw_k Bh_11.2.2 k0) fl_X4_49 rfl rfl rfl t_12 dX4_take_34 rfl ?_
      refine lv_iconst (v := 1) hx hb dX4_take_37 (by decide) (hp_n (n := 38) rfl ?_)
      refine lv_iadd hx hb dX4_take_38 (hp_n (n := 39) rfl (lv_topi (fun x_13 ex_13 => ?_)))
      refine q_puti (κ := 5) (k := 9) (φ := 259) (pc' := 42) C Bh_11 (cw_k Bh_11.2.2 k0) fl_X4_49 rfl rfl rfl rfl rfl rfl (cw_sI Bh_11.2.2 (by decide) (fun h => absurd h (by decide))) dX4_take_39 rfl (fun αh_14 Hh_14 Lh_14 eh_14 Bh_14 => ?_)
      exact q_vret C Bh_14 hr hlk Bh_14.2.2 dX4_take_42
  ·
    have jc_2 := il_eq c_2
    exact q_vret C B hr hlk B.2.2 dX4_take_8
abbrev w_X4_goBack : cw_W := ([259, 260], [], [], [])
set_option maxRecDepth 100000 in
set_option maxHeartbeats 4000000 in
theorem t_X4_goBack (n : Nat) : ∀ (Γ : hp_G) (l : Launch) (α : hp_T) (g : GC α) (a0 : Nat) (k0 : hp_K α a0 = 5) (a1 : Int32) (a2 : Int32) (hd : a1.toInt + 1 ≤ (n : Int)), Met l yX4_goBack (hp_ws yX4_goBack cX4_goBack 7 none) (hp_rm (n + 4) 0 0) (hp_Pc Γ α [.ref a0, .int a1, .int a2]) (hp_Qv Γ (fun β => cw w_X4_goBack α β)) 0 0 (hp_A Γ) := by
  induction n using Nat.strongRecOn with
  | ind n ihR =>
  intro Γ l α g a0 k0 a1 a2 hd
  refine hp_start (by decide) ?_
  intro p e s m below meth c C hr hlk B0 hnm
  have C : hp_C Γ p m c cX4_goBack 7 s ([.ref a0, .int a1, .int a2] : List Value).toArray RX4 := C
  have hx := C.1.1
  have hb := C.1.2.1
  have hown := C.1.2.2.2.1
  have hts := C.1.2.2.2.2
  have B : hp_B Γ (cw w_X4_goBack) s α α s.heap [] := ⟨B0.1, B0.2.1, cw_rf g⟩
  have lit0 : (0 : Int32).toInt = 0 := by decide
  have lit1 : (1 : Int32).toInt = 1 := by decide
  have lit65521 : (65521 : Int32).toInt = 65521 := by decide
  have hl := lv_entry ([.ref a0, .int a1, .int a2]) (n := 7) (Nat.le_of_ble_eq_true rfl)
  show W p l e (hp_rm (n + 4) 0 0) s m ([.ref a0, .int a1, .int a2] : List Value).toArray below meth c s.heap [] 0 0 (MQ below (hp_Qv Γ (fun β => cw w_X4_goBack α β)) ([.ref a0, .int a1, .int a2] : List Value).toArray s 0 0 (hp_A Γ)) (entryFrame m ([.ref a0, .int a1, .int a2] : List Value).toArray 7)
  rw [lg_entry_eq]
  generalize (lg_sl ([.ref a0, .int a1, .int a2]) ++ List.replicate (7 - (lg_sl ([.ref a0, .int a1, .int a2])).length) Slot.unset).toArray = ls at hl ⊢
  have hl : lv_has ls 7 [(0, .ref a0), (1, .int a1), (2, .int a2)] := hl
  refine lv_iload_n hx hb dX4_goBack_0 rfl (lv_at hl 1 rfl) (hp_n (n := 1) rfl ?_)
  refine lv_aload_n hx hb dX4_goBack_1 rfl (lv_at hl 0 rfl) (hp_n (n := 2) rfl ?_)
  refine q_geti (κ := 5) (k := 5) (φ := 255) (pc' := 5) C B (cw_k B.2.2 k0) fl_X4_37 rfl rfl rfl dX4_goBack_2 rfl (fun x_1 ex_1 => ?_)
  have J12 : ∀ (Hh_2 : Heap) (Lh_2 : List Loc) (Bh_2 : hp_B Γ (cw w_X4_goBack) s α α Hh_2 Lh_2) (ls : Array Slot) (hl : lv_has ls 7 [(0, .ref a0), (2, .int a2)]), W p l e (hp_rm (n + 4) 0 0) s m ([.ref a0, .int a1, .int a2] : List Value).toArray below meth c Hh_2 Lh_2 0 0 (MQ below (hp_Qv Γ (fun β => cw w_X4_goBack α β)) ([.ref a0, .int a1, .int a2] : List Value).toArray s 0 0 (hp_A Γ)) (F0 m 12 ls []) := by
    intro Hh_2 Lh_2 Bh_2 ls hl
    refine lv_aload_n hx hb dX4_goBack_12 rfl (lv_at hl 0 rfl) (hp_n (n := 13) rfl ?_)
    refine lv_iload_n hx hb dX4_goBack_13 rfl (lv_at hl 1 rfl) (hp_n (n := 14) rfl ?_)
    refine q_cv (pc' := 17) Bh_2 (hp_runV (As := [.int a2]) (rest := []) C Bh_2 (t_X4_take Γ l α Bh_2.2.2.1 a0 (cw_k Bh_2.2.2 k0) a2) lb_X4_take lv_X4_take lk_X4_68 (cw_k Bh_2.2.2 k0) rfl (by omega) rfl hl.1 rfl (Nat.le_of_ble_eq_true rfl) dX4_goBack_14 ⟨Nat.le_refl _, Nat.le_refl _⟩) (fun _ h => cw_tr Bh_2.2.2 h (by decide)) rfl (fun αh_3 Hh_3 Lh_3 ph_3 Bh_3 => ?_)
    exact q_vret C Bh_3 hr hlk Bh_3.2.2 dX4_goBack_17
  refine lv_icmp_lt (tgt := 12) hx hb dX4_goBack_5 (by decide) (fun c_4 => ?_) (fun c_4 => hp_n (n := 8) rfl ?_)
  ·
    have jc_4 := il_lt c_4
    exact J12 s.heap [] B ls (lv_sub hl [0, 2] rfl)
  ·
    have jc_4 := il_nlt c_4
    refine lv_iload_n hx hb dX4_goBack_8 rfl (lv_at hl 1 rfl) (hp_n (n := 9) rfl ?_)
    refine lv_if_ge (tgt := 18) hx hb dX4_goBack_9 (by decide) (fun c_5 => ?_) (fun c_5 => hp_n (n := 12) rfl ?_)
    ·
      have jc_5 := il_le c_5
      refine lv_iload_n hx hb dX4_goBack_18 rfl (lv_at hl 1 rfl) (hp_n (n := 19) rfl ?_)
      refine lv_aload_n hx hb dX4_goBack_19 rfl (lv_at hl 0 rfl) (hp_n (n := 20) rfl ?_)
      refine q_geti (κ := 5) (k := 6) (φ := 256) (pc' := 23) C B (cw_k B.2.2 k0) fl_X4_40 rfl rfl rfl dX4_goBack_20 rfl (fun x_6 ex_6 => ?_)
      refine lv_icmp_ne (tgt := 30) hx hb dX4_goBack_23 (by decide) (fun c_7 => ?_) (fun c_7 => hp_n (n := 26) rfl ?_)
      ·
        have jc_7 := il_ne c_7
        refine lv_iconst (v := 0) hx hb dX4_goBack_30 (by decide) (hp_n (n := 31) rfl ?_)
        refine lv_istore_n (lv' := [(3, .int 0), (0, .ref a0), (1, .int a1), (2, .int a2)]) hx hb dX4_goBack_31 rfl hl (by decide) rfl (fun ls hl => hp_n (n := 32) rfl ?_)
        refine lv_iload_n hx hb dX4_goBack_32 rfl (lv_at hl 0 rfl) (hp_n (n := 33) rfl ?_)
        refine lv_if_eq (tgt := 43) hx hb dX4_goBack_33 (by decide) (fun c_8 => ?_) (fun c_8 => hp_n (n := 36) rfl ?_)
        rotate_left
        · exact absurd c_8 (by decide)
        refine lv_aload_n hx hb dX4_goBack_43 rfl (lv_at hl 1 rfl) (hp_n (n := 44) rfl ?_)
        refine q_getr (κ := 5) (k := 4) (φ := 254) (pc' := 47) C B (cw_k B.2.2 k0) fl_X4_33 rfl rfl rfl (cw_r B.2.2 k0 rfl rfl (by decide) (by decide)) dX4_goBack_44 rfl (fun b_9 eb_9 kb_9 => ?_)
        refine lv_iload_n hx hb dX4_goBack_47 rfl (lv_at hl 2 rfl) (hp_n (n := 48) rfl ?_)
        refine q_ci (pc' := 51) B (hp_runV (As := [.int a1]) (rest := []) C B (t_X5_at Γ l α B.2.2.1 b_9 (cw_k B.2.2 kb_9) a1) lb_X5_at lv_X5_at lk_X4_71 (cw_k B.2.2 kb_9) rfl (by omega) rfl hl.1 rfl (Nat.le_of_ble_eq_true rfl) dX4_goBack_48 ⟨Nat.le_refl _, Nat.le_refl _⟩) (fun _ _ h => by rw [h]; exact B.2.2) rfl (fun rh_10 αh_10 Hh_10 Lh_10 ph_10 Bh_10 => ?_)
        rw [ph_10] at Bh_10
        refine lv_istore (lv' := [(4, .int rh_10), (3, .int 0), (0, .ref a0), (1, .int a1), (2, .int a2)]) hx hb dX4_goBack_51 hl (by decide) rfl (fun ls hl => hp_n (n := 53) rfl ?_)
        refine lv_aload_n hx hb dX4_goBack_53 rfl (lv_at hl 2 rfl) (hp_n (n := 54) rfl ?_)
        refine q_getr (κ := 5) (k := 3) (φ := 253) (pc' := 57) C Bh_10 (cw_k Bh_10.2.2 k0) fl_X4_26 rfl rfl rfl (cw_r Bh_10.2.2 k0 rfl rfl (by decide) (by decide)) dX4_goBack_54 rfl (fun b_11 eb_11 kb_11 => ?_)
        refine lv_iload_n hx hb dX4_goBack_57 rfl (lv_at hl 3 rfl) (hp_n (n := 58) rfl ?_)
        refine q_ci (pc' := 61) Bh_10 (hp_runV (As := [.int a1]) (rest := []) C Bh_10 (t_X8_isAhead Γ l α Bh_10.2.2.1 b_11 (cw_k Bh_10.2.2 kb_11) a1) lb_X8_isAhead lv_X8_isAhead lk_X4_75 (cw_k Bh_10.2.2 kb_11) rfl (by omega) rfl hl.1 rfl (Nat.le_of_ble_eq_true rfl) dX4_goBack_58 ⟨Nat.le_refl _, Nat.le_refl _⟩) (fun _ _ h => by rw [h.1]; exact Bh_10.2.2) rfl (fun rh_12 αh_12 Hh_12 Lh_12 ph_12 Bh_12 => ?_)
        rw [ph_12.1] at Bh_12
        have zh_12 := ph_12.2
        refine lv_iload_n hx hb dX4_goBack_61 rfl (lv_at hl 1 rfl) (hp_n (n := 62) rfl ?_)
        refine lv_icmp_eq (tgt := 80) hx hb dX4_goBack_62 (by decide) (fun c_13 => ?_) (fun c_13 => hp_n (n := 65) rfl ?_)
        ·
          have jc_13 := il_eq c_13
          refine lv_aload_n hx hb dX4_goBack_80 rfl (lv_at hl 2 rfl) (hp_n (n := 81) rfl ?_)
          refine lv_iload hx hb dX4_goBack_81 (lv_at hl 0 rfl) (hp_n (n := 83) rfl ?_)
          refine lv_iload_n hx hb dX4_goBack_83 rfl (lv_at hl 4 rfl) (hp_n (n := 84) rfl ?_)
          refine q_ci (pc' := 87) Bh_12 (hp_runV (As := [.int rh_10, .int a2]) (rest := []) C Bh_12 (t_X4_leastRoot Γ l α Bh_12.2.2.1 a0 (cw_k Bh_12.2.2 k0) rh_10 a2) lb_X4_leastRoot lv_X4_leastRoot lk_X4_83 (cw_k Bh_12.2.2 k0) rfl (by omega) rfl hl.1 rfl (Nat.le_of_ble_eq_true rfl) dX4_goBack_84 ⟨Nat.le_refl _, Nat.le_refl _⟩) (fun _ _ h => by rw [h]; exact Bh_12.2.2) rfl (fun rh_14 αh_14 Hh_14 Lh_14 ph_14 Bh_14 => ?_)
          rw [ph_14] at Bh_14
          refine lv_istore (lv' := [(5, .int rh_14), (4, .int rh_10), (3, .int 0), (0, .ref a0), (1, .int a1), (2, .int a2)]) hx hb dX4_goBack_87 hl (by decide) rfl (fun ls hl => hp_n (n := 89) rfl ?_)
          refine lv_iconst (v := 0) hx hb dX4_goBack_89 (by decide) (hp_n (n := 90) rfl ?_)
          have J92 : ∀ (nq : Nat) (αh_15 : hp_T) (Hh_15 : Heap) (Lh_15 : List Loc) (Bh_15 : hp_B Γ (cw w_X4_goBack) s α αh_15 Hh_15 Lh_15) (v5_h_15 : Int32) (v6_h_15 : Int32) (ih_15_0 : 0 ≤ v6_h_15.toInt) (ls : Array Slot) (hl : lv_has ls 7 [(0, .ref a0), (1, .int a1), (5, .int v5_h_15), (6, .int v6_h_15)]) (hmu92 : (2147483647 - v6_h_15.toInt).toNat = nq), W p l e (hp_rm (n + 4) 0 0) s m ([.ref a0, .int a1, .int a2] : List Value).toArray below meth c Hh_15 Lh_15 0 0 (MQ below (hp_Qv Γ (fun β => cw w_X4_goBack α β)) ([.ref a0, .int a1, .int a2] : List Value).toArray s 0 0 (hp_A Γ)) (F0 m 92 ls []) := by
            intro nq
            induction nq using Nat.strongRecOn with
            | ind nq ih92 =>
            intro αh_15 Hh_15 Lh_15 Bh_15 v5_h_15 v6_h_15 ih_15_0 ls hl hmu92
            have inv92_0 := ih_15_0
            refine lv_iload hx hb dX4_goBack_92 (lv_at hl 3 rfl) (hp_n (n := 94) rfl ?_)
            refine lv_aload_n hx hb dX4_goBack_94 rfl (lv_at hl 0 rfl) (hp_n (n := 95) rfl ?_)
            refine q_geti (κ := 5) (k := 2) (φ := 252) (pc' := 98) C Bh_15 (cw_k Bh_15.2.2 k0) fl_X4_19 rfl rfl rfl dX4_goBack_95 rfl (fun x_16 ex_16 => ?_)
            refine lv_icmp_ge (tgt := 141) hx hb dX4_goBack_98 (by decide) (fun c_17 => ?_) (fun c_17 => hp_n (n := 101) rfl ?_)
            ·
              have jc_17 := il_le c_17
              exact q_vret C Bh_15 hr hlk Bh_15.2.2 dX4_goBack_141
            ·
              have jc_17 := il_nle c_17
              refine lv_iload hx hb dX4_goBack_101 (lv_at hl 2 rfl) (hp_n (n := 103) rfl ?_)
              refine lv_if_lt (tgt := 141) hx hb dX4_goBack_103 (by decide) (fun c_18 => ?_) (fun c_18 => hp_n (n := 106) rfl ?_)
              ·
                have jc_18 := il_lt c_18
                exact q_vret C Bh_15 hr hlk Bh_15.2.2 dX4_goBack_141
              ·
                have jc_18 := il_nlt c_18
                refine lv_iload hx hb dX4_goBack_106 (lv_at hl 2 rfl) (hp_n (n := 108) rfl ?_)
                refine lv_ldc hx hb hown (hts _ kc_X4_9) dX4_goBack_108 (hp_n (n := 110) rfl ?_)
                refine lv_icmp_ge (tgt := 141) hx hb dX4_goBack_110 (by decide) (fun c_19 => ?_) (fun c_19 => hp_n (n := 113) rfl ?_)
                ·
                  have jc_19 := il_le c_19
                  exact q_vret C Bh_15 hr hlk Bh_15.2.2 dX4_goBack_141
                ·
                  have jc_19 := il_nle c_19
                  refine lv_aload_n hx hb dX4_goBack_113 rfl (lv_at hl 0 rfl) (hp_n (n := 114) rfl ?_)
                  refine lv_iload_n hx hb dX4_goBack_114 rfl (lv_at hl 1 rfl) (hp_n (n := 115) rfl ?_)
                  refine lv_iconst (v := 1) hx hb dX4_goBack_115 (by decide) (hp_n (n := 116) rfl ?_)
                  refine lv_isub hx hb dX4_goBack_116 (hp_n (n := 117) rfl (lv_topi (fun x_20 ex_20 => ?_)))
                  try have qx_20 : x_20.toInt = a1.toInt - (1 : Int32).toInt := by have b0 := ib_hi a1; have c0 := ib_lo a1; have b1 := ib_hi x_1; have c1 := ib_lo x_1; have b2 := ib_hi x_6; have c2 := ib_lo x_6; rw [ex_20]; exact ii_sub (by omega) (by omega)
                  refine lv_aload_n hx hb dX4_goBack_117 rfl (lv_at hl 0 rfl) (hp_n (n := 118) rfl ?_)
                  refine lv_iload hx hb dX4_goBack_118 (lv_at hl 2 rfl) (hp_n (n := 120) rfl ?_)
                  refine q_ci (pc' := 123) Bh_15 (hp_runV (As := [.int v5_h_15]) (rest := [.int x_20, .ref a0]) C Bh_15 (t_X4_firstOf Γ l αh_15 Bh_15.2.2.1 a0 (cw_k Bh_15.2.2 k0) v5_h_15) lb_X4_firstOf lv_X4_firstOf lk_X4_86 (cw_k Bh_15.2.2 k0) rfl (by omega) rfl hl.1 rfl (Nat.le_of_ble_eq_true rfl) dX4_goBack_120 ⟨Nat.le_refl _, Nat.le_refl _⟩) (fun _ _ h => by rw [h]; exact Bh_15.2.2) rfl (fun rh_21 αh_21 Hh_21 Lh_21 ph_21 Bh_21 => ?_)
                  rw [ph_21] at Bh_21
                  refine q_cv (pc' := 126) Bh_21 (hp_runS (As := [.ref a0, .int x_20, .int rh_21]) (rest := []) C Bh_21 (ihR (n - 1) (by omega) Γ l αh_15 Bh_21.2.2.1 a0 (cw_k Bh_21.2.2 k0) x_20 rh_21 (by omega)) lb_X4_goBack ls_X4_goBack lk_X4_64 rfl (by omega) rfl hl.1 rfl (Nat.le_of_ble_eq_true rfl) dX4_goBack_123 ⟨Nat.le_refl _, Nat.le_refl _⟩) (fun _ h => cw_tr Bh_21.2.2 h (by decide)) rfl (fun αh_22 Hh_22 Lh_22 ph_22 Bh_22 => ?_)
                  refine lv_aload_n hx hb dX4_goBack_126 rfl (lv_at hl 0 rfl) (hp_n (n := 127) rfl ?_)
                  refine q_getr (κ := 5) (k := 1) (φ := 251) (pc' := 130) C Bh_22 (cw_k Bh_22.2.2 k0) fl_X4_16 rfl rfl rfl (cw_r Bh_22.2.2 k0 rfl rfl (by decide) (by decide)) dX4_goBack_127 rfl (fun b_23 eb_23 kb_23 => ?_)
                  refine lv_iload hx hb dX4_goBack_130 (lv_at hl 2 rfl) (hp_n (n := 132) rfl ?_)
                  refine q_ial (κ := 35) (n := 65521) (pc' := 133) C Bh_22 (cw_k Bh_22.2.2 kb_23) (by decide) rfl (vi_of (by omega) (by omega)) dX4_goBack_132 rfl (lv_topi (fun x_24 ex_24 => ?_))
                  refine lv_istore (lv' := [(5, .int x_24), (0, .ref a0), (1, .int a1), (6, .int v6_h_15)]) hx hb dX4_goBack_133 hl (by decide) rfl (fun ls hl => hp_n (n := 135) rfl ?_)
                  obtain ⟨x_25, ex_25⟩ : ∃ y : Int32, y = v6_h_15 + 1 := ⟨_, rfl⟩
                  try have qx_25 : x_25.toInt = v6_h_15.toInt + (1 : Int32).toInt := by have b0 := ib_hi v6_h_15; have c0 := ib_lo v6_h_15; have b1 := ib_hi x_16; have c1 := ib_lo x_16; rw [ex_25]; exact ii_add (by omega) (by omega)
                  refine lv_iinc (v := x_25) (lv' := [(6, .int x_25), (5, .int x_24), (0, .ref a0), (1, .int a1)]) hx hb dX4_goBack_135 hl (k := 3) rfl (by rw [ex_25]; rfl) (by decide) rfl (fun ls hl => hp_n (n := 138) rfl ?_)
                  refine lv_goto (tgt := 92) hx hb dX4_goBack_138 (by decide) ?_
                  exact ih92 _ (by have q0 := ib_hi x_16; have q1 := ib_lo x_16; have qa := ib_hi v6_h_15; have qb := ib_lo v6_h_15; have qc : (v6_h_15 + 1).toInt = v6_h_15.toInt + (1 : Int32).toInt := ii_add (by omega) (by omega); rw [ex_25]; omega) αh_22 Hh_22 Lh_22 Bh_22 x_24 x_25 (by omega) ls (lv_sub hl [2, 3, 1, 0] rfl) rfl
          refine lv_istore (lv' := [(6, .int 0), (5, .int rh_14), (4, .int rh_10), (3, .int 0), (0, .ref a0), (1, .int a1), (2, .int a2)]) hx hb dX4_goBack_90 hl (by decide) rfl (fun ls hl => hp_n (n := 92) rfl ?_)
          exact J92 _ α Hh_14 Lh_14 Bh_14 rh_14 0 (by omega) ls (lv_sub hl [4, 5, 1, 0] rfl) rfl
        ·
          have jc_13 := il_ne c_13
          refine lv_aload_n hx hb dX4_goBack_65 rfl (lv_at hl 2 rfl) (hp_n (n := 66) rfl ?_)
          refine lv_iload_n hx hb dX4_goBack_66 rfl (lv_at hl 3 rfl) (hp_n (n := 67) rfl ?_)
          refine lv_iconst (v := 1) hx hb dX4_goBack_67 (by decide) (hp_n (n := 68) rfl ?_)
          refine lv_isub hx hb dX4_goBack_68 (hp_n (n := 69) rfl (lv_topi (fun x_26 ex_26 => ?_)))
          try have qx_26 : x_26.toInt = a1.toInt - (1 : Int32).toInt := by have b0 := ib_hi a1; have c0 := ib_lo a1; have b1 := ib_hi x_1; have c1 := ib_lo x_1; have b2 := ib_hi x_6; have c2 := ib_lo x_6; rw [ex_26]; exact ii_sub (by omega) (by omega)
          refine lv_aload_n hx hb dX4_goBack_69 rfl (lv_at hl 2 rfl) (hp_n (n := 70) rfl ?_)
          refine lv_iload hx hb dX4_goBack_70 (lv_at hl 0 rfl) (hp_n (n := 72) rfl ?_)
          refine lv_iload_n hx hb dX4_goBack_72 rfl (lv_at hl 4 rfl) (hp_n (n := 73) rfl ?_)
          refine q_ci (pc' := 76) Bh_12 (hp_runV (As := [.int rh_10, .int a2]) (rest := [.int x_26, .ref a0]) C Bh_12 (t_X4_secondOf Γ l α Bh_12.2.2.1 a0 (cw_k Bh_12.2.2 k0) rh_10 a2) lb_X4_secondOf lv_X4_secondOf lk_X4_79 (cw_k Bh_12.2.2 k0) rfl (by omega) rfl hl.1 rfl (Nat.le_of_ble_eq_true rfl) dX4_goBack_73 ⟨Nat.le_refl _, Nat.le_refl _⟩) (fun _ _ h => by rw [h]; exact Bh_12.2.2) rfl (fun rh_27 αh_27 Hh_27 Lh_27 ph_27 Bh_27 => ?_)
          rw [ph_27] at Bh_27
          refine q_cv (pc' := 79) Bh_27 (hp_runS (As := [.ref a0, .int x_26, .int rh_27]) (rest := []) C Bh_27 (ihR (n - 1) (by omega) Γ l α Bh_27.2.2.1 a0 (cw_k Bh_27.2.2 k0) x_26 rh_27 (by omega)) lb_X4_goBack ls_X4_goBack lk_X4_64 rfl (by omega) rfl hl.1 rfl (Nat.le_of_ble_eq_true rfl) dX4_goBack_76 ⟨Nat.le_refl _, Nat.le_refl _⟩) (fun _ h => cw_tr Bh_27.2.2 h (by decide)) rfl (fun αh_28 Hh_28 Lh_28 ph_28 Bh_28 => ?_)
          exact q_vret C Bh_28 hr hlk Bh_28.2.2 dX4_goBack_79
      ·
        have jc_7 := il_eq c_7
        refine lv_iconst (v := 1) hx hb dX4_goBack_26 (by decide) (hp_n (n := 27) rfl ?_)
        refine lv_goto (tgt := 31) hx hb dX4_goBack_27 (by decide) ?_
        refine lv_istore_n (lv' := [(3, .int 1), (0, .ref a0), (1, .int a1), (2, .int a2)]) hx hb dX4_goBack_31 rfl hl (by decide) rfl (fun ls hl => hp_n (n := 32) rfl ?_)
        refine lv_iload_n hx hb dX4_goBack_32 rfl (lv_at hl 0 rfl) (hp_n (n := 33) rfl ?_)
        refine lv_if_eq (tgt := 43) hx hb dX4_goBack_33 (by decide) (fun c_29 => ?_) (fun c_29 => hp_n (n := 36) rfl ?_)
        · exact absurd c_29 (by decide)
        refine lv_aload_n hx hb dX4_goBack_36 rfl (lv_at hl 1 rfl) (hp_n (n := 37) rfl ?_)
        refine q_geti (κ := 5) (k := 7) (φ := 257) (pc' := 40) C B (cw_k B.2.2 k0) fl_X4_43 rfl rfl rfl dX4_goBack_37 rfl (fun x_30 ex_30 => ?_)
        refine lv_goto (tgt := 51) hx hb dX4_goBack_40 (by decide) ?_
        refine lv_istore (lv' := [(4, .int x_30), (3, .int 1), (0, .ref a0), (1, .int a1), (2, .int a2)]) hx hb dX4_goBack_51 hl (by decide) rfl (fun ls hl => hp_n (n := 53) rfl ?_)
        refine lv_aload_n hx hb dX4_goBack_53 rfl (lv_at hl 2 rfl) (hp_n (n := 54) rfl ?_)
        refine q_getr (κ := 5) (k := 3) (φ := 253) (pc' := 57) C B (cw_k B.2.2 k0) fl_X4_26 rfl rfl rfl (cw_r B.2.2 k0 rfl rfl (by decide) (by decide)) dX4_goBack_54 rfl (fun b_31 eb_31 kb_31 => ?_)
        refine lv_iload_n hx hb dX4_goBack_57 rfl (lv_at hl 3 rfl) (hp_n (n := 58) rfl ?_)
        refine q_ci (pc' := 61) B (hp_runV (As := [.int a1]) (rest := []) C B (t_X8_isAhead Γ l α B.2.2.1 b_31 (cw_k B.2.2 kb_31) a1) lb_X8_isAhead lv_X8_isAhead lk_X4_75 (cw_k B.2.2 kb_31) rfl (by omega) rfl hl.1 rfl (Nat.le_of_ble_eq_true rfl) dX4_goBack_58 ⟨Nat.le_refl _, Nat.le_refl _⟩) (fun _ _ h => by rw [h.1]; exact B.2.2) rfl (fun rh_32 αh_32 Hh_32 Lh_32 ph_32 Bh_32 => ?_)
        rw [ph_32.1] at Bh_32
        have zh_32 := ph_32.2
        refine lv_iload_n hx hb dX4_goBack_61 rfl (lv_at hl 1 rfl) (hp_n (n := 62) rfl ?_)
        refine lv_icmp_eq (tgt := 80) hx hb dX4_goBack_62 (by decide) (fun c_33 => ?_) (fun c_33 => hp_n (n := 65) rfl ?_)
        ·
          have jc_33 := il_eq c_33
          refine lv_aload_n hx hb dX4_goBack_80 rfl (lv_at hl 2 rfl) (hp_n (n := 81) rfl ?_)
          refine lv_iload hx hb dX4_goBack_81 (lv_at hl 0 rfl) (hp_n (n := 83) rfl ?_)
          refine lv_iload_n hx hb dX4_goBack_83 rfl (lv_at hl 4 rfl) (hp_n (n := 84) rfl ?_)
          refine q_ci (pc' := 87) Bh_32 (hp_runV (As := [.int x_30, .int a2]) (rest := []) C Bh_32 (t_X4_leastRoot Γ l α Bh_32.2.2.1 a0 (cw_k Bh_32.2.2 k0) x_30 a2) lb_X4_leastRoot lv_X4_leastRoot lk_X4_83 (cw_k Bh_32.2.2 k0) rfl (by omega) rfl hl.1 rfl (Nat.le_of_ble_eq_true rfl) dX4_goBack_84 ⟨Nat.le_refl _, Nat.le_refl _⟩) (fun _ _ h => by rw [h]; exact Bh_32.2.2) rfl (fun rh_34 αh_34 Hh_34 Lh_34 ph_34 Bh_34 => ?_)
          rw [ph_34] at Bh_34
          refine lv_istore (lv' := [(5, .int rh_34), (4, .int x_30), (3, .int 1), (0, .ref a0), (1, .int a1), (2, .int a2)]) hx hb dX4_goBack_87 hl (by decide) rfl (fun ls hl => hp_n (n := 89) rfl ?_)
          refine lv_iconst (v := 0) hx hb dX4_goBack_89 (by decide) (hp_n (n := 90) rfl ?_)
          have J92 : ∀ (nq : Nat) (αh_35 : hp_T) (Hh_35 : Heap) (Lh_35 : List Loc) (Bh_35 : hp_B Γ (cw w_X4_goBack) s α αh_35 Hh_35 Lh_35) (v5_h_35 : Int32) (v6_h_35 : Int32) (ih_35_0 : 0 ≤ v6_h_35.toInt) (ls : Array Slot) (hl : lv_has ls 7 [(0, .ref a0), (1, .int a1), (5, .int v5_h_35), (6, .int v6_h_35)]) (hmu92 : (2147483647 - v6_h_35.toInt).toNat = nq), W p l e (hp_rm (n + 4) 0 0) s m ([.ref a0, .int a1, .int a2] : List Value).toArray below meth c Hh_35 Lh_35 0 0 (MQ below (hp_Qv Γ (fun β => cw w_X4_goBack α β)) ([.ref a0, .int a1, .int a2] : List Value).toArray s 0 0 (hp_A Γ)) (F0 m 92 ls []) := by
            intro nq
            induction nq using Nat.strongRecOn with
            | ind nq ih92 =>
            intro αh_35 Hh_35 Lh_35 Bh_35 v5_h_35 v6_h_35 ih_35_0 ls hl hmu92
            have inv92_0 := ih_35_0
            refine lv_iload hx hb dX4_goBack_92 (lv_at hl 3 rfl) (hp_n (n := 94) rfl ?_)
            refine lv_aload_n hx hb dX4_goBack_94 rfl (lv_at hl 0 rfl) (hp_n (n := 95) rfl ?_)
            refine q_geti (κ := 5) (k := 2) (φ := 252) (pc' := 98) C Bh_35 (cw_k Bh_35.2.2 k0) fl_X4_19 rfl rfl rfl dX4_goBack_95 rfl (fun x_36 ex_36 => ?_)
            refine lv_icmp_ge (tgt := 141) hx hb dX4_goBack_98 (by decide) (fun c_37 => ?_) (fun c_37 => hp_n (n := 101) rfl ?_)
            ·
              have jc_37 := il_le c_37
              exact q_vret C Bh_35 hr hlk Bh_35.2.2 dX4_goBack_141
            ·
              have jc_37 := il_nle c_37
              refine lv_iload hx hb dX4_goBack_101 (lv_at hl 2 rfl) (hp_n (n := 103) rfl ?_)
              refine lv_if_lt (tgt := 141) hx hb dX4_goBack_103 (by decide) (fun c_38 => ?_) (fun c_38 => hp_n (n := 106) rfl ?_)
              ·
                have jc_38 := il_lt c_38
                exact q_vret C Bh_35 hr hlk Bh_35.2.2 dX4_goBack_141
              ·
                have jc_38 := il_nlt c_38
                refine lv_iload hx hb dX4_goBack_106 (lv_at hl 2 rfl) (hp_n (n := 108) rfl ?_)
                refine lv_ldc hx hb hown (hts _ kc_X4_9) dX4_goBack_108 (hp_n (n := 110) rfl ?_)
                refine lv_icmp_ge (tgt := 141) hx hb dX4_goBack_110 (by decide) (fun c_39 => ?_) (fun c_39 => hp_n (n := 113) rfl ?_)
                ·
                  have jc_39 := il_le c_39
                  exact q_vret C Bh_35 hr hlk Bh_35.2.2 dX4_goBack_141
                ·
                  have jc_39 := il_nle c_39
                  refine lv_aload_n hx hb dX4_goBack_113 rfl (lv_at hl 0 rfl) (hp_n (n := 114) rfl ?_)
                  refine lv_iload_n hx hb dX4_goBack_114 rfl (lv_at hl 1 rfl) (hp_n (n := 115) rfl ?_)
                  refine lv_iconst (v := 1) hx hb dX4_goBack_115 (by decide) (hp_n (n := 116) rfl ?_)
                  refine lv_isub hx hb dX4_goBack_116 (hp_n (n := 117) rfl (lv_topi (fun x_40 ex_40 => ?_)))
                  try have qx_40 : x_40.toInt = a1.toInt - (1 : Int32).toInt := by have b0 := ib_hi a1; have c0 := ib_lo a1; have b1 := ib_hi x_1; have c1 := ib_lo x_1; have b2 := ib_hi x_6; have c2 := ib_lo x_6; rw [ex_40]; exact ii_sub (by omega) (by omega)
                  refine lv_aload_n hx hb dX4_goBack_117 rfl (lv_at hl 0 rfl) (hp_n (n := 118) rfl ?_)
                  refine lv_iload hx hb dX4_goBack_118 (lv_at hl 2 rfl) (hp_n (n := 120) rfl ?_)
                  refine q_ci (pc' := 123) Bh_35 (hp_runV (As := [.int v5_h_35]) (rest := [.int x_40, .ref a0]) C Bh_35 (t_X4_firstOf Γ l αh_35 Bh_35.2.2.1 a0 (cw_k Bh_35.2.2 k0) v5_h_35) lb_X4_firstOf lv_X4_firstOf lk_X4_86 (cw_k Bh_35.2.2 k0) rfl (by omega) rfl hl.1 rfl (Nat.le_of_ble_eq_true rfl) dX4_goBack_120 ⟨Nat.le_refl _, Nat.le_refl _⟩) (fun _ _ h => by rw [h]; exact Bh_35.2.2) rfl (fun rh_41 αh_41 Hh_41 Lh_41 ph_41 Bh_41 => ?_)
                  rw [ph_41] at Bh_41
                  refine q_cv (pc' := 126) Bh_41 (hp_runS (As := [.ref a0, .int x_40, .int rh_41]) (rest := []) C Bh_41 (ihR (n - 1) (by omega) Γ l αh_35 Bh_41.2.2.1 a0 (cw_k Bh_41.2.2 k0) x_40 rh_41 (by omega)) lb_X4_goBack ls_X4_goBack lk_X4_64 rfl (by omega) rfl hl.1 rfl (Nat.le_of_ble_eq_true rfl) dX4_goBack_123 ⟨Nat.le_refl _, Nat.le_refl _⟩) (fun _ h => cw_tr Bh_41.2.2 h (by decide)) rfl (fun αh_42 Hh_42 Lh_42 ph_42 Bh_42 => ?_)
                  refine lv_aload_n hx hb dX4_goBack_126 rfl (lv_at hl 0 rfl) (hp_n (n := 127) rfl ?_)
                  refine q_getr (κ := 5) (k := 1) (φ := 251) (pc' := 130) C Bh_42 (cw_k Bh_42.2.2 k0) fl_X4_16 rfl rfl rfl (cw_r Bh_42.2.2 k0 rfl rfl (by decide) (by decide)) dX4_goBack_127 rfl (fun b_43 eb_43 kb_43 => ?_)
                  refine lv_iload hx hb dX4_goBack_130 (lv_at hl 2 rfl) (hp_n (n := 132) rfl ?_)
                  refine q_ial (κ := 35) (n := 65521) (pc' := 133) C Bh_42 (cw_k Bh_42.2.2 kb_43) (by decide) rfl (vi_of (by omega) (by omega)) dX4_goBack_132 rfl (lv_topi (fun x_44 ex_44 => ?_))
                  refine lv_istore (lv' := [(5, .int x_44), (0, .ref a0), (1, .int a1), (6, .int v6_h_35)]) hx hb dX4_goBack_133 hl (by decide) rfl (fun ls hl => hp_n (n := 135) rfl ?_)
                  obtain ⟨x_45, ex_45⟩ : ∃ y : Int32, y = v6_h_35 + 1 := ⟨_, rfl⟩
                  try have qx_45 : x_45.toInt = v6_h_35.toInt + (1 : Int32).toInt := by have b0 := ib_hi v6_h_35; have c0 := ib_lo v6_h_35; have b1 := ib_hi x_36; have c1 := ib_lo x_36; rw [ex_45]; exact ii_add (by omega) (by omega)
                  refine lv_iinc (v := x_45) (lv' := [(6, .int x_45), (5, .int x_44), (0, .ref a0), (1, .int a1)]) hx hb dX4_goBack_135 hl (k := 3) rfl (by rw [ex_45]; rfl) (by decide) rfl (fun ls hl => hp_n (n := 138) rfl ?_)
                  refine lv_goto (tgt := 92) hx hb dX4_goBack_138 (by decide) ?_
                  exact ih92 _ (by have q0 := ib_hi x_36; have q1 := ib_lo x_36; have qa := ib_hi v6_h_35; have qb := ib_lo v6_h_35; have qc : (v6_h_35 + 1).toInt = v6_h_35.toInt + (1 : Int32).toInt := ii_add (by omega) (by omega); rw [ex_45]; omega) αh_42 Hh_42 Lh_42 Bh_42 x_44 x_45 (by omega) ls (lv_sub hl [2, 3, 1, 0] rfl) rfl
          refine lv_istore (lv' := [(6, .int 0), (5, .int rh_34), (4, .int x_30), (3, .int 1), (0, .ref a0), (1, .int a1), (2, .int a2)]) hx hb dX4_goBack_90 hl (by decide) rfl (fun ls hl => hp_n (n := 92) rfl ?_)
          exact J92 _ α Hh_34 Lh_34 Bh_34 rh_34 0 (by omega) ls (lv_sub hl [4, 5, 1, 0] rfl) rfl
        ·
          have jc_33 := il_ne c_33
          refine lv_aload_n hx hb dX4_goBack_65 rfl (lv_at hl 2 rfl) (hp_n (n := 66) rfl ?_)
          refine lv_iload_n hx hb dX4_goBack_66 rfl (lv_at hl 3 rfl) (hp_n (n := 67) rfl ?_)
          refine lv_iconst (v := 1) hx hb dX4_goBack_67 (by decide) (hp_n (n := 68) rfl ?_)
          refine lv_isub hx hb dX4_goBack_68 (hp_n (n := 69) rfl (lv_topi (fun x_46 ex_46 => ?_)))
          try have qx_46 : x_46.toInt = a1.toInt - (1 : Int32).toInt := by have b0 := ib_hi a1; have c0 := ib_lo a1; have b1 := ib_hi x_1; have c1 := ib_lo x_1; have b2 := ib_hi x_6; have c2 := ib_lo x_6; rw [ex_46]; exact ii_sub (by omega) (by omega)
          refine lv_aload_n hx hb dX4_goBack_69 rfl (lv_at hl 2 rfl) (hp_n (n := 70) rfl ?_)
          refine lv_iload hx hb dX4_goBack_70 (lv_at hl 0 rfl) (hp_n (n := 72) rfl ?_)
          refine lv_iload_n hx hb dX4_goBack_72 rfl (lv_at hl 4 rfl) (hp_n (n := 73) rfl ?_)
          refine q_ci (pc' := 76) Bh_32 (hp_runV (As := [.int x_30, .int a2]) (rest := [.int x_46, .ref a0]) C Bh_32 (t_X4_secondOf Γ l α Bh_32.2.2.1 a0 (cw_k Bh_32.2.2 k0) x_30 a2) lb_X4_secondOf lv_X4_secondOf lk_X4_79 (cw_k Bh_32.2.2 k0) rfl (by omega) rfl hl.1 rfl (Nat.le_of_ble_eq_true rfl) dX4_goBack_73 ⟨Nat.le_refl _, Nat.le_refl _⟩) (fun _ _ h => by rw [h]; exact Bh_32.2.2) rfl (fun rh_47 αh_47 Hh_47 Lh_47 ph_47 Bh_47 => ?_)
          rw [ph_47] at Bh_47
          refine q_cv (pc' := 79) Bh_47 (hp_runS (As := [.ref a0, .int x_46, .int rh_47]) (rest := []) C Bh_47 (ihR (n - 1) (by omega) Γ l α Bh_47.2.2.1 a0 (cw_k Bh_47.2.2 k0) x_46 rh_47 (by omega)) lb_X4_goBack ls_X4_goBack lk_X4_64 rfl (by omega) rfl hl.1 rfl (Nat.le_of_ble_eq_true rfl) dX4_goBack_76 ⟨Nat.le_refl _, Nat.le_refl _⟩) (fun _ h => cw_tr Bh_47.2.2 h (by decide)) rfl (fun αh_48 Hh_48 Lh_48 ph_48 Bh_48 => ?_)
          exact q_vret C Bh_48 hr hlk Bh_48.2.2 dX4_goBack_79
    ·
      have jc_5 := il_nle c_5
      exact J12 s.heap [] B ls (lv_sub hl [0, 2] rfl)
abbrev w_X4_seek : cw_W := ([259, 260], [], [], [])
set_option maxRecDepth 100000 in
set_option maxHeartbeats 4000000 in
theorem t_X4_seek (Γ : hp_G) (l : Launch) (α : hp_T) (g : GC α) (a0 : Nat) (k0 : hp_K α a0 = 5) (a1 : Int32) : Met l yX4_seek (hp_ws yX4_seek cX4_seek 2 none) (hp_rm 70 0 0) (hp_Pc Γ α [.ref a0, .int a1]) (hp_Qv Γ (fun β => cw w_X4_seek α β)) 0 0 (hp_A Γ) := by
  refine hp_start (by decide) ?_
  intro p e s m below meth c C hr hlk B0 hnm
  have C : hp_C Γ p m c cX4_seek 2 s ([.ref a0, .int a1] : List Value).toArray RX4 := C
  have hx := C.1.1
  have hb := C.1.2.1
  have hown := C.1.2.2.2.1
  have hts := C.1.2.2.2.2
  have B : hp_B Γ (cw w_X4_seek) s α α s.heap [] := ⟨B0.1, B0.2.1, cw_rf g⟩
  have lit0 : (0 : Int32).toInt = 0 := by decide
  have lit1 : (1 : Int32).toInt = 1 := by decide
  have hl := lv_entry ([.ref a0, .int a1]) (n := 2) (Nat.le_of_ble_eq_true rfl)
  show W p l e (hp_rm 70 0 0) s m ([.ref a0, .int a1] : List Value).toArray below meth c s.heap [] 0 0 (MQ below (hp_Qv Γ (fun β => cw w_X4_seek α β)) ([.ref a0, .int a1] : List Value).toArray s 0 0 (hp_A Γ)) (entryFrame m ([.ref a0, .int a1] : List Value).toArray 2)
  rw [lg_entry_eq]
  generalize (lg_sl ([.ref a0, .int a1]) ++ List.replicate (2 - (lg_sl ([.ref a0, .int a1])).length) Slot.unset).toArray = ls at hl ⊢
  have hl : lv_has ls 2 [(0, .ref a0), (1, .int a1)] := hl
  refine lv_aload_n hx hb dX4_seek_0 rfl (lv_at hl 0 rfl) (hp_n (n := 1) rfl ?_)
  refine lv_iconst (v := 0) hx hb dX4_seek_1 (by decide) (hp_n (n := 2) rfl ?_)
  refine q_puti (κ := 5) (k := 9) (φ := 259) (pc' := 5) C B (cw_k B.2.2 k0) fl_X4_49 rfl rfl rfl rfl rfl rfl (cw_sI B.2.2 (by decide) (fun h => absurd h (by decide))) dX4_seek_2 rfl (fun αh_1 Hh_1 Lh_1 eh_1 Bh_1 => ?_)
  refine lv_aload_n hx hb dX4_seek_5 rfl (lv_at hl 0 rfl) (hp_n (n := 6) rfl ?_)
  refine lv_iconst (v := 0) hx hb dX4_seek_6 (by decide) (hp_n (n := 7) rfl ?_)
  refine q_puti (κ := 5) (k := 10) (φ := 260) (pc' := 10) C Bh_1 (cw_k Bh_1.2.2 k0) fl_X4_52 rfl rfl rfl rfl rfl rfl (cw_sI Bh_1.2.2 (by decide) (fun h => absurd h (by decide))) dX4_seek_7 rfl (fun αh_2 Hh_2 Lh_2 eh_2 Bh_2 => ?_)
  refine lv_aload_n hx hb dX4_seek_10 rfl (lv_at hl 0 rfl) (hp_n (n := 11) rfl ?_)
  refine q_geti (κ := 5) (k := 2) (φ := 252) (pc' := 14) C Bh_2 (cw_k Bh_2.2.2 k0) fl_X4_19 rfl rfl rfl dX4_seek_11 rfl (fun x_3 ex_3 => ?_)
  refine lv_if_le (tgt := 31) hx hb dX4_seek_14 (by decide) (fun c_4 => ?_) (fun c_4 => hp_n (n := 17) rfl ?_)
  ·
    have jc_4 := il_le c_4
    exact q_vret C Bh_2 hr hlk Bh_2.2.2 dX4_seek_31
  ·
    have jc_4 := il_nle c_4
    refine lv_aload_n hx hb dX4_seek_17 rfl (lv_at hl 0 rfl) (hp_n (n := 18) rfl ?_)
    refine lv_aload_n hx hb dX4_seek_18 rfl (lv_at hl 0 rfl) (hp_n (n := 19) rfl ?_)
    refine q_getr (κ := 5) (k := 3) (φ := 253) (pc' := 22) C Bh_2 (cw_k Bh_2.2.2 k0) fl_X4_26 rfl rfl rfl (cw_r Bh_2.2.2 k0 rfl rfl (by decide) (by decide)) dX4_seek_19 rfl (fun b_5 eb_5 kb_5 => ?_)
    refine q_geti (κ := 9) (k := 3) (φ := 453) (pc' := 25) C Bh_2 (cw_k Bh_2.2.2 kb_5) fl_X4_61 rfl rfl rfl dX4_seek_22 rfl (fun x_6 ex_6 => ?_)
    obtain ⟨gx_6a, gx_6b⟩ : 0 ≤ x_6.toInt ∧ x_6.toInt ≤ 64 := by rw [ex_6]; exact Bh_2.2.2.1.1 453 b_5 rfl
    refine lv_iconst (v := 1) hx hb dX4_seek_25 (by decide) (hp_n (n := 26) rfl ?_)
    refine lv_isub hx hb dX4_seek_26 (hp_n (n := 27) rfl (lv_topi (fun x_7 ex_7 => ?_)))
    try have qx_7 : x_7.toInt = x_6.toInt - (1 : Int32).toInt := by have b0 := ib_hi x_6; have c0 := ib_lo x_6; rw [ex_7]; exact ii_sub (by omega) (by omega)
    refine lv_iload_n hx hb dX4_seek_27 rfl (lv_at hl 1 rfl) (hp_n (n := 28) rfl ?_)
    refine q_cv (pc' := 31) Bh_2 (hp_runS (As := [.ref a0, .int x_7, .int a1]) (rest := []) C Bh_2 (t_X4_goBack 64 Γ l αh_2 Bh_2.2.2.1 a0 (cw_k Bh_2.2.2 k0) x_7 a1 (by omega)) lb_X4_goBack ls_X4_goBack lk_X4_64 rfl (by decide) rfl hl.1 rfl (Nat.le_of_ble_eq_true rfl) dX4_seek_28 ⟨Nat.le_refl _, Nat.le_refl _⟩) (fun _ h => cw_tr Bh_2.2.2 h (by decide)) rfl (fun αh_8 Hh_8 Lh_8 ph_8 Bh_8 => ?_)
    exact q_vret C Bh_8 hr hlk Bh_8.2.2 dX4_seek_31
abbrev w_X4_seekThing : cw_W := ([255, 256, 258, 259, 260], [253, 254], [], [])
set_option maxRecDepth 100000 in
set_option maxHeartbeats 4000000 in
theorem t_X4_seekThing (Γ : hp_G) (l : Launch) (α : hp_T) (g : GC α) (a0 : Nat) (k0 : hp_K α a0 = 5) (a1 : Nat) (k1 : hp_K α a1 = 9) (a2 : Nat) (k2 : hp_K α a2 = 6) (a3 : Int32) (a4 : Int32) : Met l yX4_seekThing (hp_ws yX4_seekThing cX4_seekThing 5 none) (hp_rm 71 0 0) (hp_Pc Γ α [.ref a0, .ref a1, .ref a2, .int a3, .int a4]) (hp_Qv Γ (fun β => cw w_X4_seekThing α β)) 0 0 (hp_A Γ) := by
  refine hp_start (by decide) ?_
  intro p e s m below meth c C hr hlk B0 hnm
  have C : hp_C Γ p m c cX4_seekThing 5 s ([.ref a0, .ref a1, .ref a2, .int a3, .int a4] : List Value).toArray RX4 := C
  have hx := C.1.1
  have hb := C.1.2.1
  have hown := C.1.2.2.2.1
  have hts := C.1.2.2.2.2
  have B : hp_B Γ (cw w_X4_seekThing) s α α s.heap [] := ⟨B0.1, B0.2.1, cw_rf g⟩
  have litm1 : ((-1) : Int32).toInt = (-1) := by decide
  have lit0 : (0 : Int32).toInt = 0 := by decide
  have hl := lv_entry ([.ref a0, .ref a1, .ref a2, .int a3, .int a4]) (n := 5) (Nat.le_of_ble_eq_true rfl)
  show W p l e (hp_rm 71 0 0) s m ([.ref a0, .ref a1, .ref a2, .int a3, .int a4] : List Value).toArray below meth c s.heap [] 0 0 (MQ below (hp_Qv Γ (fun β => cw w_X4_seekThing α β)) ([.ref a0, .ref a1, .ref a2, .int a3, .int a4] : List Value).toArray s 0 0 (hp_A Γ)) (entryFrame m ([.ref a0, .ref a1, .ref a2, .int a3, .int a4] : List Value).toArray 5)
  rw [lg_entry_eq]
  generalize (lg_sl ([.ref a0, .ref a1, .ref a2, .int a3, .int a4]) ++ List.replicate (5 - (lg_sl ([.ref a0, .ref a1, .ref a2, .int a3, .int a4])).length) Slot.unset).toArray = ls at hl ⊢
  have hl : lv_has ls 5 [(0, .ref a0), (1, .ref a1), (2, .ref a2), (3, .int a3), (4, .int a4)] := hl
  refine lv_aload_n hx hb dX4_seekThing_0 rfl (lv_at hl 0 rfl) (hp_n (n := 1) rfl ?_)
  refine lv_aload_n hx hb dX4_seekThing_1 rfl (lv_at hl 1 rfl) (hp_n (n := 2) rfl ?_)
  refine q_putr (κ := 5) (k := 3) (φ := 253) (pc' := 5) C B (cw_k B.2.2 k0) fl_X4_26 rfl rfl rfl rfl rfl rfl (cw_sR B.2.2 (by decide) (Or.inl k1)) dX4_seekThing_2 rfl (fun αh_1 Hh_1 Lh_1 eh_1 Bh_1 => ?_)
  refine lv_aload_n hx hb dX4_seekThing_5 rfl (lv_at hl 0 rfl) (hp_n (n := 6) rfl ?_)
  refine lv_aload_n hx hb dX4_seekThing_6 rfl (lv_at hl 2 rfl) (hp_n (n := 7) rfl ?_)
  refine q_putr (κ := 5) (k := 4) (φ := 254) (pc' := 10) C Bh_1 (cw_k Bh_1.2.2 k0) fl_X4_33 rfl rfl rfl rfl rfl rfl (cw_sR Bh_1.2.2 (by decide) (Or.inl k2)) dX4_seekThing_7 rfl (fun αh_2 Hh_2 Lh_2 eh_2 Bh_2 => ?_)
  refine lv_aload_n hx hb dX4_seekThing_10 rfl (lv_at hl 0 rfl) (hp_n (n := 11) rfl ?_)
  refine lv_iconst (v := 0) hx hb dX4_seekThing_11 (by decide) (hp_n (n := 12) rfl ?_)
  refine q_puti (κ := 5) (k := 5) (φ := 255) (pc' := 15) C Bh_2 (cw_k Bh_2.2.2 k0) fl_X4_37 rfl rfl rfl rfl rfl rfl (cw_sI Bh_2.2.2 (by decide) (fun h => absurd h (by decide))) dX4_seekThing_12 rfl (fun αh_3 Hh_3 Lh_3 eh_3 Bh_3 => ?_)
  refine lv_aload_n hx hb dX4_seekThing_15 rfl (lv_at hl 0 rfl) (hp_n (n := 16) rfl ?_)
  refine lv_iconst (v := (-1)) hx hb dX4_seekThing_16 (by decide) (hp_n (n := 17) rfl ?_)
  refine q_puti (κ := 5) (k := 6) (φ := 256) (pc' := 20) C Bh_3 (cw_k Bh_3.2.2 k0) fl_X4_40 rfl rfl rfl rfl rfl rfl (cw_sI Bh_3.2.2 (by decide) (fun h => absurd h (by decide))) dX4_seekThing_17 rfl (fun αh_4 Hh_4 Lh_4 eh_4 Bh_4 => ?_)
  refine lv_aload_n hx hb dX4_seekThing_20 rfl (lv_at hl 0 rfl) (hp_n (n := 21) rfl ?_)
  refine lv_iload_n hx hb dX4_seekThing_21 rfl (lv_at hl 3 rfl) (hp_n (n := 22) rfl ?_)
  refine q_puti (κ := 5) (k := 8) (φ := 258) (pc' := 25) C Bh_4 (cw_k Bh_4.2.2 k0) fl_X4_46 rfl rfl rfl rfl rfl rfl (cw_sI Bh_4.2.2 (by decide) (fun h => absurd h (by decide))) dX4_seekThing_22 rfl (fun αh_5 Hh_5 Lh_5 eh_5 Bh_5 => ?_)
  refine lv_aload_n hx hb dX4_seekThing_25 rfl (lv_at hl 0 rfl) (hp_n (n := 26) rfl ?_)
  refine lv_iload hx hb dX4_seekThing_26 (lv_at hl 4 rfl) (hp_n (n := 28) rfl ?_)
  refine q_cv (pc' := 31) Bh_5 (hp_runV (As := [.int a4]) (rest := []) C Bh_5 (t_X4_seek Γ l αh_5 Bh_5.2.2.1 a0 (cw_k Bh_5.2.2 k0) a4) lb_X4_seek lv_X4_seek lk_X4_57 (cw_k Bh_5.2.2 k0) rfl (by decide) rfl hl.1 rfl (Nat.le_of_ble_eq_true rfl) dX4_seekThing_28 ⟨Nat.le_refl _, Nat.le_refl _⟩) (fun _ h => cw_tr Bh_5.2.2 h (by decide)) rfl (fun αh_6 Hh_6 Lh_6 ph_6 Bh_6 => ?_)
  exact q_vret C Bh_6 hr hlk Bh_6.2.2 dX4_seekThing_31
abbrev w_X4_seekStep : cw_W := ([255, 256, 257, 258, 259, 260], [253, 254], [], [])
set_option maxRecDepth 100000 in
set_option maxHeartbeats 4000000 in
theorem t_X4_seekStep (Γ : hp_G) (l : Launch) (α : hp_T) (g : GC α) (a0 : Nat) (k0 : hp_K α a0 = 5) (a1 : Nat) (k1 : hp_K α a1 = 9) (a2 : Nat) (k2 : hp_K α a2 = 6) (a3 : Int32) (a4 : Int32) (a5 : Int32) : Met l yX4_seekStep (hp_ws yX4_seekStep cX4_seekStep 6 none) (hp_rm 71 0 0) (hp_Pc Γ α [.ref a0, .ref a1, .ref a2, .int a3, .int a4, .int a5]) (hp_Qv Γ (fun β => cw w_X4_seekStep α β)) 0 0 (hp_A Γ) := by
  refine hp_start (by decide) ?_
  intro p e s m below meth c C hr hlk B0 hnm
  have C : hp_C Γ p m c cX4_seekStep 6 s ([.ref a0, .ref a1, .ref a2, .int a3, .int a4, .int a5] : List Value).toArray RX4 := C
  have hx := C.1.1
  have hb := C.1.2.1
  have hown := C.1.2.2.2.1
  have hts := C.1.2.2.2.2
  have B : hp_B Γ (cw w_X4_seekStep) s α α s.heap [] := ⟨B0.1, B0.2.1, cw_rf g⟩
  have litm1 : ((-1) : Int32).toInt = (-1) := by decide
  have hl := lv_entry ([.ref a0, .ref a1, .ref a2, .int a3, .int a4, .int a5]) (n := 6) (Nat.le_of_ble_eq_true rfl)
  show W p l e (hp_rm 71 0 0) s m ([.ref a0, .ref a1, .ref a2, .int a3, .int a4, .int a5] : List Value).toArray below meth c s.heap [] 0 0 (MQ below (hp_Qv Γ (fun β => cw w_X4_seekStep α β)) ([.ref a0, .ref a1, .ref a2, .int a3, .int a4, .int a5] : List Value).toArray s 0 0 (hp_A Γ)) (entryFrame m ([.ref a0, .ref a1, .ref a2, .int a3, .int a4, .int a5] : List Value).toArray 6)
  rw [lg_entry_eq]
  generalize (lg_sl ([.ref a0, .ref a1, .ref a2, .int a3, .int a4, .int a5]) ++ List.replicate (6 - (lg_sl ([.ref a0, .ref a1, .ref a2, .int a3, .int a4, .int a5])).length) Slot.unset).toArray = ls at hl ⊢
  have hl : lv_has ls 6 [(0, .ref a0), (1, .ref a1), (2, .ref a2), (3, .int a3), (4, .int a4), (5, .int a5)] := hl
  refine lv_aload_n hx hb dX4_seekStep_0 rfl (lv_at hl 0 rfl) (hp_n (n := 1) rfl ?_)
  refine lv_aload_n hx hb dX4_seekStep_1 rfl (lv_at hl 1 rfl) (hp_n (n := 2) rfl ?_)
  refine q_putr (κ := 5) (k := 3) (φ := 253) (pc' := 5) C B (cw_k B.2.2 k0) fl_X4_26 rfl rfl rfl rfl rfl rfl (cw_sR B.2.2 (by decide) (Or.inl k1)) dX4_seekStep_2 rfl (fun αh_1 Hh_1 Lh_1 eh_1 Bh_1 => ?_)
  refine lv_aload_n hx hb dX4_seekStep_5 rfl (lv_at hl 0 rfl) (hp_n (n := 6) rfl ?_)
  refine lv_aload_n hx hb dX4_seekStep_6 rfl (lv_at hl 2 rfl) (hp_n (n := 7) rfl ?_)
  refine q_putr (κ := 5) (k := 4) (φ := 254) (pc' := 10) C Bh_1 (cw_k Bh_1.2.2 k0) fl_X4_33 rfl rfl rfl rfl rfl rfl (cw_sR Bh_1.2.2 (by decide) (Or.inl k2)) dX4_seekStep_7 rfl (fun αh_2 Hh_2 Lh_2 eh_2 Bh_2 => ?_)
  refine lv_aload_n hx hb dX4_seekStep_10 rfl (lv_at hl 0 rfl) (hp_n (n := 11) rfl ?_)
  refine lv_iload hx hb dX4_seekStep_11 (lv_at hl 5 rfl) (hp_n (n := 13) rfl ?_)
  refine q_puti (κ := 5) (k := 5) (φ := 255) (pc' := 16) C Bh_2 (cw_k Bh_2.2.2 k0) fl_X4_37 rfl rfl rfl rfl rfl rfl (cw_sI Bh_2.2.2 (by decide) (fun h => absurd h (by decide))) dX4_seekStep_13 rfl (fun αh_3 Hh_3 Lh_3 eh_3 Bh_3 => ?_)
  refine lv_aload_n hx hb dX4_seekStep_16 rfl (lv_at hl 0 rfl) (hp_n (n := 17) rfl ?_)
  refine lv_iload hx hb dX4_seekStep_17 (lv_at hl 5 rfl) (hp_n (n := 19) rfl ?_)
  refine q_puti (κ := 5) (k := 6) (φ := 256) (pc' := 22) C Bh_3 (cw_k Bh_3.2.2 k0) fl_X4_40 rfl rfl rfl rfl rfl rfl (cw_sI Bh_3.2.2 (by decide) (fun h => absurd h (by decide))) dX4_seekStep_19 rfl (fun αh_4 Hh_4 Lh_4 eh_4 Bh_4 => ?_)
  refine lv_aload_n hx hb dX4_seekStep_22 rfl (lv_at hl 0 rfl) (hp_n (n := 23) rfl ?_)
  refine lv_iload_n hx hb dX4_seekStep_23 rfl (lv_at hl 3 rfl) (hp_n (n := 24) rfl ?_)
  refine q_puti (κ := 5) (k := 7) (φ := 257) (pc' := 27) C Bh_4 (cw_k Bh_4.2.2 k0) fl_X4_43 rfl rfl rfl rfl rfl rfl (cw_sI Bh_4.2.2 (by decide) (fun h => absurd h (by decide))) dX4_seekStep_24 rfl (fun αh_5 Hh_5 Lh_5 eh_5 Bh_5 => ?_)
  refine lv_aload_n hx hb dX4_seekStep_27 rfl (lv_at hl 0 rfl) (hp_n (n := 28) rfl ?_)
  refine lv_iconst (v := (-1)) hx hb dX4_seekStep_28 (by decide) (hp_n (n := 29) rfl ?_)
  refine q_puti (κ := 5) (k := 8) (φ := 258) (pc' := 32) C Bh_5 (cw_k Bh_5.2.2 k0) fl_X4_46 rfl rfl rfl rfl rfl rfl (cw_sI Bh_5.2.2 (by decide) (fun h => absurd h (by decide))) dX4_seekStep_29 rfl (fun αh_6 Hh_6 Lh_6 eh_6 Bh_6 => ?_)
  refine lv_aload_n hx hb dX4_seekStep_32 rfl (lv_at hl 0 rfl) (hp_n (n := 33) rfl ?_)
  refine lv_iload hx hb dX4_seekStep_33 (lv_at hl 4 rfl) (hp_n (n := 35) rfl ?_)
  refine q_cv (pc' := 38) Bh_6 (hp_runV (As := [.int a4]) (rest := []) C Bh_6 (t_X4_seek Γ l αh_6 Bh_6.2.2.1 a0 (cw_k Bh_6.2.2 k0) a4) lb_X4_seek lv_X4_seek lk_X4_57 (cw_k Bh_6.2.2 k0) rfl (by decide) rfl hl.1 rfl (Nat.le_of_ble_eq_true rfl) dX4_seekStep_35 ⟨Nat.le_refl _, Nat.le_refl _⟩) (fun _ h => cw_tr Bh_6.2.2 h (by decide)) rfl (fun αh_7 Hh_7 Lh_7 ph_7 Bh_7 => ?_)
  exact q_vret C Bh_7 hr hlk Bh_7.2.2 dX4_seekStep_38
abbrev w_X4_prepare : cw_W := ([252], [], [34, 35], [])
set_option maxRecDepth 100000 in
set_option maxHeartbeats 4000000 in
theorem t_X4_prepare (Γ : hp_G) (l : Launch) (α : hp_T) (g : GC α) (a0 : Nat) (k0 : hp_K α a0 = 5) (a1 : Int32) : Met l yX4_prepare (hp_ws yX4_prepare cX4_prepare 4 none) (hp_rm 0 0 0) (hp_Pc Γ α [.ref a0, .int a1]) (hp_Qv Γ (fun β => cw w_X4_prepare α β)) 0 0 (hp_A Γ) := by
  refine hp_start (by decide) ?_
  intro p e s m below meth c C hr hlk B0 hnm
  have C : hp_C Γ p m c cX4_prepare 4 s ([.ref a0, .int a1] : List Value).toArray RX4 := C
  have hx := C.1.1
  have hb := C.1.2.1
  have hown := C.1.2.2.2.1
  have hts := C.1.2.2.2.2
  have B : hp_B Γ (cw w_X4_prepare) s α α s.heap [] := ⟨B0.1, B0.2.1, cw_rf g⟩
  have litm1 : ((-1) : Int32).toInt = (-1) := by decide
  have lit0 : (0 : Int32).toInt = 0 := by decide
  have lit1 : (1 : Int32).toInt = 1 := by decide
  have lit101 : (101 : Int32).toInt = 101 := by decide
  have lit65521 : (65521 : Int32).toInt = 65521 := by decide
  have hl := lv_entry ([.ref a0, .int a1]) (n := 4) (Nat.le_of_ble_eq_true rfl)
  show W p l e (hp_rm 0 0 0) s m ([.ref a0, .int a1] : List Value).toArray below meth c s.heap [] 0 0 (MQ below (hp_Qv Γ (fun β => cw w_X4_prepare α β)) ([.ref a0, .int a1] : List Value).toArray s 0 0 (hp_A Γ)) (entryFrame m ([.ref a0, .int a1] : List Value).toArray 4)
  rw [lg_entry_eq]
  generalize (lg_sl ([.ref a0, .int a1]) ++ List.replicate (4 - (lg_sl ([.ref a0, .int a1])).length) Slot.unset).toArray = ls at hl ⊢
  have hl : lv_has ls 4 [(0, .ref a0), (1, .int a1)] := hl
  refine lv_aload_n hx hb dX4_prepare_0 rfl (lv_at hl 0 rfl) (hp_n (n := 1) rfl ?_)
  refine q_geti (κ := 5) (k := 2) (φ := 252) (pc' := 4) C B (cw_k B.2.2 k0) fl_X4_19 rfl rfl rfl dX4_prepare_1 rfl (fun x_1 ex_1 => ?_)
  refine lv_iload_n hx hb dX4_prepare_4 rfl (lv_at hl 1 rfl) (hp_n (n := 5) rfl ?_)
  refine lv_icmp_eq (tgt := 20) hx hb dX4_prepare_5 (by decide) (fun c_2 => ?_) (fun c_2 => hp_n (n := 8) rfl ?_)
  ·
    have jc_2 := il_eq c_2
    exact q_vret C B hr hlk B.2.2 dX4_prepare_20
  ·
    have jc_2 := il_ne c_2
    refine lv_iload_n hx hb dX4_prepare_8 rfl (lv_at hl 1 rfl) (hp_n (n := 9) rfl ?_)
    refine lv_bipush (v := 101) hx hb dX4_prepare_9 (by decide) (hp_n (n := 11) rfl ?_)
    refine lv_icmp_lt (tgt := 20) hx hb dX4_prepare_11 (by decide) (fun c_3 => ?_) (fun c_3 => hp_n (n := 14) rfl ?_)
    ·
      have jc_3 := il_lt c_3
      exact q_vret C B hr hlk B.2.2 dX4_prepare_20
    ·
      have jc_3 := il_nlt c_3
      refine lv_iload_n hx hb dX4_prepare_14 rfl (lv_at hl 1 rfl) (hp_n (n := 15) rfl ?_)
      refine lv_ldc hx hb hown (hts _ kc_X4_9) dX4_prepare_15 (hp_n (n := 17) rfl ?_)
      refine lv_icmp_le (tgt := 21) hx hb dX4_prepare_17 (by decide) (fun c_4 => ?_) (fun c_4 => hp_n (n := 20) rfl ?_)
      ·
        have jc_4 := il_le c_4
        refine lv_aload_n hx hb dX4_prepare_21 rfl (lv_at hl 0 rfl) (hp_n (n := 22) rfl ?_)
        refine lv_iload_n hx hb dX4_prepare_22 rfl (lv_at hl 1 rfl) (hp_n (n := 23) rfl ?_)
        refine q_puti (κ := 5) (k := 2) (φ := 252) (pc' := 26) C B (cw_k B.2.2 k0) fl_X4_19 rfl rfl rfl rfl rfl rfl (cw_sI B.2.2 (by decide) (fun h => absurd h (by decide))) dX4_prepare_23 rfl (fun αh_5 Hh_5 Lh_5 eh_5 Bh_5 => ?_)
        refine lv_iconst (v := 0) hx hb dX4_prepare_26 (by decide) (hp_n (n := 27) rfl ?_)
        have J28 : ∀ (nq : Nat) (αh_6 : hp_T) (Hh_6 : Heap) (Lh_6 : List Loc) (Bh_6 : hp_B Γ (cw w_X4_prepare) s α αh_6 Hh_6 Lh_6) (v2_h_6 : Int32) (ih_6_0 : 0 ≤ v2_h_6.toInt) (fh_6_0 : a1 = hp_I αh_6 252 a0) (ls : Array Slot) (hl : lv_has ls 4 [(0, .ref a0), (2, .int v2_h_6)]) (hmu28 : (2147483647 - v2_h_6.toInt).toNat = nq), W p l e (hp_rm 0 0 0) s m ([.ref a0, .int a1] : List Value).toArray below meth c Hh_6 Lh_6 0 0 (MQ below (hp_Qv Γ (fun β => cw w_X4_prepare α β)) ([.ref a0, .int a1] : List Value).toArray s 0 0 (hp_A Γ)) (F0 m 28 ls []) := by
          intro nq
          induction nq using Nat.strongRecOn with
          | ind nq ih28 =>
          intro αh_6 Hh_6 Lh_6 Bh_6 v2_h_6 ih_6_0 fh_6_0 ls hl hmu28
          have inv28_0 := ih_6_0
          refine lv_iload_n hx hb dX4_prepare_28 rfl (lv_at hl 1 rfl) (hp_n (n := 29) rfl ?_)
          refine lv_aload_n hx hb dX4_prepare_29 rfl (lv_at hl 0 rfl) (hp_n (n := 30) rfl ?_)
          refine q_getj (κ := 5) (k := 2) (φ := 252) (pc' := 33) C Bh_6 (cw_k Bh_6.2.2 k0) fl_X4_19 rfl rfl rfl fh_6_0 dX4_prepare_30 rfl ?_
          have J58 : ∀ (Hh_7 : Heap) (Lh_7 : List Loc) (Bh_7 : hp_B Γ (cw w_X4_prepare) s α αh_6 Hh_7 Lh_7) (ls : Array Slot) (hl : lv_has ls 4 [(0, .ref a0)]), W p l e (hp_rm 0 0 0) s m ([.ref a0, .int a1] : List Value).toArray below meth c Hh_7 Lh_7 0 0 (MQ below (hp_Qv Γ (fun β => cw w_X4_prepare α β)) ([.ref a0, .int a1] : List Value).toArray s 0 0 (hp_A Γ)) (F0 m 58 ls []) := by
            intro Hh_7 Lh_7 Bh_7 ls hl
            refine lv_aload_n hx hb dX4_prepare_58 rfl (lv_at hl 0 rfl) (hp_n (n := 59) rfl ?_)
            refine q_getj (κ := 5) (k := 2) (φ := 252) (pc' := 62) C Bh_7 (cw_k Bh_7.2.2 k0) fl_X4_19 rfl rfl rfl fh_6_0 dX4_prepare_59 rfl ?_
            refine lv_iconst (v := 1) hx hb dX4_prepare_62 (by decide) (hp_n (n := 63) rfl ?_)
            refine lv_isub hx hb dX4_prepare_63 (hp_n (n := 64) rfl (lv_topi (fun x_8 ex_8 => ?_)))
            try have qx_8 : x_8.toInt = a1.toInt - (1 : Int32).toInt := by have b0 := ib_hi a1; have c0 := ib_lo a1; have b1 := ib_hi x_1; have c1 := ib_lo x_1; rw [ex_8]; exact ii_sub (by omega) (by omega)
            have J65 : ∀ (nq : Nat) (αh_9 : hp_T) (Hh_9 : Heap) (Lh_9 : List Loc) (Bh_9 : hp_B Γ (cw w_X4_prepare) s α αh_9 Hh_9 Lh_9) (v2_h_9 : Int32) (ih_9_0 : v2_h_9.toInt < 65521) (fh_9_0 : a1 = hp_I αh_9 252 a0) (ls : Array Slot) (hl : lv_has ls 4 [(0, .ref a0), (2, .int v2_h_9)]) (hmu65 : (v2_h_9.toInt + 1).toNat = nq), W p l e (hp_rm 0 0 0) s m ([.ref a0, .int a1] : List Value).toArray below meth c Hh_9 Lh_9 0 0 (MQ below (hp_Qv Γ (fun β => cw w_X4_prepare α β)) ([.ref a0, .int a1] : List Value).toArray s 0 0 (hp_A Γ)) (F0 m 65 ls []) := by
              intro nq
              induction nq using Nat.strongRecOn with
              | ind nq ih65 =>
              intro αh_9 Hh_9 Lh_9 Bh_9 v2_h_9 ih_9_0 fh_9_0 ls hl hmu65
              have inv65_0 := ih_9_0
              refine lv_iload_n hx hb dX4_prepare_65 rfl (lv_at hl 1 rfl) (hp_n (n := 66) rfl ?_)
              refine lv_if_lt (tgt := 132) hx hb dX4_prepare_66 (by decide) (fun c_10 => ?_) (fun c_10 => hp_n (n := 69) rfl ?_)
              ·
                have jc_10 := il_lt c_10
                exact q_vret C Bh_9 hr hlk Bh_9.2.2 dX4_prepare_132
              ·
                have jc_10 := il_nlt c_10
                refine lv_iload_n hx hb dX4_prepare_69 rfl (lv_at hl 1 rfl) (hp_n (n := 70) rfl ?_)
                refine lv_i2l hx hb dX4_prepare_70 rfl (hp_n (n := 71) rfl (lv_topl (fun x_11 ex_11 => ?_)))
                refine lv_iload_n hx hb dX4_prepare_71 rfl (lv_at hl 1 rfl) (hp_n (n := 72) rfl ?_)
                refine lv_i2l hx hb dX4_prepare_72 rfl (hp_n (n := 73) rfl (lv_topl (fun x_12 ex_12 => ?_)))
                refine lv_lmul hx hb dX4_prepare_73 (hp_n (n := 74) rfl (lv_topl (fun x_13 ex_13 => ?_)))
                refine lv_ldc2 hx hb hown (hts _ kc_X4_55) dX4_prepare_74 (hp_n (n := 77) rfl ?_)
                refine lv_iload_n hx hb dX4_prepare_77 rfl (lv_at hl 1 rfl) (hp_n (n := 78) rfl ?_)
                refine lv_i2l hx hb dX4_prepare_78 rfl (hp_n (n := 79) rfl (lv_topl (fun x_14 ex_14 => ?_)))
                refine lv_lmul hx hb dX4_prepare_79 (hp_n (n := 80) rfl (lv_topl (fun x_15 ex_15 => ?_)))
                refine lv_ladd hx hb dX4_prepare_80 (hp_n (n := 81) rfl (lv_topl (fun x_16 ex_16 => ?_)))
                refine lv_aload_n hx hb dX4_prepare_81 rfl (lv_at hl 0 rfl) (hp_n (n := 82) rfl ?_)
                refine q_getj (κ := 5) (k := 2) (φ := 252) (pc' := 85) C Bh_9 (cw_k Bh_9.2.2 k0) fl_X4_19 rfl rfl rfl fh_9_0 dX4_prepare_82 rfl ?_
                refine lv_i2l hx hb dX4_prepare_85 rfl (hp_n (n := 86) rfl (lv_topl (fun x_17 ex_17 => ?_)))
                refine lv_lrem hx hb dX4_prepare_86 (li_nz ex_17 (by omega)) (hp_n (n := 87) rfl (lv_topl (fun x_18 ex_18 => ?_)))
                refine lv_l2i hx hb dX4_prepare_87 rfl (hp_n (n := 88) rfl (lv_topi (fun x_19 ex_19 => ?_)))
                refine lv_istore_n (lv' := [(3, .int x_19), (0, .ref a0), (2, .int v2_h_9)]) hx hb dX4_prepare_88 rfl hl (by decide) rfl (fun ls hl => hp_n (n := 89) rfl ?_)
                have hr3 : 0 ≤ x_19.toInt := by simp only [ex_19, ex_18, ex_16, ex_13, ex_11, ex_12, ex_15, ex_14, ex_17]; exact rt_nn (by omega) (by omega) (by omega) (by omega)
                refine lv_iload_n hx hb dX4_prepare_89 rfl (lv_at hl 2 rfl) (hp_n (n := 90) rfl ?_)
                refine lv_aload_n hx hb dX4_prepare_90 rfl (lv_at hl 1 rfl) (hp_n (n := 91) rfl ?_)
                refine q_getr (κ := 5) (k := 1) (φ := 251) (pc' := 94) C Bh_9 (cw_k Bh_9.2.2 k0) fl_X4_16 rfl rfl rfl (cw_r Bh_9.2.2 k0 rfl rfl (by decide) (by decide)) dX4_prepare_91 rfl (fun b_20 eb_20 kb_20 => ?_)
                refine q_alen (κ := 35) (t := 0) (n := 65521) (x := 65521) (ty := .int) (pc' := 95) C Bh_9 (cw_k Bh_9.2.2 kb_20) (by decide) rfl rfl rfl dX4_prepare_94 rfl ?_
                refine lv_icmp_ge (tgt := 126) hx hb dX4_prepare_95 (by decide) (fun c_21 => ?_) (fun c_21 => hp_n (n := 98) rfl ?_)
                ·
                  have jc_21 := il_le c_21
                  obtain ⟨x_22, ex_22⟩ : ∃ y : Int32, y = v2_h_9 + (-1) := ⟨_, rfl⟩
                  try have qx_22 : x_22.toInt = v2_h_9.toInt + ((-1) : Int32).toInt := by have b0 := ib_hi v2_h_9; have c0 := ib_lo v2_h_9; rw [ex_22]; exact ii_add (by omega) (by omega)
                  refine lv_iinc (v := x_22) (lv' := [(2, .int x_22), (3, .int x_19), (0, .ref a0)]) hx hb dX4_prepare_126 hl (k := 2) rfl (by rw [ex_22]; rfl) (by decide) rfl (fun ls hl => hp_n (n := 129) rfl ?_)
                  refine lv_goto (tgt := 65) hx hb dX4_prepare_129 (by decide) ?_
                  exact ih65 _ (mu_dn1 hmu65 ex_22 (by omega)) αh_9 Hh_9 Lh_9 Bh_9 x_22 (by omega) fh_9_0 ls (lv_sub hl [2, 0] rfl) rfl
                ·
                  have jc_21 := il_nle c_21
                  refine lv_iload_n hx hb dX4_prepare_98 rfl (lv_at hl 0 rfl) (hp_n (n := 99) rfl ?_)
                  refine lv_aload_n hx hb dX4_prepare_99 rfl (lv_at hl 1 rfl) (hp_n (n := 100) rfl ?_)
                  refine q_getr (κ := 5) (k := 0) (φ := 250) (pc' := 103) C Bh_9 (cw_k Bh_9.2.2 k0) fl_X4_10 rfl rfl rfl (cw_r Bh_9.2.2 k0 rfl rfl (by decide) (by decide)) dX4_prepare_100 rfl (fun b_23 eb_23 kb_23 => ?_)
                  refine q_alen (κ := 34) (t := 0) (n := 65521) (x := 65521) (ty := .int) (pc' := 104) C Bh_9 (cw_k Bh_9.2.2 kb_23) (by decide) rfl rfl rfl dX4_prepare_103 rfl ?_
                  refine lv_icmp_ge (tgt := 126) hx hb dX4_prepare_104 (by decide) (fun c_24 => ?_) (fun c_24 => hp_n (n := 107) rfl ?_)
                  ·
                    have jc_24 := il_le c_24
                    obtain ⟨x_25, ex_25⟩ : ∃ y : Int32, y = v2_h_9 + (-1) := ⟨_, rfl⟩
                    try have qx_25 : x_25.toInt = v2_h_9.toInt + ((-1) : Int32).toInt := by have b0 := ib_hi v2_h_9; have c0 := ib_lo v2_h_9; rw [ex_25]; exact ii_add (by omega) (by omega)
                    refine lv_iinc (v := x_25) (lv' := [(2, .int x_25), (3, .int x_19), (0, .ref a0)]) hx hb dX4_prepare_126 hl (k := 2) rfl (by rw [ex_25]; rfl) (by decide) rfl (fun ls hl => hp_n (n := 129) rfl ?_)
                    refine lv_goto (tgt := 65) hx hb dX4_prepare_129 (by decide) ?_
                    exact ih65 _ (mu_dn1 hmu65 ex_25 (by omega)) αh_9 Hh_9 Lh_9 Bh_9 x_25 (by omega) fh_9_0 ls (lv_sub hl [2, 0] rfl) rfl
                  ·
                    have jc_24 := il_nle c_24
                    refine lv_aload_n hx hb dX4_prepare_107 rfl (lv_at hl 1 rfl) (hp_n (n := 108) rfl ?_)
                    refine q_gets (κ := 5) (k := 1) (φ := 251) (pc' := 111) C Bh_9 (cw_k Bh_9.2.2 k0) fl_X4_16 rfl rfl rfl eb_20 dX4_prepare_108 rfl ?_
                    refine lv_iload_n hx hb dX4_prepare_111 rfl (lv_at hl 2 rfl) (hp_n (n := 112) rfl ?_)
                    refine lv_aload_n hx hb dX4_prepare_112 rfl (lv_at hl 1 rfl) (hp_n (n := 113) rfl ?_)
                    refine q_gets (κ := 5) (k := 0) (φ := 250) (pc' := 116) C Bh_9 (cw_k Bh_9.2.2 k0) fl_X4_10 rfl rfl rfl eb_23 dX4_prepare_113 rfl ?_
                    refine lv_iload_n hx hb dX4_prepare_116 rfl (lv_at hl 0 rfl) (hp_n (n := 117) rfl ?_)
                    refine q_ial (κ := 34) (n := 65521) (pc' := 118) C Bh_9 (cw_k Bh_9.2.2 kb_23) (by decide) rfl (vi_of (by omega) (by omega)) dX4_prepare_117 rfl (lv_topi (fun x_26 ex_26 => ?_))
                    refine q_ias (κ := 35) (n := 65521) (pc' := 119) C Bh_9 (cw_k Bh_9.2.2 kb_20) (by decide) rfl (vi_of (by omega) (by omega)) rfl (cw_sE Bh_9.2.2 (by decide)) dX4_prepare_118 rfl (fun αh_27 Hh_27 Lh_27 eh_27 Bh_27 => ?_)
                    refine lv_aload_n hx hb dX4_prepare_119 rfl (lv_at hl 1 rfl) (hp_n (n := 120) rfl ?_)
                    have t_28 : b_23 = hp_R αh_27 250 a0 := by rw [eh_27]; exact eb_23
                    refine q_gets (κ := 5) (k := 0) (φ := 250) (pc' := 123) C Bh_27 (cw_k Bh_27.2.2 k0) fl_X4_10 rfl rfl rfl t_28 dX4_prepare_120 rfl ?_
                    refine lv_iload_n hx hb dX4_prepare_123 rfl (lv_at hl 0 rfl) (hp_n (n := 124) rfl ?_)
                    refine lv_iload_n hx hb dX4_prepare_124 rfl (lv_at hl 2 rfl) (hp_n (n := 125) rfl ?_)
                    refine q_ias (κ := 34) (n := 65521) (pc' := 126) C Bh_27 (cw_k Bh_27.2.2 kb_23) (by decide) rfl (vi_of (by omega) (by omega)) rfl (cw_sE Bh_27.2.2 (by decide)) dX4_prepare_125 rfl (fun αh_29 Hh_29 Lh_29 eh_29 Bh_29 => ?_)
                    obtain ⟨x_30, ex_30⟩ : ∃ y : Int32, y = v2_h_9 + (-1) := ⟨_, rfl⟩
                    try have qx_30 : x_30.toInt = v2_h_9.toInt + ((-1) : Int32).toInt := by have b0 := ib_hi v2_h_9; have c0 := ib_lo v2_h_9; rw [ex_30]; exact ii_add (by omega) (by omega)
                    refine lv_iinc (v := x_30) (lv' := [(2, .int x_30), (3, .int x_19), (0, .ref a0)]) hx hb dX4_prepare_126 hl (k := 2) rfl (by rw [ex_30]; rfl) (by decide) rfl (fun ls hl => hp_n (n := 129) rfl ?_)
                    refine lv_goto (tgt := 65) hx hb dX4_prepare_129 (by decide) ?_
                    have t_31 : a1 = hp_I αh_27 252 a0 := by rw [eh_27]; exact fh_9_0
                    have t_32 : a1 = hp_I αh_29 252 a0 := by rw [eh_29]; exact t_31
                    exact ih65 _ (mu_dn1 hmu65 ex_30 (by omega)) αh_29 Hh_29 Lh_29 Bh_29 x_30 (by omega) t_32 ls (lv_sub hl [2, 0] rfl) rfl
            refine lv_istore_n (lv' := [(2, .int x_8), (0, .ref a0)]) hx hb dX4_prepare_64 rfl hl (by decide) rfl (fun ls hl => hp_n (n := 65) rfl ?_)
            exact J65 _ αh_6 Hh_7 Lh_7 Bh_7 x_8 (by omega) fh_6_0 ls (lv_sub hl [1, 0] rfl) rfl
          refine lv_icmp_ge (tgt := 58) hx hb dX4_prepare_33 (by decide) (fun c_33 => ?_) (fun c_33 => hp_n (n := 36) rfl ?_)
          ·
            have jc_33 := il_le c_33
            exact J58 Hh_6 Lh_6 Bh_6 ls (lv_sub hl [0] rfl)
          ·
            have jc_33 := il_nle c_33
            refine lv_iload_n hx hb dX4_prepare_36 rfl (lv_at hl 1 rfl) (hp_n (n := 37) rfl ?_)
            refine lv_aload_n hx hb dX4_prepare_37 rfl (lv_at hl 0 rfl) (hp_n (n := 38) rfl ?_)
            refine q_getr (κ := 5) (k := 0) (φ := 250) (pc' := 41) C Bh_6 (cw_k Bh_6.2.2 k0) fl_X4_10 rfl rfl rfl (cw_r Bh_6.2.2 k0 rfl rfl (by decide) (by decide)) dX4_prepare_38 rfl (fun b_34 eb_34 kb_34 => ?_)
            refine q_alen (κ := 34) (t := 0) (n := 65521) (x := 65521) (ty := .int) (pc' := 42) C Bh_6 (cw_k Bh_6.2.2 kb_34) (by decide) rfl rfl rfl dX4_prepare_41 rfl ?_
            refine lv_icmp_ge (tgt := 58) hx hb dX4_prepare_42 (by decide) (fun c_35 => ?_) (fun c_35 => hp_n (n := 45) rfl ?_)
            ·
              have jc_35 := il_le c_35
              exact J58 Hh_6 Lh_6 Bh_6 ls (lv_sub hl [0] rfl)
            ·
              have jc_35 := il_nle c_35
              refine lv_aload_n hx hb dX4_prepare_45 rfl (lv_at hl 0 rfl) (hp_n (n := 46) rfl ?_)
              refine q_gets (κ := 5) (k := 0) (φ := 250) (pc' := 49) C Bh_6 (cw_k Bh_6.2.2 k0) fl_X4_10 rfl rfl rfl eb_34 dX4_prepare_46 rfl ?_
              refine lv_iload_n hx hb dX4_prepare_49 rfl (lv_at hl 1 rfl) (hp_n (n := 50) rfl ?_)
              refine lv_iconst (v := (-1)) hx hb dX4_prepare_50 (by decide) (hp_n (n := 51) rfl ?_)
              refine q_ias (κ := 34) (n := 65521) (pc' := 52) C Bh_6 (cw_k Bh_6.2.2 kb_34) (by decide) rfl (vi_of (by omega) (by omega)) rfl (cw_sE Bh_6.2.2 (by decide)) dX4_prepare_51 rfl (fun αh_36 Hh_36 Lh_36 eh_36 Bh_36 => ?_)
              obtain ⟨x_37, ex_37⟩ : ∃ y : Int32, y = v2_h_6 + 1 := ⟨_, rfl⟩
              try have qx_37 : x_37.toInt = v2_h_6.toInt + (1 : Int32).toInt := by have b0 := ib_hi a1; have c0 := ib_lo a1; have b1 := ib_hi v2_h_6; have c1 := ib_lo v2_h_6; rw [ex_37]; exact ii_add (by omega) (by omega)
              refine lv_iinc (v := x_37) (lv' := [(2, .int x_37), (0, .ref a0)]) hx hb dX4_prepare_52 hl (k := 1) rfl (by rw [ex_37]; rfl) (by decide) rfl (fun ls hl => hp_n (n := 55) rfl ?_)
              refine lv_goto (tgt := 28) hx hb dX4_prepare_55 (by decide) ?_
              have t_38 : a1 = hp_I αh_36 252 a0 := by rw [eh_36]; exact fh_6_0
              exact ih28 _ (by have q0 := ib_hi a1; have q1 := ib_lo a1; have qa := ib_hi v2_h_6; have qb := ib_lo v2_h_6; have qc : (v2_h_6 + 1).toInt = v2_h_6.toInt + (1 : Int32).toInt := ii_add (by omega) (by omega); rw [ex_37]; omega) αh_36 Hh_36 Lh_36 Bh_36 x_37 (by omega) t_38 ls (lv_sub hl [1, 0] rfl) rfl
        refine lv_istore_n (lv' := [(2, .int 0), (0, .ref a0), (1, .int a1)]) hx hb dX4_prepare_27 rfl hl (by decide) rfl (fun ls hl => hp_n (n := 28) rfl ?_)
        have t_39 : a1 = hp_I αh_5 252 a0 := by rw [eh_5]; exact hp_I_at.symm
        exact J28 _ αh_5 Hh_5 Lh_5 Bh_5 0 (by omega) t_39 ls (lv_sub hl [1, 0] rfl) rfl
      ·
        have jc_4 := il_nle c_4
        exact q_vret C B hr hlk B.2.2 dX4_prepare_20
