abbrev w_X3_fail : cw_W := ([204, 205], [], [], [])
set_option maxRecDepth 100000 in
set_option maxHeartbeats 4000000 in
theorem t_X3_fail (Γ : hp_G) (l : Launch) (α : hp_T) (g : GC α) (a0 : Nat) (k0 : hp_K α a0 = 4) (a1 : Int32) : Met l yX3_fail (hp_ws yX3_fail cX3_fail 2 (some .boolean)) (hp_rm 0 0 0) (hp_Pc Γ α [.ref a0, .int a1]) (hp_Qi Γ (fun r β => cw w_X3_fail α β ∧ (r = 0 ∨ r = 1))) 0 0 (hp_A Γ) := by
  refine hp_start (by decide) ?_
  intro p e s m below meth c C hr hlk B0 hnm
  have C : hp_C Γ p m c cX3_fail 2 s ([.ref a0, .int a1] : List Value).toArray RX3 := C
  have hx := C.1.1
  have hb := C.1.2.1
  have hown := C.1.2.2.2.1
  have hts := C.1.2.2.2.2
  have B : hp_B Γ (cw w_X3_fail) s α α s.heap [] := ⟨B0.1, B0.2.1, cw_rf g⟩
  have lit0 : (0 : Int32).toInt = 0 := by decide
  have hl := lv_entry ([.ref a0, .int a1]) (n := 2) (Nat.le_of_ble_eq_true rfl)
  show W p l e (hp_rm 0 0 0) s m ([.ref a0, .int a1] : List Value).toArray below meth c s.heap [] 0 0 (MQ below (hp_Qi Γ (fun r β => cw w_X3_fail α β ∧ (r = 0 ∨ r = 1))) ([.ref a0, .int a1] : List Value).toArray s 0 0 (hp_A Γ)) (entryFrame m ([.ref a0, .int a1] : List Value).toArray 2)
  rw [lg_entry_eq]
  generalize (lg_sl ([.ref a0, .int a1]) ++ List.replicate (2 - (lg_sl ([.ref a0, .int a1])).length) Slot.unset).toArray = ls at hl ⊢
  have hl : lv_has ls 2 [(0, .ref a0), (1, .int a1)] := hl
  refine lv_aload_n hx hb dX3_fail_0 rfl (lv_at hl 0 rfl) (hp_n (n := 1) rfl ?_)
  refine lv_iload_n hx hb dX3_fail_1 rfl (lv_at hl 1 rfl) (hp_n (n := 2) rfl ?_)
  refine q_puti (κ := 4) (k := 4) (φ := 204) (pc' := 5) C B (cw_k B.2.2 k0) fl_X3_37 rfl rfl rfl rfl rfl rfl (cw_sI B.2.2 (by decide) (fun h => absurd h (by decide))) dX3_fail_2 rfl (fun αh_1 Hh_1 Lh_1 eh_1 Bh_1 => ?_)
  refine lv_aload_n hx hb dX3_fail_5 rfl (lv_at hl 0 rfl) (hp_n (n := 6) rfl ?_)
  refine lv_aload_n hx hb dX3_fail_6 rfl (lv_at hl 0 rfl) (hp_n (n := 7) rfl ?_)
  refine q_getr (κ := 4) (k := 0) (φ := 200) (pc' := 10) C Bh_1 (cw_k Bh_1.2.2 k0) fl_X3_12 rfl rfl rfl (cw_r Bh_1.2.2 k0 rfl rfl (by decide) (by decide)) dX3_fail_7 rfl (fun b_2 eb_2 kb_2 => ?_)
  refine q_geti (κ := 7) (k := 4) (φ := 354) (pc' := 13) C Bh_1 (cw_k Bh_1.2.2 kb_2) fl_X3_191 rfl rfl rfl dX3_fail_10 rfl (fun x_3 ex_3 => ?_)
  refine q_puti (κ := 4) (k := 5) (φ := 205) (pc' := 16) C Bh_1 (cw_k Bh_1.2.2 k0) fl_X3_40 rfl rfl rfl rfl rfl rfl (cw_sI Bh_1.2.2 (by decide) (fun h => absurd h (by decide))) dX3_fail_13 rfl (fun αh_4 Hh_4 Lh_4 eh_4 Bh_4 => ?_)
  refine lv_iconst (v := 0) hx hb dX3_fail_16 (by decide) (hp_n (n := 17) rfl ?_)
  exact q_zret C Bh_4 hr hlk (by decide) ⟨Bh_4.2.2, (Or.inl rfl)⟩ dX3_fail_17
abbrev w_X3_stray : cw_W := ([204, 205], [], [], [])
set_option maxRecDepth 100000 in
set_option maxHeartbeats 4000000 in
theorem t_X3_stray (Γ : hp_G) (l : Launch) (α : hp_T) (g : GC α) (a0 : Nat) (k0 : hp_K α a0 = 4) : Met l yX3_stray (hp_ws yX3_stray cX3_stray 1 (some .boolean)) (hp_rm 1 0 0) (hp_Pc Γ α [.ref a0]) (hp_Qi Γ (fun r β => cw w_X3_stray α β ∧ (r = 0 ∨ r = 1))) 0 0 (hp_A Γ) := by
  refine hp_start (by decide) ?_
  intro p e s m below meth c C hr hlk B0 hnm
  have C : hp_C Γ p m c cX3_stray 1 s ([.ref a0] : List Value).toArray RX3 := C
  have hx := C.1.1
  have hb := C.1.2.1
  have hown := C.1.2.2.2.1
  have hts := C.1.2.2.2.2
  have B : hp_B Γ (cw w_X3_stray) s α α s.heap [] := ⟨B0.1, B0.2.1, cw_rf g⟩
  have lit1 : (1 : Int32).toInt = 1 := by decide
  have lit2 : (2 : Int32).toInt = 2 := by decide
  have lit4 : (4 : Int32).toInt = 4 := by decide
  have hl := lv_entry ([.ref a0]) (n := 1) (Nat.le_of_ble_eq_true rfl)
  show W p l e (hp_rm 1 0 0) s m ([.ref a0] : List Value).toArray below meth c s.heap [] 0 0 (MQ below (hp_Qi Γ (fun r β => cw w_X3_stray α β ∧ (r = 0 ∨ r = 1))) ([.ref a0] : List Value).toArray s 0 0 (hp_A Γ)) (entryFrame m ([.ref a0] : List Value).toArray 1)
  rw [lg_entry_eq]
  generalize (lg_sl ([.ref a0]) ++ List.replicate (1 - (lg_sl ([.ref a0])).length) Slot.unset).toArray = ls at hl ⊢
  have hl : lv_has ls 1 [(0, .ref a0)] := hl
  refine lv_aload_n hx hb dX3_stray_0 rfl (lv_at hl 0 rfl) (hp_n (n := 1) rfl ?_)
  refine lv_aload_n hx hb dX3_stray_1 rfl (lv_at hl 0 rfl) (hp_n (n := 2) rfl ?_)
  refine q_getr (κ := 4) (k := 0) (φ := 200) (pc' := 5) C B (cw_k B.2.2 k0) fl_X3_12 rfl rfl rfl (cw_r B.2.2 k0 rfl rfl (by decide) (by decide)) dX3_stray_2 rfl (fun b_1 eb_1 kb_1 => ?_)
  refine q_geti (κ := 7) (k := 3) (φ := 353) (pc' := 8) C B (cw_k B.2.2 kb_1) fl_X3_66 rfl rfl rfl dX3_stray_5 rfl (fun x_2 ex_2 => ?_)
  refine lv_iconst (v := 4) hx hb dX3_stray_8 (by decide) (hp_n (n := 9) rfl ?_)
  refine lv_icmp_ne (tgt := 16) hx hb dX3_stray_9 (by decide) (fun c_3 => ?_) (fun c_3 => hp_n (n := 12) rfl ?_)
  ·
    have jc_3 := il_ne c_3
    refine lv_iconst (v := 2) hx hb dX3_stray_16 (by decide) (hp_n (n := 17) rfl ?_)
    refine q_ci (pc' := 20) B (hp_runV (As := [.int 2]) (rest := []) C B (t_X3_fail Γ l α B.2.2.1 a0 (cw_k B.2.2 k0) 2) lb_X3_fail lv_X3_fail lk_X3_145 (cw_k B.2.2 k0) rfl (by decide) rfl hl.1 rfl (Nat.le_of_ble_eq_true rfl) dX3_stray_17 ⟨Nat.le_refl _, Nat.le_refl _⟩) (fun _ _ h => cw_tr B.2.2 h.1 (by decide)) rfl (fun rh_4 αh_4 Hh_4 Lh_4 ph_4 Bh_4 => ?_)
    have zh_4 := ph_4.2
    exact q_zret C Bh_4 hr hlk (nz_z zh_4) ⟨Bh_4.2.2, zh_4⟩ dX3_stray_20
  ·
    have jc_3 := il_eq c_3
    refine lv_iconst (v := 1) hx hb dX3_stray_12 (by decide) (hp_n (n := 13) rfl ?_)
    refine lv_goto (tgt := 17) hx hb dX3_stray_13 (by decide) ?_
    refine q_ci (pc' := 20) B (hp_runV (As := [.int 1]) (rest := []) C B (t_X3_fail Γ l α B.2.2.1 a0 (cw_k B.2.2 k0) 1) lb_X3_fail lv_X3_fail lk_X3_145 (cw_k B.2.2 k0) rfl (by decide) rfl hl.1 rfl (Nat.le_of_ble_eq_true rfl) dX3_stray_17 ⟨Nat.le_refl _, Nat.le_refl _⟩) (fun _ _ h => cw_tr B.2.2 h.1 (by decide)) rfl (fun rh_5 αh_5 Hh_5 Lh_5 ph_5 Bh_5 => ?_)
    have zh_5 := ph_5.2
    exact q_zret C Bh_5 hr hlk (nz_z zh_5) ⟨Bh_5.2.2, zh_5⟩ dX3_stray_20
abbrev w_X3_hasRoom : cw_W := ([204, 205], [], [], [])
set_option maxRecDepth 100000 in
set_option maxHeartbeats 4000000 in
theorem t_X3_hasRoom (Γ : hp_G) (l : Launch) (α : hp_T) (g : GC α) (a0 : Nat) (k0 : hp_K α a0 = 4) (a1 : Int32) (a2 : Int32) : Met l yX3_hasRoom (hp_ws yX3_hasRoom cX3_hasRoom 3 (some .boolean)) (hp_rm 1 0 0) (hp_Pc Γ α [.ref a0, .int a1, .int a2]) (hp_Qi Γ (fun r β => cw w_X3_hasRoom α β ∧ (r = 0 ∨ r = 1))) 0 0 (hp_A Γ) := by
  refine hp_start (by decide) ?_
  intro p e s m below meth c C hr hlk B0 hnm
  have C : hp_C Γ p m c cX3_hasRoom 3 s ([.ref a0, .int a1, .int a2] : List Value).toArray RX3 := C
  have hx := C.1.1
  have hb := C.1.2.1
  have hown := C.1.2.2.2.1
  have hts := C.1.2.2.2.2
  have B : hp_B Γ (cw w_X3_hasRoom) s α α s.heap [] := ⟨B0.1, B0.2.1, cw_rf g⟩
  have lit0 : (0 : Int32).toInt = 0 := by decide
  have lit1 : (1 : Int32).toInt = 1 := by decide
  have lit6 : (6 : Int32).toInt = 6 := by decide
  have hl := lv_entry ([.ref a0, .int a1, .int a2]) (n := 3) (Nat.le_of_ble_eq_true rfl)
  show W p l e (hp_rm 1 0 0) s m ([.ref a0, .int a1, .int a2] : List Value).toArray below meth c s.heap [] 0 0 (MQ below (hp_Qi Γ (fun r β => cw w_X3_hasRoom α β ∧ (r = 0 ∨ r = 1))) ([.ref a0, .int a1, .int a2] : List Value).toArray s 0 0 (hp_A Γ)) (entryFrame m ([.ref a0, .int a1, .int a2] : List Value).toArray 3)
  rw [lg_entry_eq]
  generalize (lg_sl ([.ref a0, .int a1, .int a2]) ++ List.replicate (3 - (lg_sl ([.ref a0, .int a1, .int a2])).length) Slot.unset).toArray = ls at hl ⊢
  have hl : lv_has ls 3 [(0, .ref a0), (1, .int a1), (2, .int a2)] := hl
  refine lv_iload_n hx hb dX3_hasRoom_0 rfl (lv_at hl 1 rfl) (hp_n (n := 1) rfl ?_)
  refine lv_iload_n hx hb dX3_hasRoom_1 rfl (lv_at hl 2 rfl) (hp_n (n := 2) rfl ?_)
  refine lv_icmp_lt (tgt := 14) hx hb dX3_hasRoom_2 (by decide) (fun c_1 => ?_) (fun c_1 => hp_n (n := 5) rfl ?_)
  ·
    have jc_1 := il_lt c_1
    refine lv_iconst (v := 1) hx hb dX3_hasRoom_14 (by decide) (hp_n (n := 15) rfl ?_)
    refine lv_goto (tgt := 19) hx hb dX3_hasRoom_15 (by decide) ?_
    exact q_zret C B hr hlk (by decide) ⟨B.2.2, (Or.inr rfl)⟩ dX3_hasRoom_19
  ·
    have jc_1 := il_nlt c_1
    refine lv_aload_n hx hb dX3_hasRoom_5 rfl (lv_at hl 0 rfl) (hp_n (n := 6) rfl ?_)
    refine lv_bipush (v := 6) hx hb dX3_hasRoom_6 (by decide) (hp_n (n := 8) rfl ?_)
    refine q_ci (pc' := 11) B (hp_runV (As := [.int 6]) (rest := []) C B (t_X3_fail Γ l α B.2.2.1 a0 (cw_k B.2.2 k0) 6) lb_X3_fail lv_X3_fail lk_X3_145 (cw_k B.2.2 k0) rfl (by decide) rfl hl.1 rfl (Nat.le_of_ble_eq_true rfl) dX3_hasRoom_8 ⟨Nat.le_refl _, Nat.le_refl _⟩) (fun _ _ h => cw_tr B.2.2 h.1 (by decide)) rfl (fun rh_2 αh_2 Hh_2 Lh_2 ph_2 Bh_2 => ?_)
    have zh_2 := ph_2.2
    refine lv_if_eq (tgt := 18) hx hb dX3_hasRoom_11 (by decide) (fun c_3 => ?_) (fun c_3 => hp_n (n := 14) rfl ?_)
    ·
      have jc_3 := il_eq c_3
      refine lv_iconst (v := 0) hx hb dX3_hasRoom_18 (by decide) (hp_n (n := 19) rfl ?_)
      exact q_zret C Bh_2 hr hlk (by decide) ⟨Bh_2.2.2, (Or.inl rfl)⟩ dX3_hasRoom_19
    ·
      have jc_3 := il_ne c_3
      refine lv_iconst (v := 1) hx hb dX3_hasRoom_14 (by decide) (hp_n (n := 15) rfl ?_)
      refine lv_goto (tgt := 19) hx hb dX3_hasRoom_15 (by decide) ?_
      exact q_zret C Bh_2 hr hlk (by decide) ⟨Bh_2.2.2, (Or.inr rfl)⟩ dX3_hasRoom_19
abbrev w_X3_begin : cw_W := ([204, 205, 351, 352, 353, 354, 355, 356], [350], [], [])
set_option maxRecDepth 100000 in
set_option maxHeartbeats 4000000 in
theorem t_X3_begin (Γ : hp_G) (l : Launch) (α : hp_T) (g : GC α) (a0 : Nat) (k0 : hp_K α a0 = 4) (a1 : Nat) (k1 : hp_K α a1 = 24) (a2 : Int32) : Met l yX3_begin (hp_ws yX3_begin cX3_begin 3 none) (hp_rm 2 0 0) (hp_Pc Γ α [.ref a0, .ref a1, .int a2]) (hp_Qv Γ (fun β => cw w_X3_begin α β)) 0 0 (hp_A Γ) := by
  refine hp_start (by decide) ?_
  intro p e s m below meth c C hr hlk B0 hnm
  have C : hp_C Γ p m c cX3_begin 3 s ([.ref a0, .ref a1, .int a2] : List Value).toArray RX3 := C
  have hx := C.1.1
  have hb := C.1.2.1
  have hown := C.1.2.2.2.1
  have hts := C.1.2.2.2.2
  have B : hp_B Γ (cw w_X3_begin) s α α s.heap [] := ⟨B0.1, B0.2.1, cw_rf g⟩
  have litm1 : ((-1) : Int32).toInt = (-1) := by decide
  have lit0 : (0 : Int32).toInt = 0 := by decide
  have hl := lv_entry ([.ref a0, .ref a1, .int a2]) (n := 3) (Nat.le_of_ble_eq_true rfl)
  show W p l e (hp_rm 2 0 0) s m ([.ref a0, .ref a1, .int a2] : List Value).toArray below meth c s.heap [] 0 0 (MQ below (hp_Qv Γ (fun β => cw w_X3_begin α β)) ([.ref a0, .ref a1, .int a2] : List Value).toArray s 0 0 (hp_A Γ)) (entryFrame m ([.ref a0, .ref a1, .int a2] : List Value).toArray 3)
  rw [lg_entry_eq]
  generalize (lg_sl ([.ref a0, .ref a1, .int a2]) ++ List.replicate (3 - (lg_sl ([.ref a0, .ref a1, .int a2])).length) Slot.unset).toArray = ls at hl ⊢
  have hl : lv_has ls 3 [(0, .ref a0), (1, .ref a1), (2, .int a2)] := hl
  refine lv_aload_n hx hb dX3_begin_0 rfl (lv_at hl 0 rfl) (hp_n (n := 1) rfl ?_)
  refine lv_iconst (v := 0) hx hb dX3_begin_1 (by decide) (hp_n (n := 2) rfl ?_)
  refine q_puti (κ := 4) (k := 4) (φ := 204) (pc' := 5) C B (cw_k B.2.2 k0) fl_X3_37 rfl rfl rfl rfl rfl rfl (cw_sI B.2.2 (by decide) (fun h => absurd h (by decide))) dX3_begin_2 rfl (fun αh_1 Hh_1 Lh_1 eh_1 Bh_1 => ?_)
  refine lv_aload_n hx hb dX3_begin_5 rfl (lv_at hl 0 rfl) (hp_n (n := 6) rfl ?_)
  refine lv_iconst (v := (-1)) hx hb dX3_begin_6 (by decide) (hp_n (n := 7) rfl ?_)
  refine q_puti (κ := 4) (k := 5) (φ := 205) (pc' := 10) C Bh_1 (cw_k Bh_1.2.2 k0) fl_X3_40 rfl rfl rfl rfl rfl rfl (cw_sI Bh_1.2.2 (by decide) (fun h => absurd h (by decide))) dX3_begin_7 rfl (fun αh_2 Hh_2 Lh_2 eh_2 Bh_2 => ?_)
  refine lv_aload_n hx hb dX3_begin_10 rfl (lv_at hl 0 rfl) (hp_n (n := 11) rfl ?_)
  refine q_getr (κ := 4) (k := 0) (φ := 200) (pc' := 14) C Bh_2 (cw_k Bh_2.2.2 k0) fl_X3_12 rfl rfl rfl (cw_r Bh_2.2.2 k0 rfl rfl (by decide) (by decide)) dX3_begin_11 rfl (fun b_3 eb_3 kb_3 => ?_)
  refine lv_aload_n hx hb dX3_begin_14 rfl (lv_at hl 1 rfl) (hp_n (n := 15) rfl ?_)
  refine lv_iload_n hx hb dX3_begin_15 rfl (lv_at hl 2 rfl) (hp_n (n := 16) rfl ?_)
  refine q_cv (pc' := 19) Bh_2 (hp_runV (As := [.ref a1, .int a2]) (rest := []) C Bh_2 (t_X6_begin Γ l αh_2 Bh_2.2.2.1 b_3 (cw_k Bh_2.2.2 kb_3) a1 (cw_k Bh_2.2.2 k1) a2) lb_X6_begin lv_X6_begin lk_X3_59 (cw_k Bh_2.2.2 kb_3) rfl (by decide) rfl hl.1 rfl (Nat.le_of_ble_eq_true rfl) dX3_begin_16 ⟨Nat.le_refl _, Nat.le_refl _⟩) (fun _ h => cw_tr Bh_2.2.2 h (by decide)) rfl (fun αh_4 Hh_4 Lh_4 ph_4 Bh_4 => ?_)
  refine lv_aload_n hx hb dX3_begin_19 rfl (lv_at hl 0 rfl) (hp_n (n := 20) rfl ?_)
  have t_5 : b_3 = hp_R αh_4 200 a0 := by rw [cw_R ph_4 a0 (by decide)]; exact eb_3
  refine q_gets (κ := 4) (k := 0) (φ := 200) (pc' := 23) C Bh_4 (cw_k Bh_4.2.2 k0) fl_X3_12 rfl rfl rfl t_5 dX3_begin_20 rfl ?_
  refine q_cv (pc' := 26) Bh_4 (hp_runV (As := []) (rest := []) C Bh_4 (t_X6_advance Γ l αh_4 Bh_4.2.2.1 b_3 (cw_k Bh_4.2.2 kb_3)) lb_X6_advance lv_X6_advance lk_X3_63 (cw_k Bh_4.2.2 kb_3) rfl (by decide) rfl hl.1 rfl (Nat.le_of_ble_eq_true rfl) dX3_begin_23 ⟨Nat.le_refl _, Nat.le_refl _⟩) (fun _ h => cw_tr Bh_4.2.2 h (by decide)) rfl (fun αh_6 Hh_6 Lh_6 ph_6 Bh_6 => ?_)
  exact q_vret C Bh_6 hr hlk Bh_6.2.2 dX3_begin_26
abbrev w_X3_isAtEnd : cw_W := ([], [], [], [])
set_option maxRecDepth 100000 in
set_option maxHeartbeats 4000000 in
theorem t_X3_isAtEnd (Γ : hp_G) (l : Launch) (α : hp_T) (g : GC α) (a0 : Nat) (k0 : hp_K α a0 = 4) : Met l yX3_isAtEnd (hp_ws yX3_isAtEnd cX3_isAtEnd 1 (some .boolean)) (hp_rm 0 0 0) (hp_Pc Γ α [.ref a0]) (hp_Qi Γ (fun r β => β = α ∧ (r = 0 ∨ r = 1))) 0 0 (hp_A Γ) := by
  refine hp_start (by decide) ?_
  intro p e s m below meth c C hr hlk B0 hnm
  have C : hp_C Γ p m c cX3_isAtEnd 1 s ([.ref a0] : List Value).toArray RX3 := C
  have hx := C.1.1
  have hb := C.1.2.1
  have hown := C.1.2.2.2.1
  have hts := C.1.2.2.2.2
  have B : hp_B Γ (cw w_X3_isAtEnd) s α α s.heap [] := ⟨B0.1, B0.2.1, cw_rf g⟩
  have lit0 : (0 : Int32).toInt = 0 := by decide
  have lit1 : (1 : Int32).toInt = 1 := by decide
  have hl := lv_entry ([.ref a0]) (n := 1) (Nat.le_of_ble_eq_true rfl)
  show W p l e (hp_rm 0 0 0) s m ([.ref a0] : List Value).toArray below meth c s.heap [] 0 0 (MQ below (hp_Qi Γ (fun r β => β = α ∧ (r = 0 ∨ r = 1))) ([.ref a0] : List Value).toArray s 0 0 (hp_A Γ)) (entryFrame m ([.ref a0] : List Value).toArray 1)
  rw [lg_entry_eq]
  generalize (lg_sl ([.ref a0]) ++ List.replicate (1 - (lg_sl ([.ref a0])).length) Slot.unset).toArray = ls at hl ⊢
  have hl : lv_has ls 1 [(0, .ref a0)] := hl
  refine lv_aload_n hx hb dX3_isAtEnd_0 rfl (lv_at hl 0 rfl) (hp_n (n := 1) rfl ?_)
  refine q_getr (κ := 4) (k := 0) (φ := 200) (pc' := 4) C B (cw_k B.2.2 k0) fl_X3_12 rfl rfl rfl (cw_r B.2.2 k0 rfl rfl (by decide) (by decide)) dX3_isAtEnd_1 rfl (fun b_1 eb_1 kb_1 => ?_)
  refine q_geti (κ := 7) (k := 3) (φ := 353) (pc' := 7) C B (cw_k B.2.2 kb_1) fl_X3_66 rfl rfl rfl dX3_isAtEnd_4 rfl (fun x_2 ex_2 => ?_)
  refine lv_if_ne (tgt := 14) hx hb dX3_isAtEnd_7 (by decide) (fun c_3 => ?_) (fun c_3 => hp_n (n := 10) rfl ?_)
  ·
    have jc_3 := il_ne c_3
    refine lv_iconst (v := 0) hx hb dX3_isAtEnd_14 (by decide) (hp_n (n := 15) rfl ?_)
    exact q_zret C B hr hlk (by decide) ⟨rfl, (Or.inl rfl)⟩ dX3_isAtEnd_15
  ·
    have jc_3 := il_eq c_3
    refine lv_iconst (v := 1) hx hb dX3_isAtEnd_10 (by decide) (hp_n (n := 11) rfl ?_)
    refine lv_goto (tgt := 15) hx hb dX3_isAtEnd_11 (by decide) ?_
    exact q_zret C B hr hlk (by decide) ⟨rfl, (Or.inr rfl)⟩ dX3_isAtEnd_15
abbrev w_X3_readNumber : cw_W := ([204, 205, 209, 352, 353, 354, 355, 356], [], [], [])
set_option maxRecDepth 100000 in
set_option maxHeartbeats 4000000 in
theorem t_X3_readNumber (Γ : hp_G) (l : Launch) (α : hp_T) (g : GC α) (a0 : Nat) (k0 : hp_K α a0 = 4) (a1 : Int32) (a2 : Int32) : Met l yX3_readNumber (hp_ws yX3_readNumber cX3_readNumber 3 (some .boolean)) (hp_rm 2 0 0) (hp_Pc Γ α [.ref a0, .int a1, .int a2]) (hp_Qi Γ (fun r β => cw w_X3_readNumber α β ∧ (r = 0 ∨ r = 1))) 0 0 (hp_A Γ) := by
  refine hp_start (by decide) ?_
  intro p e s m below meth c C hr hlk B0 hnm
  have C : hp_C Γ p m c cX3_readNumber 3 s ([.ref a0, .int a1, .int a2] : List Value).toArray RX3 := C
  have hx := C.1.1
  have hb := C.1.2.1
  have hown := C.1.2.2.2.1
  have hts := C.1.2.2.2.2
  have B : hp_B Γ (cw w_X3_readNumber) s α α s.heap [] := ⟨B0.1, B0.2.1, cw_rf g⟩
  have lit0 : (0 : Int32).toInt = 0 := by decide
  have lit1 : (1 : Int32).toInt = 1 := by decide
  have lit2 : (2 : Int32).toInt = 2 := by decide
  have lit3 : (3 : Int32).toInt = 3 := by decide
  have hl := lv_entry ([.ref a0, .int a1, .int a2]) (n := 3) (Nat.le_of_ble_eq_true rfl)
  show W p l e (hp_rm 2 0 0) s m ([.ref a0, .int a1, .int a2] : List Value).toArray below meth c s.heap [] 0 0 (MQ below (hp_Qi Γ (fun r β => cw w_X3_readNumber α β ∧ (r = 0 ∨ r = 1))) ([.ref a0, .int a1, .int a2] : List Value).toArray s 0 0 (hp_A Γ)) (entryFrame m ([.ref a0, .int a1, .int a2] : List Value).toArray 3)
  rw [lg_entry_eq]
  generalize (lg_sl ([.ref a0, .int a1, .int a2]) ++ List.replicate (3 - (lg_sl ([.ref a0, .int a1, .int a2])).length) Slot.unset).toArray = ls at hl ⊢
  have hl : lv_has ls 3 [(0, .ref a0), (1, .int a1), (2, .int a2)] := hl
  refine lv_aload_n hx hb dX3_readNumber_0 rfl (lv_at hl 0 rfl) (hp_n (n := 1) rfl ?_)
  refine q_getr (κ := 4) (k := 0) (φ := 200) (pc' := 4) C B (cw_k B.2.2 k0) fl_X3_12 rfl rfl rfl (cw_r B.2.2 k0 rfl rfl (by decide) (by decide)) dX3_readNumber_1 rfl (fun b_1 eb_1 kb_1 => ?_)
  refine q_cv (pc' := 7) B (hp_runV (As := []) (rest := []) C B (t_X6_advance Γ l α B.2.2.1 b_1 (cw_k B.2.2 kb_1)) lb_X6_advance lv_X6_advance lk_X3_63 (cw_k B.2.2 kb_1) rfl (by decide) rfl hl.1 rfl (Nat.le_of_ble_eq_true rfl) dX3_readNumber_4 ⟨Nat.le_refl _, Nat.le_refl _⟩) (fun _ h => cw_tr B.2.2 h (by decide)) rfl (fun αh_2 Hh_2 Lh_2 ph_2 Bh_2 => ?_)
  refine lv_aload_n hx hb dX3_readNumber_7 rfl (lv_at hl 0 rfl) (hp_n (n := 8) rfl ?_)
  have t_3 : b_1 = hp_R αh_2 200 a0 := by rw [cw_R ph_2 a0 (by decide)]; exact eb_1
  refine q_gets (κ := 4) (k := 0) (φ := 200) (pc' := 11) C Bh_2 (cw_k Bh_2.2.2 k0) fl_X3_12 rfl rfl rfl t_3 dX3_readNumber_8 rfl ?_
  refine q_geti (κ := 7) (k := 3) (φ := 353) (pc' := 14) C Bh_2 (cw_k Bh_2.2.2 kb_1) fl_X3_66 rfl rfl rfl dX3_readNumber_11 rfl (fun x_4 ex_4 => ?_)
  refine lv_iconst (v := 2) hx hb dX3_readNumber_14 (by decide) (hp_n (n := 15) rfl ?_)
  refine lv_icmp_eq (tgt := 23) hx hb dX3_readNumber_15 (by decide) (fun c_5 => ?_) (fun c_5 => hp_n (n := 18) rfl ?_)
  ·
    have jc_5 := il_eq c_5
    refine lv_aload_n hx hb dX3_readNumber_23 rfl (lv_at hl 0 rfl) (hp_n (n := 24) rfl ?_)
    refine lv_aload_n hx hb dX3_readNumber_24 rfl (lv_at hl 0 rfl) (hp_n (n := 25) rfl ?_)
    refine q_gets (κ := 4) (k := 0) (φ := 200) (pc' := 28) C Bh_2 (cw_k Bh_2.2.2 k0) fl_X3_12 rfl rfl rfl t_3 dX3_readNumber_25 rfl ?_
    refine q_geti (κ := 7) (k := 6) (φ := 356) (pc' := 31) C Bh_2 (cw_k Bh_2.2.2 kb_1) fl_X3_188 rfl rfl rfl dX3_readNumber_28 rfl (fun x_6 ex_6 => ?_)
    refine q_puti (κ := 4) (k := 9) (φ := 209) (pc' := 34) C Bh_2 (cw_k Bh_2.2.2 k0) fl_X3_56 rfl rfl rfl rfl rfl rfl (cw_sI Bh_2.2.2 (by decide) (fun h => absurd h (by decide))) dX3_readNumber_31 rfl (fun αh_7 Hh_7 Lh_7 eh_7 Bh_7 => ?_)
    refine lv_aload_n hx hb dX3_readNumber_34 rfl (lv_at hl 0 rfl) (hp_n (n := 35) rfl ?_)
    have t_8 : x_6 = hp_I αh_7 209 a0 := by rw [eh_7]; exact hp_I_at.symm
    refine q_getj (κ := 4) (k := 9) (φ := 209) (pc' := 38) C Bh_7 (cw_k Bh_7.2.2 k0) fl_X3_56 rfl rfl rfl t_8 dX3_readNumber_35 rfl ?_
    refine lv_iload_n hx hb dX3_readNumber_38 rfl (lv_at hl 1 rfl) (hp_n (n := 39) rfl ?_)
    have J50 : ∀ (Hh_9 : Heap) (Lh_9 : List Loc) (Bh_9 : hp_B Γ (cw w_X3_readNumber) s α αh_7 Hh_9 Lh_9) (ls : Array Slot) (hl : lv_has ls 3 [(0, .ref a0)]), W p l e (hp_rm 2 0 0) s m ([.ref a0, .int a1, .int a2] : List Value).toArray below meth c Hh_9 Lh_9 0 0 (MQ below (hp_Qi Γ (fun r β => cw w_X3_readNumber α β ∧ (r = 0 ∨ r = 1))) ([.ref a0, .int a1, .int a2] : List Value).toArray s 0 0 (hp_A Γ)) (F0 m 50 ls []) := by
      intro Hh_9 Lh_9 Bh_9 ls hl
      refine lv_aload_n hx hb dX3_readNumber_50 rfl (lv_at hl 0 rfl) (hp_n (n := 51) rfl ?_)
      refine lv_iconst (v := 3) hx hb dX3_readNumber_51 (by decide) (hp_n (n := 52) rfl ?_)
      refine q_ci (pc' := 55) Bh_9 (hp_runV (As := [.int 3]) (rest := []) C Bh_9 (t_X3_fail Γ l αh_7 Bh_9.2.2.1 a0 (cw_k Bh_9.2.2 k0) 3) lb_X3_fail lv_X3_fail lk_X3_145 (cw_k Bh_9.2.2 k0) rfl (by decide) rfl hl.1 rfl (Nat.le_of_ble_eq_true rfl) dX3_readNumber_52 ⟨Nat.le_refl _, Nat.le_refl _⟩) (fun _ _ h => cw_tr Bh_9.2.2 h.1 (by decide)) rfl (fun rh_10 αh_10 Hh_10 Lh_10 ph_10 Bh_10 => ?_)
      have zh_10 := ph_10.2
      refine lv_if_eq (tgt := 62) hx hb dX3_readNumber_55 (by decide) (fun c_11 => ?_) (fun c_11 => hp_n (n := 58) rfl ?_)
      ·
        have jc_11 := il_eq c_11
        refine lv_iconst (v := 0) hx hb dX3_readNumber_62 (by decide) (hp_n (n := 63) rfl ?_)
        exact q_zret C Bh_10 hr hlk (by decide) ⟨Bh_10.2.2, (Or.inl rfl)⟩ dX3_readNumber_63
      ·
        have jc_11 := il_ne c_11
        refine lv_iconst (v := 1) hx hb dX3_readNumber_58 (by decide) (hp_n (n := 59) rfl ?_)
        refine lv_goto (tgt := 63) hx hb dX3_readNumber_59 (by decide) ?_
        exact q_zret C Bh_10 hr hlk (by decide) ⟨Bh_10.2.2, (Or.inr rfl)⟩ dX3_readNumber_63
    refine lv_icmp_lt (tgt := 50) hx hb dX3_readNumber_39 (by decide) (fun c_12 => ?_) (fun c_12 => hp_n (n := 42) rfl ?_)
    ·
      have jc_12 := il_lt c_12
      exact J50 Hh_7 Lh_7 Bh_7 ls (lv_sub hl [0] rfl)
    ·
      have jc_12 := il_nlt c_12
      refine lv_aload_n hx hb dX3_readNumber_42 rfl (lv_at hl 0 rfl) (hp_n (n := 43) rfl ?_)
      refine q_getj (κ := 4) (k := 9) (φ := 209) (pc' := 46) C Bh_7 (cw_k Bh_7.2.2 k0) fl_X3_56 rfl rfl rfl t_8 dX3_readNumber_43 rfl ?_
      refine lv_iload_n hx hb dX3_readNumber_46 rfl (lv_at hl 2 rfl) (hp_n (n := 47) rfl ?_)
      refine lv_icmp_le (tgt := 58) hx hb dX3_readNumber_47 (by decide) (fun c_13 => ?_) (fun c_13 => hp_n (n := 50) rfl ?_)
      ·
        have jc_13 := il_le c_13
        refine lv_iconst (v := 1) hx hb dX3_readNumber_58 (by decide) (hp_n (n := 59) rfl ?_)
        refine lv_goto (tgt := 63) hx hb dX3_readNumber_59 (by decide) ?_
        exact q_zret C Bh_7 hr hlk (by decide) ⟨Bh_7.2.2, (Or.inr rfl)⟩ dX3_readNumber_63
      ·
        have jc_13 := il_nle c_13
        exact J50 Hh_7 Lh_7 Bh_7 ls (lv_sub hl [0] rfl)
  ·
    have jc_5 := il_ne c_5
    refine lv_aload_n hx hb dX3_readNumber_18 rfl (lv_at hl 0 rfl) (hp_n (n := 19) rfl ?_)
    refine q_ci (pc' := 22) Bh_2 (hp_runV (As := []) (rest := []) C Bh_2 (t_X3_stray Γ l αh_2 Bh_2.2.2.1 a0 (cw_k Bh_2.2.2 k0)) lb_X3_stray lv_X3_stray lk_X3_117 (cw_k Bh_2.2.2 k0) rfl (by decide) rfl hl.1 rfl (Nat.le_of_ble_eq_true rfl) dX3_readNumber_19 ⟨Nat.le_refl _, Nat.le_refl _⟩) (fun _ _ h => cw_tr Bh_2.2.2 h.1 (by decide)) rfl (fun rh_14 αh_14 Hh_14 Lh_14 ph_14 Bh_14 => ?_)
    have zh_14 := ph_14.2
    exact q_zret C Bh_14 hr hlk (nz_z zh_14) ⟨Bh_14.2.2, zh_14⟩ dX3_readNumber_22
abbrev w_X3_readSign : cw_W := ([204, 205, 352, 353, 354, 355, 356], [], [], [])
abbrev w_X3_readWord : cw_W := ([204, 205, 352, 353, 354, 355, 356], [], [], [])
set_option maxRecDepth 100000 in
set_option maxHeartbeats 4000000 in
theorem t_X3_readWord (Γ : hp_G) (l : Launch) (α : hp_T) (g : GC α) (a0 : Nat) (k0 : hp_K α a0 = 4) (i1 : Nat) (h1 : i1 < 21) : Met l yX3_readWord (hp_ws yX3_readWord cX3_readWord 2 (some .boolean)) (hp_rm 5 0 0) (hp_Pc Γ α [.ref a0, .ref (Γ.2.2.2.2.1 i1)]) (hp_Qi Γ (fun r β => cw w_X3_readWord α β ∧ (r = 0 ∨ r = 1))) 0 0 (hp_A Γ) := by
  refine hp_start (by decide) ?_
  intro p e s m below meth c C hr hlk B0 hnm
  have C : hp_C Γ p m c cX3_readWord 2 s ([.ref a0, .ref (Γ.2.2.2.2.1 i1)] : List Value).toArray RX3 := C
  have hx := C.1.1
  have hb := C.1.2.1
  have hown := C.1.2.2.2.1
  have hts := C.1.2.2.2.2
  have B : hp_B Γ (cw w_X3_readWord) s α α s.heap [] := ⟨B0.1, B0.2.1, cw_rf g⟩
  have lit0 : (0 : Int32).toInt = 0 := by decide
  have lit1 : (1 : Int32).toInt = 1 := by decide
  have hl := lv_entry ([.ref a0, .ref (Γ.2.2.2.2.1 i1)]) (n := 2) (Nat.le_of_ble_eq_true rfl)
  show W p l e (hp_rm 5 0 0) s m ([.ref a0, .ref (Γ.2.2.2.2.1 i1)] : List Value).toArray below meth c s.heap [] 0 0 (MQ below (hp_Qi Γ (fun r β => cw w_X3_readWord α β ∧ (r = 0 ∨ r = 1))) ([.ref a0, .ref (Γ.2.2.2.2.1 i1)] : List Value).toArray s 0 0 (hp_A Γ)) (entryFrame m ([.ref a0, .ref (Γ.2.2.2.2.1 i1)] : List Value).toArray 2)
  rw [lg_entry_eq]
  generalize (lg_sl ([.ref a0, .ref (Γ.2.2.2.2.1 i1)]) ++ List.replicate (2 - (lg_sl ([.ref a0, .ref (Γ.2.2.2.2.1 i1)])).length) Slot.unset).toArray = ls at hl ⊢
  have hl : lv_has ls 2 [(0, .ref a0), (1, .ref (Γ.2.2.2.2.1 i1))] := hl
  refine lv_aload_n hx hb dX3_readWord_0 rfl (lv_at hl 0 rfl) (hp_n (n := 1) rfl ?_)
  refine q_getr (κ := 4) (k := 0) (φ := 200) (pc' := 4) C B (cw_k B.2.2 k0) fl_X3_12 rfl rfl rfl (cw_r B.2.2 k0 rfl rfl (by decide) (by decide)) dX3_readWord_1 rfl (fun b_1 eb_1 kb_1 => ?_)
  refine q_cv (pc' := 7) B (hp_runV (As := []) (rest := []) C B (t_X6_advance Γ l α B.2.2.1 b_1 (cw_k B.2.2 kb_1)) lb_X6_advance lv_X6_advance lk_X3_63 (cw_k B.2.2 kb_1) rfl (by decide) rfl hl.1 rfl (Nat.le_of_ble_eq_true rfl) dX3_readWord_4 ⟨Nat.le_refl _, Nat.le_refl _⟩) (fun _ h => cw_tr B.2.2 h (by decide)) rfl (fun αh_2 Hh_2 Lh_2 ph_2 Bh_2 => ?_)
  refine lv_aload_n hx hb dX3_readWord_7 rfl (lv_at hl 0 rfl) (hp_n (n := 8) rfl ?_)
  have t_3 : b_1 = hp_R αh_2 200 a0 := by rw [cw_R ph_2 a0 (by decide)]; exact eb_1
  refine q_gets (κ := 4) (k := 0) (φ := 200) (pc' := 11) C Bh_2 (cw_k Bh_2.2.2 k0) fl_X3_12 rfl rfl rfl t_3 dX3_readWord_8 rfl ?_
  refine lv_aload_n hx hb dX3_readWord_11 rfl (lv_at hl 1 rfl) (hp_n (n := 12) rfl ?_)
  refine q_ci (pc' := 15) Bh_2 (hp_runV (As := [.ref (Γ.2.2.2.2.1 i1)]) (rest := []) C Bh_2 (t_X6_spells Γ l αh_2 Bh_2.2.2.1 b_1 (cw_k Bh_2.2.2 kb_1) i1 h1) lb_X6_spells lv_X6_spells lk_X3_71 (cw_k Bh_2.2.2 kb_1) rfl (by decide) rfl hl.1 rfl (Nat.le_of_ble_eq_true rfl) dX3_readWord_12 ⟨Nat.le_refl _, Nat.le_refl _⟩) (fun _ _ h => by rw [h.1]; exact Bh_2.2.2) rfl (fun rh_4 αh_4 Hh_4 Lh_4 ph_4 Bh_4 => ?_)
  rw [ph_4.1] at Bh_4
  have zh_4 := ph_4.2
  refine lv_if_ne (tgt := 25) hx hb dX3_readWord_15 (by decide) (fun c_5 => ?_) (fun c_5 => hp_n (n := 18) rfl ?_)
  ·
    have jc_5 := il_ne c_5
    refine lv_iconst (v := 1) hx hb dX3_readWord_25 (by decide) (hp_n (n := 26) rfl ?_)
    refine lv_goto (tgt := 30) hx hb dX3_readWord_26 (by decide) ?_
    exact q_zret C Bh_4 hr hlk (by decide) ⟨Bh_4.2.2, (Or.inr rfl)⟩ dX3_readWord_30
  ·
    have jc_5 := il_eq c_5
    refine lv_aload_n hx hb dX3_readWord_18 rfl (lv_at hl 0 rfl) (hp_n (n := 19) rfl ?_)
    refine q_ci (pc' := 22) Bh_4 (hp_runV (As := []) (rest := []) C Bh_4 (t_X3_stray Γ l αh_2 Bh_4.2.2.1 a0 (cw_k Bh_4.2.2 k0)) lb_X3_stray lv_X3_stray lk_X3_117 (cw_k Bh_4.2.2 k0) rfl (by decide) rfl hl.1 rfl (Nat.le_of_ble_eq_true rfl) dX3_readWord_19 ⟨Nat.le_refl _, Nat.le_refl _⟩) (fun _ _ h => cw_tr Bh_4.2.2 h.1 (by decide)) rfl (fun rh_6 αh_6 Hh_6 Lh_6 ph_6 Bh_6 => ?_)
    have zh_6 := ph_6.2
    refine lv_if_eq (tgt := 29) hx hb dX3_readWord_22 (by decide) (fun c_7 => ?_) (fun c_7 => hp_n (n := 25) rfl ?_)
    ·
      have jc_7 := il_eq c_7
      refine lv_iconst (v := 0) hx hb dX3_readWord_29 (by decide) (hp_n (n := 30) rfl ?_)
      exact q_zret C Bh_6 hr hlk (by decide) ⟨Bh_6.2.2, (Or.inl rfl)⟩ dX3_readWord_30
    ·
      have jc_7 := il_ne c_7
      refine lv_iconst (v := 1) hx hb dX3_readWord_25 (by decide) (hp_n (n := 26) rfl ?_)
      refine lv_goto (tgt := 30) hx hb dX3_readWord_26 (by decide) ?_
      exact q_zret C Bh_6 hr hlk (by decide) ⟨Bh_6.2.2, (Or.inr rfl)⟩ dX3_readWord_30
abbrev w_X3_readMark : cw_W := ([204, 205, 209, 352, 353, 354, 355, 356], [], [], [])
set_option maxRecDepth 100000 in
set_option maxHeartbeats 4000000 in
theorem t_X3_readMark (Γ : hp_G) (l : Launch) (α : hp_T) (g : GC α) (a0 : Nat) (k0 : hp_K α a0 = 4) (i1 : Nat) (h1 : i1 < 21) : Met l yX3_readMark (hp_ws yX3_readMark cX3_readMark 2 (some .boolean)) (hp_rm 6 0 0) (hp_Pc Γ α [.ref a0, .ref (Γ.2.2.2.2.1 i1)]) (hp_Qi Γ (fun r β => cw w_X3_readMark α β ∧ (r = 0 ∨ r = 1))) 0 0 (hp_A Γ) := by
  refine hp_start (by decide) ?_
  intro p e s m below meth c C hr hlk B0 hnm
  have C : hp_C Γ p m c cX3_readMark 2 s ([.ref a0, .ref (Γ.2.2.2.2.1 i1)] : List Value).toArray RX3 := C
  have hx := C.1.1
  have hb := C.1.2.1
  have hown := C.1.2.2.2.1
  have hts := C.1.2.2.2.2
  have B : hp_B Γ (cw w_X3_readMark) s α α s.heap [] := ⟨B0.1, B0.2.1, cw_rf g⟩
  have lit0 : (0 : Int32).toInt = 0 := by decide
  have lit1 : (1 : Int32).toInt = 1 := by decide
  have hl := lv_entry ([.ref a0, .ref (Γ.2.2.2.2.1 i1)]) (n := 2) (Nat.le_of_ble_eq_true rfl)
  show W p l e (hp_rm 6 0 0) s m ([.ref a0, .ref (Γ.2.2.2.2.1 i1)] : List Value).toArray below meth c s.heap [] 0 0 (MQ below (hp_Qi Γ (fun r β => cw w_X3_readMark α β ∧ (r = 0 ∨ r = 1))) ([.ref a0, .ref (Γ.2.2.2.2.1 i1)] : List Value).toArray s 0 0 (hp_A Γ)) (entryFrame m ([.ref a0, .ref (Γ.2.2.2.2.1 i1)] : List Value).toArray 2)
  rw [lg_entry_eq]
  generalize (lg_sl ([.ref a0, .ref (Γ.2.2.2.2.1 i1)]) ++ List.replicate (2 - (lg_sl ([.ref a0, .ref (Γ.2.2.2.2.1 i1)])).length) Slot.unset).toArray = ls at hl ⊢
  have hl : lv_has ls 2 [(0, .ref a0), (1, .ref (Γ.2.2.2.2.1 i1))] := hl
  refine lv_aload_n hx hb dX3_readMark_0 rfl (lv_at hl 0 rfl) (hp_n (n := 1) rfl ?_)
  refine lv_aload_n hx hb dX3_readMark_1 rfl (lv_at hl 1 rfl) (hp_n (n := 2) rfl ?_)
  refine q_ci (pc' := 5) B (hp_runV (As := [.ref (Γ.2.2.2.2.1 i1)]) (rest := []) C B (t_X3_readWord Γ l α B.2.2.1 a0 (cw_k B.2.2 k0) i1 h1) lb_X3_readWord lv_X3_readWord lk_X3_158 (cw_k B.2.2 k0) rfl (by decide) rfl hl.1 rfl (Nat.le_of_ble_eq_true rfl) dX3_readMark_2 ⟨Nat.le_refl _, Nat.le_refl _⟩) (fun _ _ h => cw_tr B.2.2 h.1 (by decide)) rfl (fun rh_1 αh_1 Hh_1 Lh_1 ph_1 Bh_1 => ?_)
  have zh_1 := ph_1.2
  refine lv_if_eq (tgt := 26) hx hb dX3_readMark_5 (by decide) (fun c_2 => ?_) (fun c_2 => hp_n (n := 8) rfl ?_)
  ·
    have jc_2 := il_eq c_2
    refine lv_iconst (v := 0) hx hb dX3_readMark_26 (by decide) (hp_n (n := 27) rfl ?_)
    exact q_zret C Bh_1 hr hlk (by decide) ⟨Bh_1.2.2, (Or.inl rfl)⟩ dX3_readMark_27
  ·
    have jc_2 := il_ne c_2
    refine lv_aload_n hx hb dX3_readMark_8 rfl (lv_at hl 0 rfl) (hp_n (n := 9) rfl ?_)
    refine lv_iconst (v := 0) hx hb dX3_readMark_9 (by decide) (hp_n (n := 10) rfl ?_)
    refine lv_aload_n hx hb dX3_readMark_10 rfl (lv_at hl 0 rfl) (hp_n (n := 11) rfl ?_)
    refine q_geti (κ := 4) (k := 3) (φ := 203) (pc' := 14) C Bh_1 (cw_k Bh_1.2.2 k0) fl_X3_33 rfl rfl rfl dX3_readMark_11 rfl (fun x_3 ex_3 => ?_)
    refine lv_iconst (v := 1) hx hb dX3_readMark_14 (by decide) (hp_n (n := 15) rfl ?_)
    refine lv_isub hx hb dX3_readMark_15 (hp_n (n := 16) rfl (lv_topi (fun x_4 ex_4 => ?_)))
    refine q_ci (pc' := 19) Bh_1 (hp_runV (As := [.int 0, .int x_4]) (rest := []) C Bh_1 (t_X3_readNumber Γ l αh_1 Bh_1.2.2.1 a0 (cw_k Bh_1.2.2 k0) 0 x_4) lb_X3_readNumber lv_X3_readNumber lk_X3_75 (cw_k Bh_1.2.2 k0) rfl (by decide) rfl hl.1 rfl (Nat.le_of_ble_eq_true rfl) dX3_readMark_16 ⟨Nat.le_refl _, Nat.le_refl _⟩) (fun _ _ h => cw_tr Bh_1.2.2 h.1 (by decide)) rfl (fun rh_5 αh_5 Hh_5 Lh_5 ph_5 Bh_5 => ?_)
    have zh_5 := ph_5.2
    refine lv_if_eq (tgt := 26) hx hb dX3_readMark_19 (by decide) (fun c_6 => ?_) (fun c_6 => hp_n (n := 22) rfl ?_)
    ·
      have jc_6 := il_eq c_6
      refine lv_iconst (v := 0) hx hb dX3_readMark_26 (by decide) (hp_n (n := 27) rfl ?_)
      exact q_zret C Bh_5 hr hlk (by decide) ⟨Bh_5.2.2, (Or.inl rfl)⟩ dX3_readMark_27
    ·
      have jc_6 := il_ne c_6
      refine lv_iconst (v := 1) hx hb dX3_readMark_22 (by decide) (hp_n (n := 23) rfl ?_)
      refine lv_goto (tgt := 27) hx hb dX3_readMark_23 (by decide) ?_
      exact q_zret C Bh_5 hr hlk (by decide) ⟨Bh_5.2.2, (Or.inr rfl)⟩ dX3_readMark_27
abbrev w_X3_readRow : cw_W := ([204, 205, 301, 352, 353, 354, 355, 356], [], [20], [])
set_option maxRecDepth 100000 in
set_option maxHeartbeats 4000000 in
theorem t_X3_readRow (Γ : hp_G) (l : Launch) (α : hp_T) (g : GC α) (a0 : Nat) (k0 : hp_K α a0 = 4) : Met l yX3_readRow (hp_ws yX3_readRow cX3_readRow 2 (some .boolean)) (hp_rm 6 0 0) (hp_Pc Γ α [.ref a0]) (hp_Qi Γ (fun r β => cw w_X3_readRow α β ∧ (r = 0 ∨ r = 1))) 0 0 (hp_A Γ) := by
  refine hp_start (by decide) ?_
  intro p e s m below meth c C hr hlk B0 hnm
  have C : hp_C Γ p m c cX3_readRow 2 s ([.ref a0] : List Value).toArray RX3 := C
  have hx := C.1.1
  have hb := C.1.2.1
  have hown := C.1.2.2.2.1
  have hts := C.1.2.2.2.2
  have B : hp_B Γ (cw w_X3_readRow) s α α s.heap [] := ⟨B0.1, B0.2.1, cw_rf g⟩
  have lit0 : (0 : Int32).toInt = 0 := by decide
  have lit1 : (1 : Int32).toInt = 1 := by decide
  have lit2 : (2 : Int32).toInt = 2 := by decide
  have lit3 : (3 : Int32).toInt = 3 := by decide
  have lit64 : (64 : Int32).toInt = 64 := by decide
  have hl := lv_entry ([.ref a0]) (n := 2) (Nat.le_of_ble_eq_true rfl)
  show W p l e (hp_rm 6 0 0) s m ([.ref a0] : List Value).toArray below meth c s.heap [] 0 0 (MQ below (hp_Qi Γ (fun r β => cw w_X3_readRow α β ∧ (r = 0 ∨ r = 1))) ([.ref a0] : List Value).toArray s 0 0 (hp_A Γ)) (entryFrame m ([.ref a0] : List Value).toArray 2)
  rw [lg_entry_eq]
  generalize (lg_sl ([.ref a0]) ++ List.replicate (2 - (lg_sl ([.ref a0])).length) Slot.unset).toArray = ls at hl ⊢
  have hl : lv_has ls 2 [(0, .ref a0)] := hl
  refine lv_aload_n hx hb dX3_readRow_0 rfl (lv_at hl 0 rfl) (hp_n (n := 1) rfl ?_)
  refine va_ldcS hx hb hown (sr_X3_186 C.2) dX3_readRow_1 (hp_n (n := 3) rfl ?_)
  refine q_ci (pc' := 6) B (hp_runV (As := [.ref (Γ.2.2.2.2.1 8)]) (rest := []) C B (t_X3_readWord Γ l α B.2.2.1 a0 (cw_k B.2.2 k0) 8 (by decide)) lb_X3_readWord lv_X3_readWord lk_X3_158 (cw_k B.2.2 k0) rfl (by decide) rfl hl.1 rfl (Nat.le_of_ble_eq_true rfl) dX3_readRow_3 ⟨Nat.le_refl _, Nat.le_refl _⟩) (fun _ _ h => cw_tr B.2.2 h.1 (by decide)) rfl (fun rh_1 αh_1 Hh_1 Lh_1 ph_1 Bh_1 => ?_)
  have zh_1 := ph_1.2
  refine lv_if_ne (tgt := 11) hx hb dX3_readRow_6 (by decide) (fun c_2 => ?_) (fun c_2 => hp_n (n := 9) rfl ?_)
  ·
    have jc_2 := il_ne c_2
    refine lv_aload_n hx hb dX3_readRow_11 rfl (lv_at hl 0 rfl) (hp_n (n := 12) rfl ?_)
    refine q_getr (κ := 4) (k := 1) (φ := 201) (pc' := 15) C Bh_1 (cw_k Bh_1.2.2 k0) fl_X3_21 rfl rfl rfl (cw_r Bh_1.2.2 k0 rfl rfl (by decide) (by decide)) dX3_readRow_12 rfl (fun b_3 eb_3 kb_3 => ?_)
    refine lv_iconst (v := 0) hx hb dX3_readRow_15 (by decide) (hp_n (n := 16) rfl ?_)
    refine q_cv (pc' := 19) Bh_1 (hp_runV (As := [.int 0]) (rest := []) C Bh_1 (t_X5_shorten Γ l αh_1 Bh_1.2.2.1 b_3 (cw_k Bh_1.2.2 kb_3) 0) lb_X5_shorten lv_X5_shorten lk_X3_120 (cw_k Bh_1.2.2 kb_3) rfl (by decide) rfl hl.1 rfl (Nat.le_of_ble_eq_true rfl) dX3_readRow_16 ⟨Nat.le_refl _, Nat.le_refl _⟩) (fun _ h => cw_tr Bh_1.2.2 h (by decide)) rfl (fun αh_4 Hh_4 Lh_4 ph_4 Bh_4 => ?_)
    refine lv_aload_n hx hb dX3_readRow_19 rfl (lv_at hl 0 rfl) (hp_n (n := 20) rfl ?_)
    refine q_getr (κ := 4) (k := 0) (φ := 200) (pc' := 23) C Bh_4 (cw_k Bh_4.2.2 k0) fl_X3_12 rfl rfl rfl (cw_r Bh_4.2.2 k0 rfl rfl (by decide) (by decide)) dX3_readRow_20 rfl (fun b_5 eb_5 kb_5 => ?_)
    refine q_cv (pc' := 26) Bh_4 (hp_runV (As := []) (rest := []) C Bh_4 (t_X6_advance Γ l αh_4 Bh_4.2.2.1 b_5 (cw_k Bh_4.2.2 kb_5)) lb_X6_advance lv_X6_advance lk_X3_63 (cw_k Bh_4.2.2 kb_5) rfl (by decide) rfl hl.1 rfl (Nat.le_of_ble_eq_true rfl) dX3_readRow_23 ⟨Nat.le_refl _, Nat.le_refl _⟩) (fun _ h => cw_tr Bh_4.2.2 h (by decide)) rfl (fun αh_6 Hh_6 Lh_6 ph_6 Bh_6 => ?_)
    refine lv_iconst (v := 0) hx hb dX3_readRow_26 (by decide) (hp_n (n := 27) rfl ?_)
    have J28 : ∀ (nq : Nat) (αh_7 : hp_T) (Hh_7 : Heap) (Lh_7 : List Loc) (Bh_7 : hp_B Γ (cw w_X3_readRow) s α αh_7 Hh_7 Lh_7) (v1_h_7 : Int32) (ih_7_0 : 0 ≤ v1_h_7.toInt) (ls : Array Slot) (hl : lv_has ls 2 [(0, .ref a0), (1, .int v1_h_7)]) (hmu28 : (2147483647 - v1_h_7.toInt).toNat = nq), W p l e (hp_rm 6 0 0) s m ([.ref a0] : List Value).toArray below meth c Hh_7 Lh_7 0 0 (MQ below (hp_Qi Γ (fun r β => cw w_X3_readRow α β ∧ (r = 0 ∨ r = 1))) ([.ref a0] : List Value).toArray s 0 0 (hp_A Γ)) (F0 m 28 ls []) := by
      intro nq
      induction nq using Nat.strongRecOn with
      | ind nq ih28 =>
      intro αh_7 Hh_7 Lh_7 Bh_7 v1_h_7 ih_7_0 ls hl hmu28
      have inv28_0 := ih_7_0
      refine lv_iload_n hx hb dX3_readRow_28 rfl (lv_at hl 1 rfl) (hp_n (n := 29) rfl ?_)
      refine lv_bipush (v := 64) hx hb dX3_readRow_29 (by decide) (hp_n (n := 31) rfl ?_)
      have J110 : ∀ (Hh_8 : Heap) (Lh_8 : List Loc) (Bh_8 : hp_B Γ (cw w_X3_readRow) s α αh_7 Hh_8 Lh_8) (ls : Array Slot) (hl : lv_has ls 2 [(0, .ref a0)]), W p l e (hp_rm 6 0 0) s m ([.ref a0] : List Value).toArray below meth c Hh_8 Lh_8 0 0 (MQ below (hp_Qi Γ (fun r β => cw w_X3_readRow α β ∧ (r = 0 ∨ r = 1))) ([.ref a0] : List Value).toArray s 0 0 (hp_A Γ)) (F0 m 110 ls []) := by
        intro Hh_8 Lh_8 Bh_8 ls hl
        refine lv_aload_n hx hb dX3_readRow_110 rfl (lv_at hl 0 rfl) (hp_n (n := 111) rfl ?_)
        refine q_getr (κ := 4) (k := 0) (φ := 200) (pc' := 114) C Bh_8 (cw_k Bh_8.2.2 k0) fl_X3_12 rfl rfl rfl (cw_r Bh_8.2.2 k0 rfl rfl (by decide) (by decide)) dX3_readRow_111 rfl (fun b_9 eb_9 kb_9 => ?_)
        refine q_geti (κ := 7) (k := 3) (φ := 353) (pc' := 117) C Bh_8 (cw_k Bh_8.2.2 kb_9) fl_X3_66 rfl rfl rfl dX3_readRow_114 rfl (fun x_10 ex_10 => ?_)
        refine lv_iconst (v := 3) hx hb dX3_readRow_117 (by decide) (hp_n (n := 118) rfl ?_)
        refine lv_icmp_eq (tgt := 128) hx hb dX3_readRow_118 (by decide) (fun c_11 => ?_) (fun c_11 => hp_n (n := 121) rfl ?_)
        ·
          have jc_11 := il_eq c_11
          refine lv_iconst (v := 1) hx hb dX3_readRow_128 (by decide) (hp_n (n := 129) rfl ?_)
          refine lv_goto (tgt := 133) hx hb dX3_readRow_129 (by decide) ?_
          exact q_zret C Bh_8 hr hlk (by decide) ⟨Bh_8.2.2, (Or.inr rfl)⟩ dX3_readRow_133
        ·
          have jc_11 := il_ne c_11
          refine lv_aload_n hx hb dX3_readRow_121 rfl (lv_at hl 0 rfl) (hp_n (n := 122) rfl ?_)
          refine q_ci (pc' := 125) Bh_8 (hp_runV (As := []) (rest := []) C Bh_8 (t_X3_stray Γ l αh_7 Bh_8.2.2.1 a0 (cw_k Bh_8.2.2 k0)) lb_X3_stray lv_X3_stray lk_X3_117 (cw_k Bh_8.2.2 k0) rfl (by decide) rfl hl.1 rfl (Nat.le_of_ble_eq_true rfl) dX3_readRow_122 ⟨Nat.le_refl _, Nat.le_refl _⟩) (fun _ _ h => cw_tr Bh_8.2.2 h.1 (by decide)) rfl (fun rh_12 αh_12 Hh_12 Lh_12 ph_12 Bh_12 => ?_)
          have zh_12 := ph_12.2
          refine lv_if_eq (tgt := 132) hx hb dX3_readRow_125 (by decide) (fun c_13 => ?_) (fun c_13 => hp_n (n := 128) rfl ?_)
          ·
            have jc_13 := il_eq c_13
            refine lv_iconst (v := 0) hx hb dX3_readRow_132 (by decide) (hp_n (n := 133) rfl ?_)
            exact q_zret C Bh_12 hr hlk (by decide) ⟨Bh_12.2.2, (Or.inl rfl)⟩ dX3_readRow_133
          ·
            have jc_13 := il_ne c_13
            refine lv_iconst (v := 1) hx hb dX3_readRow_128 (by decide) (hp_n (n := 129) rfl ?_)
            refine lv_goto (tgt := 133) hx hb dX3_readRow_129 (by decide) ?_
            exact q_zret C Bh_12 hr hlk (by decide) ⟨Bh_12.2.2, (Or.inr rfl)⟩ dX3_readRow_133
      refine lv_icmp_gt (tgt := 110) hx hb dX3_readRow_31 (by decide) (fun c_14 => ?_) (fun c_14 => hp_n (n := 34) rfl ?_)
      ·
        have jc_14 := il_lt c_14
        exact J110 Hh_7 Lh_7 Bh_7 ls (lv_sub hl [0] rfl)
      ·
        have jc_14 := il_nlt c_14
        refine lv_aload_n hx hb dX3_readRow_34 rfl (lv_at hl 0 rfl) (hp_n (n := 35) rfl ?_)
        refine q_getr (κ := 4) (k := 0) (φ := 200) (pc' := 38) C Bh_7 (cw_k Bh_7.2.2 k0) fl_X3_12 rfl rfl rfl (cw_r Bh_7.2.2 k0 rfl rfl (by decide) (by decide)) dX3_readRow_35 rfl (fun b_15 eb_15 kb_15 => ?_)
        refine q_geti (κ := 7) (k := 3) (φ := 353) (pc' := 41) C Bh_7 (cw_k Bh_7.2.2 kb_15) fl_X3_66 rfl rfl rfl dX3_readRow_38 rfl (fun x_16 ex_16 => ?_)
        refine lv_iconst (v := 2) hx hb dX3_readRow_41 (by decide) (hp_n (n := 42) rfl ?_)
        refine lv_icmp_ne (tgt := 110) hx hb dX3_readRow_42 (by decide) (fun c_17 => ?_) (fun c_17 => hp_n (n := 45) rfl ?_)
        ·
          have jc_17 := il_ne c_17
          exact J110 Hh_7 Lh_7 Bh_7 ls (lv_sub hl [0] rfl)
        ·
          have jc_17 := il_eq c_17
          refine lv_aload_n hx hb dX3_readRow_45 rfl (lv_at hl 0 rfl) (hp_n (n := 46) rfl ?_)
          refine q_gets (κ := 4) (k := 0) (φ := 200) (pc' := 49) C Bh_7 (cw_k Bh_7.2.2 k0) fl_X3_12 rfl rfl rfl eb_15 dX3_readRow_46 rfl ?_
          refine q_geti (κ := 7) (k := 6) (φ := 356) (pc' := 52) C Bh_7 (cw_k Bh_7.2.2 kb_15) fl_X3_188 rfl rfl rfl dX3_readRow_49 rfl (fun x_18 ex_18 => ?_)
          refine lv_aload_n hx hb dX3_readRow_52 rfl (lv_at hl 0 rfl) (hp_n (n := 53) rfl ?_)
          refine q_geti (κ := 4) (k := 3) (φ := 203) (pc' := 56) C Bh_7 (cw_k Bh_7.2.2 k0) fl_X3_33 rfl rfl rfl dX3_readRow_53 rfl (fun x_19 ex_19 => ?_)
          refine lv_icmp_lt (tgt := 65) hx hb dX3_readRow_56 (by decide) (fun c_20 => ?_) (fun c_20 => hp_n (n := 59) rfl ?_)
          ·
            have jc_20 := il_lt c_20
            refine lv_aload_n hx hb dX3_readRow_65 rfl (lv_at hl 0 rfl) (hp_n (n := 66) rfl ?_)
            refine lv_aload_n hx hb dX3_readRow_66 rfl (lv_at hl 0 rfl) (hp_n (n := 67) rfl ?_)
            refine q_getr (κ := 4) (k := 1) (φ := 201) (pc' := 70) C Bh_7 (cw_k Bh_7.2.2 k0) fl_X3_21 rfl rfl rfl (cw_r Bh_7.2.2 k0 rfl rfl (by decide) (by decide)) dX3_readRow_67 rfl (fun b_21 eb_21 kb_21 => ?_)
            refine q_geti (κ := 6) (k := 1) (φ := 301) (pc' := 73) C Bh_7 (cw_k Bh_7.2.2 kb_21) fl_X3_131 rfl rfl rfl dX3_readRow_70 rfl (fun x_22 ex_22 => ?_)
            refine lv_bipush (v := 64) hx hb dX3_readRow_73 (by decide) (hp_n (n := 75) rfl ?_)
            refine q_ci (pc' := 78) Bh_7 (hp_runV (As := [.int x_22, .int 64]) (rest := []) C Bh_7 (t_X3_hasRoom Γ l αh_7 Bh_7.2.2.1 a0 (cw_k Bh_7.2.2 k0) x_22 64) lb_X3_hasRoom lv_X3_hasRoom lk_X3_99 (cw_k Bh_7.2.2 k0) rfl (by decide) rfl hl.1 rfl (Nat.le_of_ble_eq_true rfl) dX3_readRow_75 ⟨Nat.le_refl _, Nat.le_refl _⟩) (fun _ _ h => cw_tr Bh_7.2.2 h.1 (by decide)) rfl (fun rh_23 αh_23 Hh_23 Lh_23 ph_23 Bh_23 => ?_)
            have zh_23 := ph_23.2
            refine lv_if_ne (tgt := 83) hx hb dX3_readRow_78 (by decide) (fun c_24 => ?_) (fun c_24 => hp_n (n := 81) rfl ?_)
            ·
              have jc_24 := il_ne c_24
              refine lv_aload_n hx hb dX3_readRow_83 rfl (lv_at hl 0 rfl) (hp_n (n := 84) rfl ?_)
              have t_25 : b_21 = hp_R αh_23 201 a0 := by rw [cw_R ph_23.1 a0 (by decide)]; exact eb_21
              refine q_gets (κ := 4) (k := 1) (φ := 201) (pc' := 87) C Bh_23 (cw_k Bh_23.2.2 k0) fl_X3_21 rfl rfl rfl t_25 dX3_readRow_84 rfl ?_
              refine lv_aload_n hx hb dX3_readRow_87 rfl (lv_at hl 0 rfl) (hp_n (n := 88) rfl ?_)
              have t_26 : b_15 = hp_R αh_23 200 a0 := by rw [cw_R ph_23.1 a0 (by decide)]; exact eb_15
              refine q_gets (κ := 4) (k := 0) (φ := 200) (pc' := 91) C Bh_23 (cw_k Bh_23.2.2 k0) fl_X3_12 rfl rfl rfl t_26 dX3_readRow_88 rfl ?_
              have t_27 : x_18 = hp_I αh_23 356 b_15 := by rw [cw_I ph_23.1 b_15 (by decide)]; exact ex_18
              refine q_getj (κ := 7) (k := 6) (φ := 356) (pc' := 94) C Bh_23 (cw_k Bh_23.2.2 kb_15) fl_X3_188 rfl rfl rfl t_27 dX3_readRow_91 rfl ?_
              refine q_cv (pc' := 97) Bh_23 (hp_runV (As := [.int x_18]) (rest := []) C Bh_23 (t_X5_put Γ l αh_23 Bh_23.2.2.1 b_21 (cw_k Bh_23.2.2 kb_21) x_18) lb_X5_put lv_X5_put lk_X3_179 (cw_k Bh_23.2.2 kb_21) rfl (by decide) rfl hl.1 rfl (Nat.le_of_ble_eq_true rfl) dX3_readRow_94 ⟨Nat.le_refl _, Nat.le_refl _⟩) (fun _ h => cw_tr Bh_23.2.2 h (by decide)) rfl (fun αh_28 Hh_28 Lh_28 ph_28 Bh_28 => ?_)
              refine lv_aload_n hx hb dX3_readRow_97 rfl (lv_at hl 0 rfl) (hp_n (n := 98) rfl ?_)
              have t_29 : b_15 = hp_R αh_28 200 a0 := by rw [cw_R ph_28 a0 (by decide)]; exact t_26
              refine q_gets (κ := 4) (k := 0) (φ := 200) (pc' := 101) C Bh_28 (cw_k Bh_28.2.2 k0) fl_X3_12 rfl rfl rfl t_29 dX3_readRow_98 rfl ?_
              refine q_cv (pc' := 104) Bh_28 (hp_runV (As := []) (rest := []) C Bh_28 (t_X6_advance Γ l αh_28 Bh_28.2.2.1 b_15 (cw_k Bh_28.2.2 kb_15)) lb_X6_advance lv_X6_advance lk_X3_63 (cw_k Bh_28.2.2 kb_15) rfl (by decide) rfl hl.1 rfl (Nat.le_of_ble_eq_true rfl) dX3_readRow_101 ⟨Nat.le_refl _, Nat.le_refl _⟩) (fun _ h => cw_tr Bh_28.2.2 h (by decide)) rfl (fun αh_30 Hh_30 Lh_30 ph_30 Bh_30 => ?_)
              obtain ⟨x_31, ex_31⟩ : ∃ y : Int32, y = v1_h_7 + 1 := ⟨_, rfl⟩
              have qx_31 : x_31.toInt = v1_h_7.toInt + 1 := by have qa := ib_lo v1_h_7; rw [ex_31]; exact ii_add (by omega) (by omega)
              refine lv_iinc (v := x_31) (lv' := [(1, .int x_31), (0, .ref a0)]) hx hb dX3_readRow_104 hl (k := 1) rfl (by rw [ex_31]; rfl) (by decide) rfl (fun ls hl => hp_n (n := 107) rfl ?_)
              refine lv_goto (tgt := 28) hx hb dX3_readRow_107 (by decide) ?_
              exact ih28 _ (by have qa := ib_hi v1_h_7; have qb := ib_lo v1_h_7; have qc : (v1_h_7 + 1).toInt = v1_h_7.toInt + (1 : Int32).toInt := ii_add (by omega) (by omega); rw [ex_31]; omega) αh_30 Hh_30 Lh_30 Bh_30 x_31 (by omega) ls (lv_sub hl [1, 0] rfl) rfl
            ·
              have jc_24 := il_eq c_24
              refine lv_iconst (v := 0) hx hb dX3_readRow_81 (by decide) (hp_n (n := 82) rfl ?_)
              exact q_zret C Bh_23 hr hlk (by decide) ⟨Bh_23.2.2, (Or.inl rfl)⟩ dX3_readRow_82
          ·
            have jc_20 := il_nlt c_20
            refine lv_aload_n hx hb dX3_readRow_59 rfl (lv_at hl 0 rfl) (hp_n (n := 60) rfl ?_)
            refine lv_iconst (v := 3) hx hb dX3_readRow_60 (by decide) (hp_n (n := 61) rfl ?_)
            refine q_ci (pc' := 64) Bh_7 (hp_runV (As := [.int 3]) (rest := []) C Bh_7 (t_X3_fail Γ l αh_7 Bh_7.2.2.1 a0 (cw_k Bh_7.2.2 k0) 3) lb_X3_fail lv_X3_fail lk_X3_145 (cw_k Bh_7.2.2 k0) rfl (by decide) rfl hl.1 rfl (Nat.le_of_ble_eq_true rfl) dX3_readRow_61 ⟨Nat.le_refl _, Nat.le_refl _⟩) (fun _ _ h => cw_tr Bh_7.2.2 h.1 (by decide)) rfl (fun rh_32 αh_32 Hh_32 Lh_32 ph_32 Bh_32 => ?_)
            have zh_32 := ph_32.2
            exact q_zret C Bh_32 hr hlk (nz_z zh_32) ⟨Bh_32.2.2, zh_32⟩ dX3_readRow_64
    refine lv_istore_n (lv' := [(1, .int 0), (0, .ref a0)]) hx hb dX3_readRow_27 rfl hl (by decide) rfl (fun ls hl => hp_n (n := 28) rfl ?_)
    exact J28 _ αh_6 Hh_6 Lh_6 Bh_6 0 (by omega) ls (lv_sub hl [1, 0] rfl) rfl
  ·
    have jc_2 := il_eq c_2
    refine lv_iconst (v := 0) hx hb dX3_readRow_9 (by decide) (hp_n (n := 10) rfl ?_)
    exact q_zret C Bh_1 hr hlk (by decide) ⟨Bh_1.2.2, (Or.inl rfl)⟩ dX3_readRow_10
abbrev w_X3_readModulus : cw_W := ([204, 205, 209, 352, 353, 354, 355, 356, 550], [], [], [])
abbrev w_X3_readAdd : cw_W := ([204, 205, 206, 352, 353, 354, 355, 356, 501], [], [27], [])
abbrev w_X3_readShow : cw_W := ([204, 205, 206, 208, 209, 352, 353, 354, 355, 356], [], [], [])
abbrev w_X3_readLine : cw_W := ([204, 205, 206, 208, 209, 352, 353, 354, 355, 356, 501], [], [27], [])
abbrev w_X3_readInclusion : cw_W := ([204, 205, 209, 301, 352, 353, 354, 355, 356, 453, 454], [], [20, 21, 22, 23], [])
set_option maxRecDepth 100000 in
set_option maxHeartbeats 4000000 in
theorem t_X3_readInclusion (Γ : hp_G) (l : Launch) (α : hp_T) (g : GC α) (a0 : Nat) (k0 : hp_K α a0 = 4) (a1 : Nat) (k1 : hp_K α a1 = 6) : Met l yX3_readInclusion (hp_ws yX3_readInclusion cX3_readInclusion 5 (some .boolean)) (hp_rm 7 0 0) (hp_Pc Γ α [.ref a0, .ref a1]) (hp_Qi Γ (fun r β => cw w_X3_readInclusion α β ∧ (r = 0 ∨ r = 1))) 0 0 (hp_A Γ) := by
  refine hp_start (by decide) ?_
  intro p e s m below meth c C hr hlk B0 hnm
  have C : hp_C Γ p m c cX3_readInclusion 5 s ([.ref a0, .ref a1] : List Value).toArray RX3 := C
  have hx := C.1.1
  have hb := C.1.2.1
  have hown := C.1.2.2.2.1
  have hts := C.1.2.2.2.2
  have B : hp_B Γ (cw w_X3_readInclusion) s α α s.heap [] := ⟨B0.1, B0.2.1, cw_rf g⟩
  have lit0 : (0 : Int32).toInt = 0 := by decide
  have lit1 : (1 : Int32).toInt = 1 := by decide
  have lit2147483647 : (2147483647 : Int32).toInt = 2147483647 := by decide
  have hl := lv_entry ([.ref a0, .ref a1]) (n := 5) (Nat.le_of_ble_eq_true rfl)
  show W p l e (hp_rm 7 0 0) s m ([.ref a0, .ref a1] : List Value).toArray below meth c s.heap [] 0 0 (MQ below (hp_Qi Γ (fun r β => cw w_X3_readInclusion α β ∧ (r = 0 ∨ r = 1))) ([.ref a0, .ref a1] : List Value).toArray s 0 0 (hp_A Γ)) (entryFrame m ([.ref a0, .ref a1] : List Value).toArray 5)
  rw [lg_entry_eq]
  generalize (lg_sl ([.ref a0, .ref a1]) ++ List.replicate (5 - (lg_sl ([.ref a0, .ref a1])).length) Slot.unset).toArray = ls at hl ⊢
  have hl : lv_has ls 5 [(0, .ref a0), (1, .ref a1)] := hl
  refine lv_aload_n hx hb dX3_readInclusion_0 rfl (lv_at hl 0 rfl) (hp_n (n := 1) rfl ?_)
  refine lv_iconst (v := 0) hx hb dX3_readInclusion_1 (by decide) (hp_n (n := 2) rfl ?_)
  refine lv_ldc hx hb hown (hts _ kc_X3_155) dX3_readInclusion_2 (hp_n (n := 4) rfl ?_)
  refine q_ci (pc' := 7) B (hp_runV (As := [.int 0, .int 2147483647]) (rest := []) C B (t_X3_readNumber Γ l α B.2.2.1 a0 (cw_k B.2.2 k0) 0 2147483647) lb_X3_readNumber lv_X3_readNumber lk_X3_75 (cw_k B.2.2 k0) rfl (by decide) rfl hl.1 rfl (Nat.le_of_ble_eq_true rfl) dX3_readInclusion_4 ⟨Nat.le_refl _, Nat.le_refl _⟩) (fun _ _ h => cw_tr B.2.2 h.1 (by decide)) rfl (fun rh_1 αh_1 Hh_1 Lh_1 ph_1 Bh_1 => ?_)
  have zh_1 := ph_1.2
  refine lv_if_ne (tgt := 12) hx hb dX3_readInclusion_7 (by decide) (fun c_2 => ?_) (fun c_2 => hp_n (n := 10) rfl ?_)
  ·
    have jc_2 := il_ne c_2
    refine lv_aload_n hx hb dX3_readInclusion_12 rfl (lv_at hl 0 rfl) (hp_n (n := 13) rfl ?_)
    refine q_geti (κ := 4) (k := 9) (φ := 209) (pc' := 16) C Bh_1 (cw_k Bh_1.2.2 k0) fl_X3_56 rfl rfl rfl dX3_readInclusion_13 rfl (fun x_3 ex_3 => ?_)
    refine lv_istore_n (lv' := [(2, .int x_3), (0, .ref a0), (1, .ref a1)]) hx hb dX3_readInclusion_16 rfl hl (by decide) rfl (fun ls hl => hp_n (n := 17) rfl ?_)
    refine lv_aload_n hx hb dX3_readInclusion_17 rfl (lv_at hl 1 rfl) (hp_n (n := 18) rfl ?_)
    refine va_ldcS hx hb hown (sr_X3_156 C.2) dX3_readInclusion_18 (hp_n (n := 20) rfl ?_)
    refine q_ci (pc' := 23) Bh_1 (hp_runV (As := [.ref (Γ.2.2.2.2.1 18)]) (rest := []) C Bh_1 (t_X3_readWord Γ l αh_1 Bh_1.2.2.1 a0 (cw_k Bh_1.2.2 k0) 18 (by decide)) lb_X3_readWord lv_X3_readWord lk_X3_158 (cw_k Bh_1.2.2 k0) rfl (by decide) rfl hl.1 rfl (Nat.le_of_ble_eq_true rfl) dX3_readInclusion_20 ⟨Nat.le_refl _, Nat.le_refl _⟩) (fun _ _ h => cw_tr Bh_1.2.2 h.1 (by decide)) rfl (fun rh_4 αh_4 Hh_4 Lh_4 ph_4 Bh_4 => ?_)
    have zh_4 := ph_4.2
    refine lv_if_eq (tgt := 38) hx hb dX3_readInclusion_23 (by decide) (fun c_5 => ?_) (fun c_5 => hp_n (n := 26) rfl ?_)
    ·
      have jc_5 := il_eq c_5
      refine lv_iconst (v := 0) hx hb dX3_readInclusion_38 (by decide) (hp_n (n := 39) rfl ?_)
      exact q_zret C Bh_4 hr hlk (by decide) ⟨Bh_4.2.2, (Or.inl rfl)⟩ dX3_readInclusion_39
    ·
      have jc_5 := il_ne c_5
      refine lv_aload_n hx hb dX3_readInclusion_26 rfl (lv_at hl 1 rfl) (hp_n (n := 27) rfl ?_)
      refine lv_iload_n hx hb dX3_readInclusion_27 rfl (lv_at hl 0 rfl) (hp_n (n := 28) rfl ?_)
      refine lv_iconst (v := 1) hx hb dX3_readInclusion_28 (by decide) (hp_n (n := 29) rfl ?_)
      refine lv_iadd hx hb dX3_readInclusion_29 (hp_n (n := 30) rfl (lv_topi (fun x_6 ex_6 => ?_)))
      refine lv_ldc hx hb hown (hts _ kc_X3_155) dX3_readInclusion_30 (hp_n (n := 32) rfl ?_)
      refine q_ci (pc' := 35) Bh_4 (hp_runV (As := [.int x_6, .int 2147483647]) (rest := []) C Bh_4 (t_X3_readNumber Γ l αh_4 Bh_4.2.2.1 a0 (cw_k Bh_4.2.2 k0) x_6 2147483647) lb_X3_readNumber lv_X3_readNumber lk_X3_75 (cw_k Bh_4.2.2 k0) rfl (by decide) rfl hl.1 rfl (Nat.le_of_ble_eq_true rfl) dX3_readInclusion_32 ⟨Nat.le_refl _, Nat.le_refl _⟩) (fun _ _ h => cw_tr Bh_4.2.2 h.1 (by decide)) rfl (fun rh_7 αh_7 Hh_7 Lh_7 ph_7 Bh_7 => ?_)
      have zh_7 := ph_7.2
      refine lv_if_ne (tgt := 40) hx hb dX3_readInclusion_35 (by decide) (fun c_8 => ?_) (fun c_8 => hp_n (n := 38) rfl ?_)
      ·
        have jc_8 := il_ne c_8
        refine lv_aload_n hx hb dX3_readInclusion_40 rfl (lv_at hl 1 rfl) (hp_n (n := 41) rfl ?_)
        refine q_geti (κ := 4) (k := 9) (φ := 209) (pc' := 44) C Bh_7 (cw_k Bh_7.2.2 k0) fl_X3_56 rfl rfl rfl dX3_readInclusion_41 rfl (fun x_9 ex_9 => ?_)
        refine lv_istore_n (lv' := [(3, .int x_9), (2, .int x_3), (0, .ref a0), (1, .ref a1)]) hx hb dX3_readInclusion_44 rfl hl (by decide) rfl (fun ls hl => hp_n (n := 45) rfl ?_)
        refine lv_aload_n hx hb dX3_readInclusion_45 rfl (lv_at hl 2 rfl) (hp_n (n := 46) rfl ?_)
        refine va_ldcS hx hb hown (sr_X3_161 C.2) dX3_readInclusion_46 (hp_n (n := 48) rfl ?_)
        refine q_ci (pc' := 51) Bh_7 (hp_runV (As := [.ref (Γ.2.2.2.2.1 16)]) (rest := []) C Bh_7 (t_X3_readMark Γ l αh_7 Bh_7.2.2.1 a0 (cw_k Bh_7.2.2 k0) 16 (by decide)) lb_X3_readMark lv_X3_readMark lk_X3_163 (cw_k Bh_7.2.2 k0) rfl (by decide) rfl hl.1 rfl (Nat.le_of_ble_eq_true rfl) dX3_readInclusion_48 ⟨Nat.le_refl _, Nat.le_refl _⟩) (fun _ _ h => cw_tr Bh_7.2.2 h.1 (by decide)) rfl (fun rh_10 αh_10 Hh_10 Lh_10 ph_10 Bh_10 => ?_)
        have zh_10 := ph_10.2
        refine lv_if_ne (tgt := 56) hx hb dX3_readInclusion_51 (by decide) (fun c_11 => ?_) (fun c_11 => hp_n (n := 54) rfl ?_)
        ·
          have jc_11 := il_ne c_11
          refine lv_aload_n hx hb dX3_readInclusion_56 rfl (lv_at hl 2 rfl) (hp_n (n := 57) rfl ?_)
          refine q_geti (κ := 4) (k := 9) (φ := 209) (pc' := 60) C Bh_10 (cw_k Bh_10.2.2 k0) fl_X3_56 rfl rfl rfl dX3_readInclusion_57 rfl (fun x_12 ex_12 => ?_)
          refine lv_istore (lv' := [(4, .int x_12), (3, .int x_9), (2, .int x_3), (0, .ref a0), (1, .ref a1)]) hx hb dX3_readInclusion_60 hl (by decide) rfl (fun ls hl => hp_n (n := 62) rfl ?_)
          refine lv_aload_n hx hb dX3_readInclusion_62 rfl (lv_at hl 3 rfl) (hp_n (n := 63) rfl ?_)
          refine va_ldcS hx hb hown (sr_X3_166 C.2) dX3_readInclusion_63 (hp_n (n := 65) rfl ?_)
          refine q_ci (pc' := 68) Bh_10 (hp_runV (As := [.ref (Γ.2.2.2.2.1 13)]) (rest := []) C Bh_10 (t_X3_readMark Γ l αh_10 Bh_10.2.2.1 a0 (cw_k Bh_10.2.2 k0) 13 (by decide)) lb_X3_readMark lv_X3_readMark lk_X3_163 (cw_k Bh_10.2.2 k0) rfl (by decide) rfl hl.1 rfl (Nat.le_of_ble_eq_true rfl) dX3_readInclusion_65 ⟨Nat.le_refl _, Nat.le_refl _⟩) (fun _ _ h => cw_tr Bh_10.2.2 h.1 (by decide)) rfl (fun rh_13 αh_13 Hh_13 Lh_13 ph_13 Bh_13 => ?_)
          have zh_13 := ph_13.2
          refine lv_if_eq (tgt := 78) hx hb dX3_readInclusion_68 (by decide) (fun c_14 => ?_) (fun c_14 => hp_n (n := 71) rfl ?_)
          ·
            have jc_14 := il_eq c_14
            refine lv_iconst (v := 0) hx hb dX3_readInclusion_78 (by decide) (hp_n (n := 79) rfl ?_)
            exact q_zret C Bh_13 hr hlk (by decide) ⟨Bh_13.2.2, (Or.inl rfl)⟩ dX3_readInclusion_79
          ·
            have jc_14 := il_ne c_14
            refine lv_aload_n hx hb dX3_readInclusion_71 rfl (lv_at hl 3 rfl) (hp_n (n := 72) rfl ?_)
            refine q_ci (pc' := 75) Bh_13 (hp_runV (As := []) (rest := []) C Bh_13 (t_X3_readRow Γ l αh_13 Bh_13.2.2.1 a0 (cw_k Bh_13.2.2 k0)) lb_X3_readRow lv_X3_readRow lk_X3_168 (cw_k Bh_13.2.2 k0) rfl (by decide) rfl hl.1 rfl (Nat.le_of_ble_eq_true rfl) dX3_readInclusion_72 ⟨Nat.le_refl _, Nat.le_refl _⟩) (fun _ _ h => cw_tr Bh_13.2.2 h.1 (by decide)) rfl (fun rh_15 αh_15 Hh_15 Lh_15 ph_15 Bh_15 => ?_)
            have zh_15 := ph_15.2
            refine lv_if_ne (tgt := 80) hx hb dX3_readInclusion_75 (by decide) (fun c_16 => ?_) (fun c_16 => hp_n (n := 78) rfl ?_)
            ·
              have jc_16 := il_ne c_16
              refine lv_aload_n hx hb dX3_readInclusion_80 rfl (lv_at hl 3 rfl) (hp_n (n := 81) rfl ?_)
              refine q_getr (κ := 4) (k := 2) (φ := 202) (pc' := 84) C Bh_15 (cw_k Bh_15.2.2 k0) fl_X3_28 rfl rfl rfl (cw_r Bh_15.2.2 k0 rfl rfl (by decide) (by decide)) dX3_readInclusion_81 rfl (fun b_17 eb_17 kb_17 => ?_)
              refine lv_iload_n hx hb dX3_readInclusion_84 rfl (lv_at hl 2 rfl) (hp_n (n := 85) rfl ?_)
              refine lv_iload_n hx hb dX3_readInclusion_85 rfl (lv_at hl 1 rfl) (hp_n (n := 86) rfl ?_)
              refine q_cv (pc' := 89) Bh_15 (hp_runV (As := [.int x_3, .int x_9]) (rest := []) C Bh_15 (t_X8_toThing Γ l αh_15 Bh_15.2.2.1 b_17 (cw_k Bh_15.2.2 kb_17) x_3 x_9) lb_X8_toThing lv_X8_toThing lk_X3_171 (cw_k Bh_15.2.2 kb_17) rfl (by decide) rfl hl.1 rfl (Nat.le_of_ble_eq_true rfl) dX3_readInclusion_86 ⟨Nat.le_refl _, Nat.le_refl _⟩) (fun _ h => cw_tr Bh_15.2.2 h (by decide)) rfl (fun αh_18 Hh_18 Lh_18 ph_18 Bh_18 => ?_)
              refine lv_aload_n hx hb dX3_readInclusion_89 rfl (lv_at hl 4 rfl) (hp_n (n := 90) rfl ?_)
              refine lv_aload_n hx hb dX3_readInclusion_90 rfl (lv_at hl 3 rfl) (hp_n (n := 91) rfl ?_)
              have t_19 : b_17 = hp_R αh_18 202 a0 := by rw [cw_R ph_18 a0 (by decide)]; exact eb_17
              refine q_gets (κ := 4) (k := 2) (φ := 202) (pc' := 94) C Bh_18 (cw_k Bh_18.2.2 k0) fl_X3_28 rfl rfl rfl t_19 dX3_readInclusion_91 rfl ?_
              refine lv_aload_n hx hb dX3_readInclusion_94 rfl (lv_at hl 3 rfl) (hp_n (n := 95) rfl ?_)
              refine q_geti (κ := 4) (k := 3) (φ := 203) (pc' := 98) C Bh_18 (cw_k Bh_18.2.2 k0) fl_X3_33 rfl rfl rfl dX3_readInclusion_95 rfl (fun x_20 ex_20 => ?_)
              refine lv_aload_n hx hb dX3_readInclusion_98 rfl (lv_at hl 3 rfl) (hp_n (n := 99) rfl ?_)
              refine q_getr (κ := 4) (k := 1) (φ := 201) (pc' := 102) C Bh_18 (cw_k Bh_18.2.2 k0) fl_X3_21 rfl rfl rfl (cw_r Bh_18.2.2 k0 rfl rfl (by decide) (by decide)) dX3_readInclusion_99 rfl (fun b_21 eb_21 kb_21 => ?_)
              refine lv_iload hx hb dX3_readInclusion_102 (lv_at hl 0 rfl) (hp_n (n := 104) rfl ?_)
              refine lv_aload_n hx hb dX3_readInclusion_104 rfl (lv_at hl 3 rfl) (hp_n (n := 105) rfl ?_)
              refine q_geti (κ := 4) (k := 9) (φ := 209) (pc' := 108) C Bh_18 (cw_k Bh_18.2.2 k0) fl_X3_56 rfl rfl rfl dX3_readInclusion_105 rfl (fun x_22 ex_22 => ?_)
              refine q_ci (pc' := 111) Bh_18 (hp_runV (As := [.int x_20, .ref b_21, .int x_12, .int x_22]) (rest := [.ref a1]) C Bh_18 (t_X8_whyInclusion Γ l αh_18 Bh_18.2.2.1 b_17 (cw_k Bh_18.2.2 kb_17) x_20 b_21 (cw_k Bh_18.2.2 kb_21) x_12 x_22) lb_X8_whyInclusion lv_X8_whyInclusion lk_X3_175 (cw_k Bh_18.2.2 kb_17) rfl (by decide) rfl hl.1 rfl (Nat.le_of_ble_eq_true rfl) dX3_readInclusion_108 ⟨Nat.le_refl _, Nat.le_refl _⟩) (fun _ _ h => by rw [h]; exact Bh_18.2.2) rfl (fun rh_23 αh_23 Hh_23 Lh_23 ph_23 Bh_23 => ?_)
              rw [ph_23] at Bh_23
              refine q_cv (pc' := 114) Bh_23 (hp_runV (As := [.int rh_23]) (rest := []) C Bh_23 (t_X5_put Γ l αh_18 Bh_23.2.2.1 a1 (cw_k Bh_23.2.2 k1) rh_23) lb_X5_put lv_X5_put lk_X3_179 (cw_k Bh_23.2.2 k1) rfl (by decide) rfl hl.1 rfl (Nat.le_of_ble_eq_true rfl) dX3_readInclusion_111 ⟨Nat.le_refl _, Nat.le_refl _⟩) (fun _ h => cw_tr Bh_23.2.2 h (by decide)) rfl (fun αh_24 Hh_24 Lh_24 ph_24 Bh_24 => ?_)
              refine lv_iconst (v := 1) hx hb dX3_readInclusion_114 (by decide) (hp_n (n := 115) rfl ?_)
              exact q_zret C Bh_24 hr hlk (by decide) ⟨Bh_24.2.2, (Or.inr rfl)⟩ dX3_readInclusion_115
            ·
              have jc_16 := il_eq c_16
              refine lv_iconst (v := 0) hx hb dX3_readInclusion_78 (by decide) (hp_n (n := 79) rfl ?_)
              exact q_zret C Bh_15 hr hlk (by decide) ⟨Bh_15.2.2, (Or.inl rfl)⟩ dX3_readInclusion_79
        ·
          have jc_11 := il_eq c_11
          refine lv_iconst (v := 0) hx hb dX3_readInclusion_54 (by decide) (hp_n (n := 55) rfl ?_)
          exact q_zret C Bh_10 hr hlk (by decide) ⟨Bh_10.2.2, (Or.inl rfl)⟩ dX3_readInclusion_55
      ·
        have jc_8 := il_eq c_8
        refine lv_iconst (v := 0) hx hb dX3_readInclusion_38 (by decide) (hp_n (n := 39) rfl ?_)
        exact q_zret C Bh_7 hr hlk (by decide) ⟨Bh_7.2.2, (Or.inl rfl)⟩ dX3_readInclusion_39
  ·
    have jc_2 := il_eq c_2
    refine lv_iconst (v := 0) hx hb dX3_readInclusion_10 (by decide) (hp_n (n := 11) rfl ?_)
    exact q_zret C Bh_1 hr hlk (by decide) ⟨Bh_1.2.2, (Or.inl rfl)⟩ dX3_readInclusion_11
abbrev w_X3_readGrowth : cw_W := ([204, 205, 209, 301, 352, 353, 354, 355, 356, 453, 454], [], [20, 21, 22, 23], [])
set_option maxRecDepth 100000 in
set_option maxHeartbeats 4000000 in
theorem t_X3_readGrowth (Γ : hp_G) (l : Launch) (α : hp_T) (g : GC α) (a0 : Nat) (k0 : hp_K α a0 = 4) (a1 : Nat) (k1 : hp_K α a1 = 6) : Met l yX3_readGrowth (hp_ws yX3_readGrowth cX3_readGrowth 5 (some .boolean)) (hp_rm 7 0 0) (hp_Pc Γ α [.ref a0, .ref a1]) (hp_Qi Γ (fun r β => cw w_X3_readGrowth α β ∧ (r = 0 ∨ r = 1))) 0 0 (hp_A Γ) := by
  refine hp_start (by decide) ?_
  intro p e s m below meth c C hr hlk B0 hnm
  have C : hp_C Γ p m c cX3_readGrowth 5 s ([.ref a0, .ref a1] : List Value).toArray RX3 := C
  have hx := C.1.1
  have hb := C.1.2.1
  have hown := C.1.2.2.2.1
  have hts := C.1.2.2.2.2
  have B : hp_B Γ (cw w_X3_readGrowth) s α α s.heap [] := ⟨B0.1, B0.2.1, cw_rf g⟩
  have lit0 : (0 : Int32).toInt = 0 := by decide
  have lit1 : (1 : Int32).toInt = 1 := by decide
  have lit2147483647 : (2147483647 : Int32).toInt = 2147483647 := by decide
  have hl := lv_entry ([.ref a0, .ref a1]) (n := 5) (Nat.le_of_ble_eq_true rfl)
  show W p l e (hp_rm 7 0 0) s m ([.ref a0, .ref a1] : List Value).toArray below meth c s.heap [] 0 0 (MQ below (hp_Qi Γ (fun r β => cw w_X3_readGrowth α β ∧ (r = 0 ∨ r = 1))) ([.ref a0, .ref a1] : List Value).toArray s 0 0 (hp_A Γ)) (entryFrame m ([.ref a0, .ref a1] : List Value).toArray 5)
  rw [lg_entry_eq]
  generalize (lg_sl ([.ref a0, .ref a1]) ++ List.replicate (5 - (lg_sl ([.ref a0, .ref a1])).length) Slot.unset).toArray = ls at hl ⊢
  have hl : lv_has ls 5 [(0, .ref a0), (1, .ref a1)] := hl
  refine lv_aload_n hx hb dX3_readGrowth_0 rfl (lv_at hl 0 rfl) (hp_n (n := 1) rfl ?_)
  refine lv_iconst (v := 0) hx hb dX3_readGrowth_1 (by decide) (hp_n (n := 2) rfl ?_)
  refine lv_ldc hx hb hown (hts _ kc_X3_155) dX3_readGrowth_2 (hp_n (n := 4) rfl ?_)
  refine q_ci (pc' := 7) B (hp_runV (As := [.int 0, .int 2147483647]) (rest := []) C B (t_X3_readNumber Γ l α B.2.2.1 a0 (cw_k B.2.2 k0) 0 2147483647) lb_X3_readNumber lv_X3_readNumber lk_X3_75 (cw_k B.2.2 k0) rfl (by decide) rfl hl.1 rfl (Nat.le_of_ble_eq_true rfl) dX3_readGrowth_4 ⟨Nat.le_refl _, Nat.le_refl _⟩) (fun _ _ h => cw_tr B.2.2 h.1 (by decide)) rfl (fun rh_1 αh_1 Hh_1 Lh_1 ph_1 Bh_1 => ?_)
  have zh_1 := ph_1.2
  refine lv_if_ne (tgt := 12) hx hb dX3_readGrowth_7 (by decide) (fun c_2 => ?_) (fun c_2 => hp_n (n := 10) rfl ?_)
  ·
    have jc_2 := il_ne c_2
    refine lv_aload_n hx hb dX3_readGrowth_12 rfl (lv_at hl 0 rfl) (hp_n (n := 13) rfl ?_)
    refine q_geti (κ := 4) (k := 9) (φ := 209) (pc' := 16) C Bh_1 (cw_k Bh_1.2.2 k0) fl_X3_56 rfl rfl rfl dX3_readGrowth_13 rfl (fun x_3 ex_3 => ?_)
    refine lv_istore_n (lv' := [(2, .int x_3), (0, .ref a0), (1, .ref a1)]) hx hb dX3_readGrowth_16 rfl hl (by decide) rfl (fun ls hl => hp_n (n := 17) rfl ?_)
    refine lv_aload_n hx hb dX3_readGrowth_17 rfl (lv_at hl 1 rfl) (hp_n (n := 18) rfl ?_)
    refine va_ldcS hx hb hown (sr_X3_161 C.2) dX3_readGrowth_18 (hp_n (n := 20) rfl ?_)
    refine q_ci (pc' := 23) Bh_1 (hp_runV (As := [.ref (Γ.2.2.2.2.1 16)]) (rest := []) C Bh_1 (t_X3_readMark Γ l αh_1 Bh_1.2.2.1 a0 (cw_k Bh_1.2.2 k0) 16 (by decide)) lb_X3_readMark lv_X3_readMark lk_X3_163 (cw_k Bh_1.2.2 k0) rfl (by decide) rfl hl.1 rfl (Nat.le_of_ble_eq_true rfl) dX3_readGrowth_20 ⟨Nat.le_refl _, Nat.le_refl _⟩) (fun _ _ h => cw_tr Bh_1.2.2 h.1 (by decide)) rfl (fun rh_4 αh_4 Hh_4 Lh_4 ph_4 Bh_4 => ?_)
    have zh_4 := ph_4.2
    refine lv_if_ne (tgt := 28) hx hb dX3_readGrowth_23 (by decide) (fun c_5 => ?_) (fun c_5 => hp_n (n := 26) rfl ?_)
    ·
      have jc_5 := il_ne c_5
      refine lv_aload_n hx hb dX3_readGrowth_28 rfl (lv_at hl 1 rfl) (hp_n (n := 29) rfl ?_)
      refine q_geti (κ := 4) (k := 9) (φ := 209) (pc' := 32) C Bh_4 (cw_k Bh_4.2.2 k0) fl_X3_56 rfl rfl rfl dX3_readGrowth_29 rfl (fun x_6 ex_6 => ?_)
      refine lv_istore_n (lv' := [(3, .int x_6), (2, .int x_3), (0, .ref a0), (1, .ref a1)]) hx hb dX3_readGrowth_32 rfl hl (by decide) rfl (fun ls hl => hp_n (n := 33) rfl ?_)
      refine lv_aload_n hx hb dX3_readGrowth_33 rfl (lv_at hl 2 rfl) (hp_n (n := 34) rfl ?_)
      refine va_ldcS hx hb hown (sr_X3_92 C.2) dX3_readGrowth_34 (hp_n (n := 36) rfl ?_)
      refine q_ci (pc' := 39) Bh_4 (hp_runV (As := [.ref (Γ.2.2.2.2.1 20)]) (rest := []) C Bh_4 (t_X3_readWord Γ l αh_4 Bh_4.2.2.1 a0 (cw_k Bh_4.2.2 k0) 20 (by decide)) lb_X3_readWord lv_X3_readWord lk_X3_158 (cw_k Bh_4.2.2 k0) rfl (by decide) rfl hl.1 rfl (Nat.le_of_ble_eq_true rfl) dX3_readGrowth_36 ⟨Nat.le_refl _, Nat.le_refl _⟩) (fun _ _ h => cw_tr Bh_4.2.2 h.1 (by decide)) rfl (fun rh_7 αh_7 Hh_7 Lh_7 ph_7 Bh_7 => ?_)
      have zh_7 := ph_7.2
      refine lv_if_eq (tgt := 52) hx hb dX3_readGrowth_39 (by decide) (fun c_8 => ?_) (fun c_8 => hp_n (n := 42) rfl ?_)
      ·
        have jc_8 := il_eq c_8
        refine lv_iconst (v := 0) hx hb dX3_readGrowth_52 (by decide) (hp_n (n := 53) rfl ?_)
        exact q_zret C Bh_7 hr hlk (by decide) ⟨Bh_7.2.2, (Or.inl rfl)⟩ dX3_readGrowth_53
      ·
        have jc_8 := il_ne c_8
        refine lv_aload_n hx hb dX3_readGrowth_42 rfl (lv_at hl 2 rfl) (hp_n (n := 43) rfl ?_)
        refine lv_iload_n hx hb dX3_readGrowth_43 rfl (lv_at hl 1 rfl) (hp_n (n := 44) rfl ?_)
        refine lv_ldc hx hb hown (hts _ kc_X3_155) dX3_readGrowth_44 (hp_n (n := 46) rfl ?_)
        refine q_ci (pc' := 49) Bh_7 (hp_runV (As := [.int x_3, .int 2147483647]) (rest := []) C Bh_7 (t_X3_readNumber Γ l αh_7 Bh_7.2.2.1 a0 (cw_k Bh_7.2.2 k0) x_3 2147483647) lb_X3_readNumber lv_X3_readNumber lk_X3_75 (cw_k Bh_7.2.2 k0) rfl (by decide) rfl hl.1 rfl (Nat.le_of_ble_eq_true rfl) dX3_readGrowth_46 ⟨Nat.le_refl _, Nat.le_refl _⟩) (fun _ _ h => cw_tr Bh_7.2.2 h.1 (by decide)) rfl (fun rh_9 αh_9 Hh_9 Lh_9 ph_9 Bh_9 => ?_)
        have zh_9 := ph_9.2
        refine lv_if_ne (tgt := 54) hx hb dX3_readGrowth_49 (by decide) (fun c_10 => ?_) (fun c_10 => hp_n (n := 52) rfl ?_)
        ·
          have jc_10 := il_ne c_10
          refine lv_aload_n hx hb dX3_readGrowth_54 rfl (lv_at hl 2 rfl) (hp_n (n := 55) rfl ?_)
          refine q_geti (κ := 4) (k := 9) (φ := 209) (pc' := 58) C Bh_9 (cw_k Bh_9.2.2 k0) fl_X3_56 rfl rfl rfl dX3_readGrowth_55 rfl (fun x_11 ex_11 => ?_)
          refine lv_istore (lv' := [(4, .int x_11), (3, .int x_6), (2, .int x_3), (0, .ref a0), (1, .ref a1)]) hx hb dX3_readGrowth_58 hl (by decide) rfl (fun ls hl => hp_n (n := 60) rfl ?_)
          refine lv_aload_n hx hb dX3_readGrowth_60 rfl (lv_at hl 3 rfl) (hp_n (n := 61) rfl ?_)
          refine va_ldcS hx hb hown (sr_X3_166 C.2) dX3_readGrowth_61 (hp_n (n := 63) rfl ?_)
          refine q_ci (pc' := 66) Bh_9 (hp_runV (As := [.ref (Γ.2.2.2.2.1 13)]) (rest := []) C Bh_9 (t_X3_readMark Γ l αh_9 Bh_9.2.2.1 a0 (cw_k Bh_9.2.2 k0) 13 (by decide)) lb_X3_readMark lv_X3_readMark lk_X3_163 (cw_k Bh_9.2.2 k0) rfl (by decide) rfl hl.1 rfl (Nat.le_of_ble_eq_true rfl) dX3_readGrowth_63 ⟨Nat.le_refl _, Nat.le_refl _⟩) (fun _ _ h => cw_tr Bh_9.2.2 h.1 (by decide)) rfl (fun rh_12 αh_12 Hh_12 Lh_12 ph_12 Bh_12 => ?_)
          have zh_12 := ph_12.2
          refine lv_if_eq (tgt := 76) hx hb dX3_readGrowth_66 (by decide) (fun c_13 => ?_) (fun c_13 => hp_n (n := 69) rfl ?_)
          ·
            have jc_13 := il_eq c_13
            refine lv_iconst (v := 0) hx hb dX3_readGrowth_76 (by decide) (hp_n (n := 77) rfl ?_)
            exact q_zret C Bh_12 hr hlk (by decide) ⟨Bh_12.2.2, (Or.inl rfl)⟩ dX3_readGrowth_77
          ·
            have jc_13 := il_ne c_13
            refine lv_aload_n hx hb dX3_readGrowth_69 rfl (lv_at hl 3 rfl) (hp_n (n := 70) rfl ?_)
            refine q_ci (pc' := 73) Bh_12 (hp_runV (As := []) (rest := []) C Bh_12 (t_X3_readRow Γ l αh_12 Bh_12.2.2.1 a0 (cw_k Bh_12.2.2 k0)) lb_X3_readRow lv_X3_readRow lk_X3_168 (cw_k Bh_12.2.2 k0) rfl (by decide) rfl hl.1 rfl (Nat.le_of_ble_eq_true rfl) dX3_readGrowth_70 ⟨Nat.le_refl _, Nat.le_refl _⟩) (fun _ _ h => cw_tr Bh_12.2.2 h.1 (by decide)) rfl (fun rh_14 αh_14 Hh_14 Lh_14 ph_14 Bh_14 => ?_)
            have zh_14 := ph_14.2
            refine lv_if_ne (tgt := 78) hx hb dX3_readGrowth_73 (by decide) (fun c_15 => ?_) (fun c_15 => hp_n (n := 76) rfl ?_)
            ·
              have jc_15 := il_ne c_15
              refine lv_aload_n hx hb dX3_readGrowth_78 rfl (lv_at hl 4 rfl) (hp_n (n := 79) rfl ?_)
              refine lv_aload_n hx hb dX3_readGrowth_79 rfl (lv_at hl 3 rfl) (hp_n (n := 80) rfl ?_)
              refine q_getr (κ := 4) (k := 2) (φ := 202) (pc' := 83) C Bh_14 (cw_k Bh_14.2.2 k0) fl_X3_28 rfl rfl rfl (cw_r Bh_14.2.2 k0 rfl rfl (by decide) (by decide)) dX3_readGrowth_80 rfl (fun b_16 eb_16 kb_16 => ?_)
              refine lv_aload_n hx hb dX3_readGrowth_83 rfl (lv_at hl 3 rfl) (hp_n (n := 84) rfl ?_)
              refine q_geti (κ := 4) (k := 3) (φ := 203) (pc' := 87) C Bh_14 (cw_k Bh_14.2.2 k0) fl_X3_33 rfl rfl rfl dX3_readGrowth_84 rfl (fun x_17 ex_17 => ?_)
              refine lv_aload_n hx hb dX3_readGrowth_87 rfl (lv_at hl 3 rfl) (hp_n (n := 88) rfl ?_)
              refine q_getr (κ := 4) (k := 1) (φ := 201) (pc' := 91) C Bh_14 (cw_k Bh_14.2.2 k0) fl_X3_21 rfl rfl rfl (cw_r Bh_14.2.2 k0 rfl rfl (by decide) (by decide)) dX3_readGrowth_88 rfl (fun b_18 eb_18 kb_18 => ?_)
              refine lv_iload_n hx hb dX3_readGrowth_91 rfl (lv_at hl 2 rfl) (hp_n (n := 92) rfl ?_)
              refine lv_iload_n hx hb dX3_readGrowth_92 rfl (lv_at hl 1 rfl) (hp_n (n := 93) rfl ?_)
              refine lv_iload hx hb dX3_readGrowth_93 (lv_at hl 0 rfl) (hp_n (n := 95) rfl ?_)
              refine lv_aload_n hx hb dX3_readGrowth_95 rfl (lv_at hl 3 rfl) (hp_n (n := 96) rfl ?_)
              refine q_geti (κ := 4) (k := 9) (φ := 209) (pc' := 99) C Bh_14 (cw_k Bh_14.2.2 k0) fl_X3_56 rfl rfl rfl dX3_readGrowth_96 rfl (fun x_19 ex_19 => ?_)
              refine q_ci (pc' := 102) Bh_14 (hp_runV (As := [.int x_17, .ref b_18, .int x_3, .int x_6, .int x_11, .int x_19]) (rest := [.ref a1]) C Bh_14 (t_X8_whyGrowth Γ l αh_14 Bh_14.2.2.1 b_16 (cw_k Bh_14.2.2 kb_16) x_17 b_18 (cw_k Bh_14.2.2 kb_18) x_3 x_6 x_11 x_19) lb_X8_whyGrowth lv_X8_whyGrowth lk_X3_182 (cw_k Bh_14.2.2 kb_16) rfl (by decide) rfl hl.1 rfl (Nat.le_of_ble_eq_true rfl) dX3_readGrowth_99 ⟨Nat.le_refl _, Nat.le_refl _⟩) (fun _ _ h => cw_tr Bh_14.2.2 h (by decide)) rfl (fun rh_20 αh_20 Hh_20 Lh_20 ph_20 Bh_20 => ?_)
              refine q_cv (pc' := 105) Bh_20 (hp_runV (As := [.int rh_20]) (rest := []) C Bh_20 (t_X5_put Γ l αh_20 Bh_20.2.2.1 a1 (cw_k Bh_20.2.2 k1) rh_20) lb_X5_put lv_X5_put lk_X3_179 (cw_k Bh_20.2.2 k1) rfl (by decide) rfl hl.1 rfl (Nat.le_of_ble_eq_true rfl) dX3_readGrowth_102 ⟨Nat.le_refl _, Nat.le_refl _⟩) (fun _ h => cw_tr Bh_20.2.2 h (by decide)) rfl (fun αh_21 Hh_21 Lh_21 ph_21 Bh_21 => ?_)
              refine lv_iconst (v := 1) hx hb dX3_readGrowth_105 (by decide) (hp_n (n := 106) rfl ?_)
              exact q_zret C Bh_21 hr hlk (by decide) ⟨Bh_21.2.2, (Or.inr rfl)⟩ dX3_readGrowth_106
            ·
              have jc_15 := il_eq c_15
              refine lv_iconst (v := 0) hx hb dX3_readGrowth_76 (by decide) (hp_n (n := 77) rfl ?_)
              exact q_zret C Bh_14 hr hlk (by decide) ⟨Bh_14.2.2, (Or.inl rfl)⟩ dX3_readGrowth_77
        ·
          have jc_10 := il_eq c_10
          refine lv_iconst (v := 0) hx hb dX3_readGrowth_52 (by decide) (hp_n (n := 53) rfl ?_)
          exact q_zret C Bh_9 hr hlk (by decide) ⟨Bh_9.2.2, (Or.inl rfl)⟩ dX3_readGrowth_53
    ·
      have jc_5 := il_eq c_5
      refine lv_iconst (v := 0) hx hb dX3_readGrowth_26 (by decide) (hp_n (n := 27) rfl ?_)
      exact q_zret C Bh_4 hr hlk (by decide) ⟨Bh_4.2.2, (Or.inl rfl)⟩ dX3_readGrowth_27
  ·
    have jc_2 := il_eq c_2
    refine lv_iconst (v := 0) hx hb dX3_readGrowth_10 (by decide) (hp_n (n := 11) rfl ?_)
    exact q_zret C Bh_1 hr hlk (by decide) ⟨Bh_1.2.2, (Or.inl rfl)⟩ dX3_readGrowth_11
abbrev w_X3_readProofs : cw_W := ([203, 204, 205, 209, 301, 352, 353, 354, 355, 356, 453, 454], [], [20, 21, 22, 23], [])
set_option maxRecDepth 100000 in
set_option maxHeartbeats 4000000 in
theorem t_X3_readProofs (Γ : hp_G) (l : Launch) (α : hp_T) (g : GC α) (a0 : Nat) (k0 : hp_K α a0 = 4) (a1 : Int32) (a2 : Nat) (k2 : hp_K α a2 = 6) : Met l yX3_readProofs (hp_ws yX3_readProofs cX3_readProofs 5 (some .boolean)) (hp_rm 8 0 0) (hp_Pc Γ α [.ref a0, .int a1, .ref a2]) (hp_Qi Γ (fun r β => cw w_X3_readProofs α β ∧ (r = 0 ∨ r = 1))) 0 0 (hp_A Γ) := by
  refine hp_start (by decide) ?_
  intro p e s m below meth c C hr hlk B0 hnm
  have C : hp_C Γ p m c cX3_readProofs 5 s ([.ref a0, .int a1, .ref a2] : List Value).toArray RX3 := C
  have hx := C.1.1
  have hb := C.1.2.1
  have hown := C.1.2.2.2.1
  have hts := C.1.2.2.2.2
  have B : hp_B Γ (cw w_X3_readProofs) s α α s.heap [] := ⟨B0.1, B0.2.1, cw_rf g⟩
  have lit0 : (0 : Int32).toInt = 0 := by decide
  have lit1 : (1 : Int32).toInt = 1 := by decide
  have lit20 : (20 : Int32).toInt = 20 := by decide
  have lit900 : (900 : Int32).toInt = 900 := by decide
  have hl := lv_entry ([.ref a0, .int a1, .ref a2]) (n := 5) (Nat.le_of_ble_eq_true rfl)
  show W p l e (hp_rm 8 0 0) s m ([.ref a0, .int a1, .ref a2] : List Value).toArray below meth c s.heap [] 0 0 (MQ below (hp_Qi Γ (fun r β => cw w_X3_readProofs α β ∧ (r = 0 ∨ r = 1))) ([.ref a0, .int a1, .ref a2] : List Value).toArray s 0 0 (hp_A Γ)) (entryFrame m ([.ref a0, .int a1, .ref a2] : List Value).toArray 5)
  rw [lg_entry_eq]
  generalize (lg_sl ([.ref a0, .int a1, .ref a2]) ++ List.replicate (5 - (lg_sl ([.ref a0, .int a1, .ref a2])).length) Slot.unset).toArray = ls at hl ⊢
  have hl : lv_has ls 5 [(0, .ref a0), (1, .int a1), (2, .ref a2)] := hl
  refine lv_aload_n hx hb dX3_readProofs_0 rfl (lv_at hl 0 rfl) (hp_n (n := 1) rfl ?_)
  refine lv_iload_n hx hb dX3_readProofs_1 rfl (lv_at hl 1 rfl) (hp_n (n := 2) rfl ?_)
  refine q_puti (κ := 4) (k := 3) (φ := 203) (pc' := 5) C B (cw_k B.2.2 k0) fl_X3_33 rfl rfl rfl rfl rfl rfl (cw_sI B.2.2 (by decide) (fun h => absurd h (by decide))) dX3_readProofs_2 rfl (fun αh_1 Hh_1 Lh_1 eh_1 Bh_1 => ?_)
  refine lv_aload_n hx hb dX3_readProofs_5 rfl (lv_at hl 2 rfl) (hp_n (n := 6) rfl ?_)
  refine lv_iconst (v := 0) hx hb dX3_readProofs_6 (by decide) (hp_n (n := 7) rfl ?_)
  refine q_cv (pc' := 10) Bh_1 (hp_runV (As := [.int 0]) (rest := []) C Bh_1 (t_X5_shorten Γ l αh_1 Bh_1.2.2.1 a2 (cw_k Bh_1.2.2 k2) 0) lb_X5_shorten lv_X5_shorten lk_X3_120 (cw_k Bh_1.2.2 k2) rfl (by decide) rfl hl.1 rfl (Nat.le_of_ble_eq_true rfl) dX3_readProofs_7 ⟨Nat.le_refl _, Nat.le_refl _⟩) (fun _ h => cw_tr Bh_1.2.2 h (by decide)) rfl (fun αh_2 Hh_2 Lh_2 ph_2 Bh_2 => ?_)
  refine lv_iconst (v := 0) hx hb dX3_readProofs_10 (by decide) (hp_n (n := 11) rfl ?_)
  have J12 : ∀ (nq : Nat) (αh_3 : hp_T) (Hh_3 : Heap) (Lh_3 : List Loc) (Bh_3 : hp_B Γ (cw w_X3_readProofs) s α αh_3 Hh_3 Lh_3) (v3_h_3 : Int32) (ih_3_0 : 0 ≤ v3_h_3.toInt) (ls : Array Slot) (hl : lv_has ls 5 [(0, .ref a0), (2, .ref a2), (3, .int v3_h_3)]) (hmu12 : (2147483647 - v3_h_3.toInt).toNat = nq), W p l e (hp_rm 8 0 0) s m ([.ref a0, .int a1, .ref a2] : List Value).toArray below meth c Hh_3 Lh_3 0 0 (MQ below (hp_Qi Γ (fun r β => cw w_X3_readProofs α β ∧ (r = 0 ∨ r = 1))) ([.ref a0, .int a1, .ref a2] : List Value).toArray s 0 0 (hp_A Γ)) (F0 m 12 ls []) := by
    intro nq
    induction nq using Nat.strongRecOn with
    | ind nq ih12 =>
    intro αh_3 Hh_3 Lh_3 Bh_3 v3_h_3 ih_3_0 ls hl hmu12
    have inv12_0 := ih_3_0
    refine lv_iload_n hx hb dX3_readProofs_12 rfl (lv_at hl 2 rfl) (hp_n (n := 13) rfl ?_)
    refine lv_sipush (v := 900) hx hb dX3_readProofs_13 (by decide) (hp_n (n := 16) rfl ?_)
    refine lv_icmp_ge (tgt := 111) hx hb dX3_readProofs_16 (by decide) (fun c_4 => ?_) (fun c_4 => hp_n (n := 19) rfl ?_)
    ·
      have jc_4 := il_le c_4
      refine lv_iconst (v := 1) hx hb dX3_readProofs_111 (by decide) (hp_n (n := 112) rfl ?_)
      exact q_zret C Bh_3 hr hlk (by decide) ⟨Bh_3.2.2, (Or.inr rfl)⟩ dX3_readProofs_112
    ·
      have jc_4 := il_nle c_4
      refine lv_aload_n hx hb dX3_readProofs_19 rfl (lv_at hl 0 rfl) (hp_n (n := 20) rfl ?_)
      refine q_ci (pc' := 23) Bh_3 (hp_runV (As := []) (rest := []) C Bh_3 (t_X3_isAtEnd Γ l αh_3 Bh_3.2.2.1 a0 (cw_k Bh_3.2.2 k0)) lb_X3_isAtEnd lv_X3_isAtEnd lk_X3_124 (cw_k Bh_3.2.2 k0) rfl (by decide) rfl hl.1 rfl (Nat.le_of_ble_eq_true rfl) dX3_readProofs_20 ⟨Nat.le_refl _, Nat.le_refl _⟩) (fun _ _ h => by rw [h.1]; exact Bh_3.2.2) rfl (fun rh_5 αh_5 Hh_5 Lh_5 ph_5 Bh_5 => ?_)
      rw [ph_5.1] at Bh_5
      have zh_5 := ph_5.2
      refine lv_if_ne (tgt := 111) hx hb dX3_readProofs_23 (by decide) (fun c_6 => ?_) (fun c_6 => hp_n (n := 26) rfl ?_)
      ·
        have jc_6 := il_ne c_6
        refine lv_iconst (v := 1) hx hb dX3_readProofs_111 (by decide) (hp_n (n := 112) rfl ?_)
        exact q_zret C Bh_5 hr hlk (by decide) ⟨Bh_5.2.2, (Or.inr rfl)⟩ dX3_readProofs_112
      ·
        have jc_6 := il_eq c_6
        refine lv_aload_n hx hb dX3_readProofs_26 rfl (lv_at hl 0 rfl) (hp_n (n := 27) rfl ?_)
        refine q_getr (κ := 4) (k := 0) (φ := 200) (pc' := 30) C Bh_5 (cw_k Bh_5.2.2 k0) fl_X3_12 rfl rfl rfl (cw_r Bh_5.2.2 k0 rfl rfl (by decide) (by decide)) dX3_readProofs_27 rfl (fun b_7 eb_7 kb_7 => ?_)
        refine va_ldcS hx hb hown (sr_X3_127 C.2) dX3_readProofs_30 (hp_n (n := 32) rfl ?_)
        refine q_ci (pc' := 35) Bh_5 (hp_runV (As := [.ref (Γ.2.2.2.2.1 14)]) (rest := []) C Bh_5 (t_X6_spells Γ l αh_3 Bh_5.2.2.1 b_7 (cw_k Bh_5.2.2 kb_7) 14 (by decide)) lb_X6_spells lv_X6_spells lk_X3_71 (cw_k Bh_5.2.2 kb_7) rfl (by decide) rfl hl.1 rfl (Nat.le_of_ble_eq_true rfl) dX3_readProofs_32 ⟨Nat.le_refl _, Nat.le_refl _⟩) (fun _ _ h => by rw [h.1]; exact Bh_5.2.2) rfl (fun rh_8 αh_8 Hh_8 Lh_8 ph_8 Bh_8 => ?_)
        rw [ph_8.1] at Bh_8
        have zh_8 := ph_8.2
        refine lv_istore (lv' := [(4, .int rh_8), (0, .ref a0), (2, .ref a2), (3, .int v3_h_3)]) hx hb dX3_readProofs_35 hl (by decide) rfl (fun ls hl => hp_n (n := 37) rfl ?_)
        refine lv_iload hx hb dX3_readProofs_37 (lv_at hl 0 rfl) (hp_n (n := 39) rfl ?_)
        have J59 : ∀ (Hh_9 : Heap) (Lh_9 : List Loc) (Bh_9 : hp_B Γ (cw w_X3_readProofs) s α αh_3 Hh_9 Lh_9) (ls : Array Slot) (hl : lv_has ls 5 [(0, .ref a0), (2, .ref a2), (3, .int v3_h_3), (4, .int rh_8)]), W p l e (hp_rm 8 0 0) s m ([.ref a0, .int a1, .ref a2] : List Value).toArray below meth c Hh_9 Lh_9 0 0 (MQ below (hp_Qi Γ (fun r β => cw w_X3_readProofs α β ∧ (r = 0 ∨ r = 1))) ([.ref a0, .int a1, .ref a2] : List Value).toArray s 0 0 (hp_A Γ)) (F0 m 59 ls []) := by
          intro Hh_9 Lh_9 Bh_9 ls hl
          refine lv_aload_n hx hb dX3_readProofs_59 rfl (lv_at hl 0 rfl) (hp_n (n := 60) rfl ?_)
          refine lv_aload_n hx hb dX3_readProofs_60 rfl (lv_at hl 1 rfl) (hp_n (n := 61) rfl ?_)
          refine q_geti (κ := 6) (k := 1) (φ := 301) (pc' := 64) C Bh_9 (cw_k Bh_9.2.2 k2) fl_X3_131 rfl rfl rfl dX3_readProofs_61 rfl (fun x_10 ex_10 => ?_)
          refine lv_bipush (v := 20) hx hb dX3_readProofs_64 (by decide) (hp_n (n := 66) rfl ?_)
          refine q_ci (pc' := 69) Bh_9 (hp_runV (As := [.int x_10, .int 20]) (rest := []) C Bh_9 (t_X3_hasRoom Γ l αh_3 Bh_9.2.2.1 a0 (cw_k Bh_9.2.2 k0) x_10 20) lb_X3_hasRoom lv_X3_hasRoom lk_X3_99 (cw_k Bh_9.2.2 k0) rfl (by decide) rfl hl.1 rfl (Nat.le_of_ble_eq_true rfl) dX3_readProofs_66 ⟨Nat.le_refl _, Nat.le_refl _⟩) (fun _ _ h => cw_tr Bh_9.2.2 h.1 (by decide)) rfl (fun rh_11 αh_11 Hh_11 Lh_11 ph_11 Bh_11 => ?_)
          have zh_11 := ph_11.2
          refine lv_if_eq (tgt := 96) hx hb dX3_readProofs_69 (by decide) (fun c_12 => ?_) (fun c_12 => hp_n (n := 72) rfl ?_)
          ·
            have jc_12 := il_eq c_12
            refine lv_iconst (v := 0) hx hb dX3_readProofs_96 (by decide) (hp_n (n := 97) rfl ?_)
            exact q_zret C Bh_11 hr hlk (by decide) ⟨Bh_11.2.2, (Or.inl rfl)⟩ dX3_readProofs_97
          ·
            have jc_12 := il_ne c_12
            refine lv_iload hx hb dX3_readProofs_72 (lv_at hl 3 rfl) (hp_n (n := 74) rfl ?_)
            have J98 : ∀ (αh_13 : hp_T) (Hh_13 : Heap) (Lh_13 : List Loc) (Bh_13 : hp_B Γ (cw w_X3_readProofs) s α αh_13 Hh_13 Lh_13) (ls : Array Slot) (hl : lv_has ls 5 [(0, .ref a0), (2, .ref a2), (3, .int v3_h_3)]), W p l e (hp_rm 8 0 0) s m ([.ref a0, .int a1, .ref a2] : List Value).toArray below meth c Hh_13 Lh_13 0 0 (MQ below (hp_Qi Γ (fun r β => cw w_X3_readProofs α β ∧ (r = 0 ∨ r = 1))) ([.ref a0, .int a1, .ref a2] : List Value).toArray s 0 0 (hp_A Γ)) (F0 m 98 ls []) := by
              intro αh_13 Hh_13 Lh_13 Bh_13 ls hl
              refine lv_aload_n hx hb dX3_readProofs_98 rfl (lv_at hl 0 rfl) (hp_n (n := 99) rfl ?_)
              refine q_getr (κ := 4) (k := 0) (φ := 200) (pc' := 102) C Bh_13 (cw_k Bh_13.2.2 k0) fl_X3_12 rfl rfl rfl (cw_r Bh_13.2.2 k0 rfl rfl (by decide) (by decide)) dX3_readProofs_99 rfl (fun b_14 eb_14 kb_14 => ?_)
              refine q_cv (pc' := 105) Bh_13 (hp_runV (As := []) (rest := []) C Bh_13 (t_X6_advance Γ l αh_13 Bh_13.2.2.1 b_14 (cw_k Bh_13.2.2 kb_14)) lb_X6_advance lv_X6_advance lk_X3_63 (cw_k Bh_13.2.2 kb_14) rfl (by decide) rfl hl.1 rfl (Nat.le_of_ble_eq_true rfl) dX3_readProofs_102 ⟨Nat.le_refl _, Nat.le_refl _⟩) (fun _ h => cw_tr Bh_13.2.2 h (by decide)) rfl (fun αh_15 Hh_15 Lh_15 ph_15 Bh_15 => ?_)
              obtain ⟨x_16, ex_16⟩ : ∃ y : Int32, y = v3_h_3 + 1 := ⟨_, rfl⟩
              have qx_16 : x_16.toInt = v3_h_3.toInt + 1 := by have qa := ib_lo v3_h_3; rw [ex_16]; exact ii_add (by omega) (by omega)
              refine lv_iinc (v := x_16) (lv' := [(3, .int x_16), (0, .ref a0), (2, .ref a2)]) hx hb dX3_readProofs_105 hl (k := 2) rfl (by rw [ex_16]; rfl) (by decide) rfl (fun ls hl => hp_n (n := 108) rfl ?_)
              refine lv_goto (tgt := 12) hx hb dX3_readProofs_108 (by decide) ?_
              exact ih12 _ (by have qa := ib_hi v3_h_3; have qb := ib_lo v3_h_3; have qc : (v3_h_3 + 1).toInt = v3_h_3.toInt + (1 : Int32).toInt := ii_add (by omega) (by omega); rw [ex_16]; omega) αh_15 Hh_15 Lh_15 Bh_15 x_16 (by omega) ls (lv_sub hl [1, 2, 0] rfl) rfl
            refine lv_if_eq (tgt := 88) hx hb dX3_readProofs_74 (by decide) (fun c_17 => ?_) (fun c_17 => hp_n (n := 77) rfl ?_)
            ·
              have jc_17 := il_eq c_17
              refine lv_aload_n hx hb dX3_readProofs_88 rfl (lv_at hl 0 rfl) (hp_n (n := 89) rfl ?_)
              refine lv_aload_n hx hb dX3_readProofs_89 rfl (lv_at hl 1 rfl) (hp_n (n := 90) rfl ?_)
              refine q_ci (pc' := 93) Bh_11 (hp_runV (As := [.ref a2]) (rest := []) C Bh_11 (t_X3_readGrowth Γ l αh_11 Bh_11.2.2.1 a0 (cw_k Bh_11.2.2 k0) a2 (cw_k Bh_11.2.2 k2)) lb_X3_readGrowth lv_X3_readGrowth lk_X3_138 (cw_k Bh_11.2.2 k0) rfl (by decide) rfl hl.1 rfl (Nat.le_of_ble_eq_true rfl) dX3_readProofs_90 ⟨Nat.le_refl _, Nat.le_refl _⟩) (fun _ _ h => cw_tr Bh_11.2.2 h.1 (by decide)) rfl (fun rh_18 αh_18 Hh_18 Lh_18 ph_18 Bh_18 => ?_)
              have zh_18 := ph_18.2
              refine lv_if_ne (tgt := 98) hx hb dX3_readProofs_93 (by decide) (fun c_19 => ?_) (fun c_19 => hp_n (n := 96) rfl ?_)
              ·
                have jc_19 := il_ne c_19
                exact J98 αh_18 Hh_18 Lh_18 Bh_18 ls (lv_sub hl [0, 1, 2] rfl)
              ·
                have jc_19 := il_eq c_19
                refine lv_iconst (v := 0) hx hb dX3_readProofs_96 (by decide) (hp_n (n := 97) rfl ?_)
                exact q_zret C Bh_18 hr hlk (by decide) ⟨Bh_18.2.2, (Or.inl rfl)⟩ dX3_readProofs_97
            ·
              have jc_17 := il_ne c_17
              refine lv_aload_n hx hb dX3_readProofs_77 rfl (lv_at hl 0 rfl) (hp_n (n := 78) rfl ?_)
              refine lv_aload_n hx hb dX3_readProofs_78 rfl (lv_at hl 1 rfl) (hp_n (n := 79) rfl ?_)
              refine q_ci (pc' := 82) Bh_11 (hp_runV (As := [.ref a2]) (rest := []) C Bh_11 (t_X3_readInclusion Γ l αh_11 Bh_11.2.2.1 a0 (cw_k Bh_11.2.2 k0) a2 (cw_k Bh_11.2.2 k2)) lb_X3_readInclusion lv_X3_readInclusion lk_X3_134 (cw_k Bh_11.2.2 k0) rfl (by decide) rfl hl.1 rfl (Nat.le_of_ble_eq_true rfl) dX3_readProofs_79 ⟨Nat.le_refl _, Nat.le_refl _⟩) (fun _ _ h => cw_tr Bh_11.2.2 h.1 (by decide)) rfl (fun rh_20 αh_20 Hh_20 Lh_20 ph_20 Bh_20 => ?_)
              have zh_20 := ph_20.2
              refine lv_if_eq (tgt := 96) hx hb dX3_readProofs_82 (by decide) (fun c_21 => ?_) (fun c_21 => hp_n (n := 85) rfl ?_)
              ·
                have jc_21 := il_eq c_21
                refine lv_iconst (v := 0) hx hb dX3_readProofs_96 (by decide) (hp_n (n := 97) rfl ?_)
                exact q_zret C Bh_20 hr hlk (by decide) ⟨Bh_20.2.2, (Or.inl rfl)⟩ dX3_readProofs_97
              ·
                have jc_21 := il_ne c_21
                refine lv_goto (tgt := 98) hx hb dX3_readProofs_85 (by decide) ?_
                exact J98 αh_20 Hh_20 Lh_20 Bh_20 ls (lv_sub hl [0, 1, 2] rfl)
        refine lv_if_ne (tgt := 59) hx hb dX3_readProofs_39 (by decide) (fun c_22 => ?_) (fun c_22 => hp_n (n := 42) rfl ?_)
        ·
          have jc_22 := il_ne c_22
          exact J59 Hh_8 Lh_8 Bh_8 ls (lv_sub hl [1, 2, 3, 0] rfl)
        ·
          have jc_22 := il_eq c_22
          refine lv_aload_n hx hb dX3_readProofs_42 rfl (lv_at hl 1 rfl) (hp_n (n := 43) rfl ?_)
          refine q_gets (κ := 4) (k := 0) (φ := 200) (pc' := 46) C Bh_8 (cw_k Bh_8.2.2 k0) fl_X3_12 rfl rfl rfl eb_7 dX3_readProofs_43 rfl ?_
          refine va_ldcS hx hb hown (sr_X3_129 C.2) dX3_readProofs_46 (hp_n (n := 48) rfl ?_)
          refine q_ci (pc' := 51) Bh_8 (hp_runV (As := [.ref (Γ.2.2.2.2.1 11)]) (rest := []) C Bh_8 (t_X6_spells Γ l αh_3 Bh_8.2.2.1 b_7 (cw_k Bh_8.2.2 kb_7) 11 (by decide)) lb_X6_spells lv_X6_spells lk_X3_71 (cw_k Bh_8.2.2 kb_7) rfl (by decide) rfl hl.1 rfl (Nat.le_of_ble_eq_true rfl) dX3_readProofs_48 ⟨Nat.le_refl _, Nat.le_refl _⟩) (fun _ _ h => by rw [h.1]; exact Bh_8.2.2) rfl (fun rh_23 αh_23 Hh_23 Lh_23 ph_23 Bh_23 => ?_)
          rw [ph_23.1] at Bh_23
          have zh_23 := ph_23.2
          refine lv_if_ne (tgt := 59) hx hb dX3_readProofs_51 (by decide) (fun c_24 => ?_) (fun c_24 => hp_n (n := 54) rfl ?_)
          ·
            have jc_24 := il_ne c_24
            exact J59 Hh_23 Lh_23 Bh_23 ls (lv_sub hl [1, 2, 3, 0] rfl)
          ·
            have jc_24 := il_eq c_24
            refine lv_aload_n hx hb dX3_readProofs_54 rfl (lv_at hl 1 rfl) (hp_n (n := 55) rfl ?_)
            refine q_ci (pc' := 58) Bh_23 (hp_runV (As := []) (rest := []) C Bh_23 (t_X3_stray Γ l αh_3 Bh_23.2.2.1 a0 (cw_k Bh_23.2.2 k0)) lb_X3_stray lv_X3_stray lk_X3_117 (cw_k Bh_23.2.2 k0) rfl (by decide) rfl hl.1 rfl (Nat.le_of_ble_eq_true rfl) dX3_readProofs_55 ⟨Nat.le_refl _, Nat.le_refl _⟩) (fun _ _ h => cw_tr Bh_23.2.2 h.1 (by decide)) rfl (fun rh_25 αh_25 Hh_25 Lh_25 ph_25 Bh_25 => ?_)
            have zh_25 := ph_25.2
            exact q_zret C Bh_25 hr hlk (nz_z zh_25) ⟨Bh_25.2.2, zh_25⟩ dX3_readProofs_58
  refine lv_istore_n (lv' := [(3, .int 0), (0, .ref a0), (1, .int a1), (2, .ref a2)]) hx hb dX3_readProofs_11 rfl hl (by decide) rfl (fun ls hl => hp_n (n := 12) rfl ?_)
  exact J12 _ αh_2 Hh_2 Lh_2 Bh_2 0 (by omega) ls (lv_sub hl [1, 3, 0] rfl) rfl
