abbrev w_X11_status : cw_W := ([], [], [], [])
set_option maxRecDepth 100000 in
set_option maxHeartbeats 4000000 in
theorem t_X11_status (Γ : hp_G) (l : Launch) (α : hp_T) (g : GC α) (a0 : Nat) (k0 : hp_K α a0 = 12) : Met l yX11_status (hp_ws yX11_status cX11_status 1 (some .int)) (hp_rm 0 0 0) (hp_Pc Γ α [.ref a0]) (hp_Qi Γ (fun r β => β = α)) 0 0 (hp_A Γ) := by
  refine hp_start (by decide) ?_
  intro p e s m below meth c C hr hlk B0 hnm
  have C : hp_C Γ p m c cX11_status 1 s ([.ref a0] : List Value).toArray RX11 := C
  have hx := C.1.1
  have hb := C.1.2.1
  have hown := C.1.2.2.2.1
  have hts := C.1.2.2.2.2
  have B : hp_B Γ (cw w_X11_status) s α α s.heap [] := ⟨B0.1, B0.2.1, cw_rf g⟩
  have hl := lv_entry ([.ref a0]) (n := 1) (Nat.le_of_ble_eq_true rfl)
  show W p l e (hp_rm 0 0 0) s m ([.ref a0] : List Value).toArray below meth c s.heap [] 0 0 (MQ below (hp_Qi Γ (fun r β => β = α)) ([.ref a0] : List Value).toArray s 0 0 (hp_A Γ)) (entryFrame m ([.ref a0] : List Value).toArray 1)
  rw [lg_entry_eq]
  generalize (lg_sl ([.ref a0]) ++ List.replicate (1 - (lg_sl ([.ref a0])).length) Slot.unset).toArray = ls at hl ⊢
  have hl : lv_has ls 1 [(0, .ref a0)] := hl
  refine lv_aload_n hx hb dX11_status_0 rfl (lv_at hl 0 rfl) (hp_n (n := 1) rfl ?_)
  refine q_geti (κ := 12) (k := 0) (φ := 600) (pc' := 4) C B (cw_k B.2.2 k0) fl_X11_9 rfl rfl rfl dX11_status_1 rfl (fun x_1 ex_1 => ?_)
  exact q_iret C B hr hlk rfl dX11_status_4
abbrev w_X11_answer : cw_W := ([600], [], [], [])
set_option maxRecDepth 100000 in
set_option maxHeartbeats 4000000 in
theorem t_X11_answer (Γ : hp_G) (l : Launch) (α : hp_T) (g : GC α) (a0 : Nat) (k0 : hp_K α a0 = 12) (a1 : Int32) : Met l yX11_answer (hp_ws yX11_answer cX11_answer 2 (some .int)) (hp_rm 0 0 0) (hp_Pc Γ α [.ref a0, .int a1]) (hp_Qi Γ (fun r β => cw w_X11_answer α β)) 0 0 (hp_A Γ) := by
  refine hp_start (by decide) ?_
  intro p e s m below meth c C hr hlk B0 hnm
  have C : hp_C Γ p m c cX11_answer 2 s ([.ref a0, .int a1] : List Value).toArray RX11 := C
  have hx := C.1.1
  have hb := C.1.2.1
  have hown := C.1.2.2.2.1
  have hts := C.1.2.2.2.2
  have B : hp_B Γ (cw w_X11_answer) s α α s.heap [] := ⟨B0.1, B0.2.1, cw_rf g⟩
  have lit0 : (0 : Int32).toInt = 0 := by decide
  have hl := lv_entry ([.ref a0, .int a1]) (n := 2) (Nat.le_of_ble_eq_true rfl)
  show W p l e (hp_rm 0 0 0) s m ([.ref a0, .int a1] : List Value).toArray below meth c s.heap [] 0 0 (MQ below (hp_Qi Γ (fun r β => cw w_X11_answer α β)) ([.ref a0, .int a1] : List Value).toArray s 0 0 (hp_A Γ)) (entryFrame m ([.ref a0, .int a1] : List Value).toArray 2)
  rw [lg_entry_eq]
  generalize (lg_sl ([.ref a0, .int a1]) ++ List.replicate (2 - (lg_sl ([.ref a0, .int a1])).length) Slot.unset).toArray = ls at hl ⊢
  have hl : lv_has ls 2 [(0, .ref a0), (1, .int a1)] := hl
  refine lv_aload_n hx hb dX11_answer_0 rfl (lv_at hl 0 rfl) (hp_n (n := 1) rfl ?_)
  refine lv_iconst (v := 0) hx hb dX11_answer_1 (by decide) (hp_n (n := 2) rfl ?_)
  refine q_puti (κ := 12) (k := 0) (φ := 600) (pc' := 5) C B (cw_k B.2.2 k0) fl_X11_9 rfl rfl rfl rfl rfl rfl (cw_sI B.2.2 (by decide) (fun h => absurd h (by decide))) dX11_answer_2 rfl (fun αh_1 Hh_1 Lh_1 eh_1 Bh_1 => ?_)
  refine lv_iload_n hx hb dX11_answer_5 rfl (lv_at hl 1 rfl) (hp_n (n := 6) rfl ?_)
  exact q_iret C Bh_1 hr hlk Bh_1.2.2 dX11_answer_6
abbrev w_X11_refuse : cw_W := ([600], [], [], [])
set_option maxRecDepth 100000 in
set_option maxHeartbeats 4000000 in
theorem t_X11_refuse (Γ : hp_G) (l : Launch) (α : hp_T) (g : GC α) (a0 : Nat) (k0 : hp_K α a0 = 12) (a1 : Int32) : Met l yX11_refuse (hp_ws yX11_refuse cX11_refuse 2 (some .int)) (hp_rm 0 0 0) (hp_Pc Γ α [.ref a0, .int a1]) (hp_Qi Γ (fun r β => cw w_X11_refuse α β)) 0 0 (hp_A Γ) := by
  refine hp_start (by decide) ?_
  intro p e s m below meth c C hr hlk B0 hnm
  have C : hp_C Γ p m c cX11_refuse 2 s ([.ref a0, .int a1] : List Value).toArray RX11 := C
  have hx := C.1.1
  have hb := C.1.2.1
  have hown := C.1.2.2.2.1
  have hts := C.1.2.2.2.2
  have B : hp_B Γ (cw w_X11_refuse) s α α s.heap [] := ⟨B0.1, B0.2.1, cw_rf g⟩
  have litm1 : ((-1) : Int32).toInt = (-1) := by decide
  have hl := lv_entry ([.ref a0, .int a1]) (n := 2) (Nat.le_of_ble_eq_true rfl)
  show W p l e (hp_rm 0 0 0) s m ([.ref a0, .int a1] : List Value).toArray below meth c s.heap [] 0 0 (MQ below (hp_Qi Γ (fun r β => cw w_X11_refuse α β)) ([.ref a0, .int a1] : List Value).toArray s 0 0 (hp_A Γ)) (entryFrame m ([.ref a0, .int a1] : List Value).toArray 2)
  rw [lg_entry_eq]
  generalize (lg_sl ([.ref a0, .int a1]) ++ List.replicate (2 - (lg_sl ([.ref a0, .int a1])).length) Slot.unset).toArray = ls at hl ⊢
  have hl : lv_has ls 2 [(0, .ref a0), (1, .int a1)] := hl
  refine lv_aload_n hx hb dX11_refuse_0 rfl (lv_at hl 0 rfl) (hp_n (n := 1) rfl ?_)
  refine lv_iload_n hx hb dX11_refuse_1 rfl (lv_at hl 1 rfl) (hp_n (n := 2) rfl ?_)
  refine q_puti (κ := 12) (k := 0) (φ := 600) (pc' := 5) C B (cw_k B.2.2 k0) fl_X11_9 rfl rfl rfl rfl rfl rfl (cw_sI B.2.2 (by decide) (fun h => absurd h (by decide))) dX11_refuse_2 rfl (fun αh_1 Hh_1 Lh_1 eh_1 Bh_1 => ?_)
  refine lv_iconst (v := (-1)) hx hb dX11_refuse_5 (by decide) (hp_n (n := 6) rfl ?_)
  exact q_iret C Bh_1 hr hlk Bh_1.2.2 dX11_refuse_6
abbrev w_X11_putOnTape : cw_W := ([605], [], [24], [])
abbrev w_X11_feed : cw_W := ([605], [], [24], [])
abbrev w_X11_isMark : cw_W := ([], [], [], [])
set_option maxRecDepth 100000 in
set_option maxHeartbeats 4000000 in
theorem t_X11_isMark (Γ : hp_G) (l : Launch) (α : hp_T) (g : GC α) (a0 : Nat) (k0 : hp_K α a0 = 12) (a1 : Int32) : Met l yX11_isMark (hp_ws yX11_isMark cX11_isMark 2 (some .boolean)) (hp_rm 0 0 0) (hp_Pc Γ α [.ref a0, .int a1]) (hp_Qi Γ (fun r β => β = α ∧ (r = 0 ∨ r = 1))) 0 0 (hp_A Γ) := by
  refine hp_start (by decide) ?_
  intro p e s m below meth c C hr hlk B0 hnm
  have C : hp_C Γ p m c cX11_isMark 2 s ([.ref a0, .int a1] : List Value).toArray RX11 := C
  have hx := C.1.1
  have hb := C.1.2.1
  have hown := C.1.2.2.2.1
  have hts := C.1.2.2.2.2
  have B : hp_B Γ (cw w_X11_isMark) s α α s.heap [] := ⟨B0.1, B0.2.1, cw_rf g⟩
  have lit0 : (0 : Int32).toInt = 0 := by decide
  have lit1 : (1 : Int32).toInt = 1 := by decide
  have hl := lv_entry ([.ref a0, .int a1]) (n := 2) (Nat.le_of_ble_eq_true rfl)
  show W p l e (hp_rm 0 0 0) s m ([.ref a0, .int a1] : List Value).toArray below meth c s.heap [] 0 0 (MQ below (hp_Qi Γ (fun r β => β = α ∧ (r = 0 ∨ r = 1))) ([.ref a0, .int a1] : List Value).toArray s 0 0 (hp_A Γ)) (entryFrame m ([.ref a0, .int a1] : List Value).toArray 2)
  rw [lg_entry_eq]
  generalize (lg_sl ([.ref a0, .int a1]) ++ List.replicate (2 - (lg_sl ([.ref a0, .int a1])).length) Slot.unset).toArray = ls at hl ⊢
  have hl : lv_has ls 2 [(0, .ref a0), (1, .int a1)] := hl
  refine lv_iload_n hx hb dX11_isMark_0 rfl (lv_at hl 1 rfl) (hp_n (n := 1) rfl ?_)
  refine lv_if_lt (tgt := 19) hx hb dX11_isMark_1 (by decide) (fun c_1 => ?_) (fun c_1 => hp_n (n := 4) rfl ?_)
  ·
    have jc_1 := il_lt c_1
    refine lv_iconst (v := 0) hx hb dX11_isMark_19 (by decide) (hp_n (n := 20) rfl ?_)
    exact q_zret C B hr hlk (by decide) ⟨rfl, (Or.inl rfl)⟩ dX11_isMark_20
  ·
    have jc_1 := il_nlt c_1
    refine lv_iload_n hx hb dX11_isMark_4 rfl (lv_at hl 1 rfl) (hp_n (n := 5) rfl ?_)
    refine lv_aload_n hx hb dX11_isMark_5 rfl (lv_at hl 0 rfl) (hp_n (n := 6) rfl ?_)
    refine q_getr (κ := 12) (k := 1) (φ := 601) (pc' := 9) C B (cw_k B.2.2 k0) fl_X11_16 rfl rfl rfl (cw_r B.2.2 k0 rfl rfl (by decide) (by decide)) dX11_isMark_6 rfl (fun b_2 eb_2 kb_2 => ?_)
    refine q_geti (κ := 11) (k := 0) (φ := 550) (pc' := 12) C B (cw_k B.2.2 kb_2) fl_X11_122 rfl rfl rfl dX11_isMark_9 rfl (fun x_3 ex_3 => ?_)
    refine lv_icmp_ge (tgt := 19) hx hb dX11_isMark_12 (by decide) (fun c_4 => ?_) (fun c_4 => hp_n (n := 15) rfl ?_)
    ·
      have jc_4 := il_le c_4
      refine lv_iconst (v := 0) hx hb dX11_isMark_19 (by decide) (hp_n (n := 20) rfl ?_)
      exact q_zret C B hr hlk (by decide) ⟨rfl, (Or.inl rfl)⟩ dX11_isMark_20
    ·
      have jc_4 := il_nle c_4
      refine lv_iconst (v := 1) hx hb dX11_isMark_15 (by decide) (hp_n (n := 16) rfl ?_)
      refine lv_goto (tgt := 20) hx hb dX11_isMark_16 (by decide) ?_
      exact q_zret C B hr hlk (by decide) ⟨rfl, (Or.inr rfl)⟩ dX11_isMark_20
abbrev w_X11_isThing : cw_W := ([], [], [], [])
set_option maxRecDepth 100000 in
set_option maxHeartbeats 4000000 in
theorem t_X11_isThing (Γ : hp_G) (l : Launch) (α : hp_T) (g : GC α) (a0 : Int32) (a1 : Int32) : Met l yX11_isThing (hp_ws yX11_isThing cX11_isThing 2 (some .boolean)) (hp_rm 0 0 0) (hp_Pc Γ α [.int a0, .int a1]) (hp_Qi Γ (fun r β => β = α ∧ (r = 0 ∨ r = 1))) 0 0 (hp_A Γ) := by
  refine hp_start (by decide) ?_
  intro p e s m below meth c C hr hlk B0 hnm
  have C : hp_C Γ p m c cX11_isThing 2 s ([.int a0, .int a1] : List Value).toArray RX11 := C
  have hx := C.1.1
  have hb := C.1.2.1
  have hown := C.1.2.2.2.1
  have hts := C.1.2.2.2.2
  have B : hp_B Γ (cw w_X11_isThing) s α α s.heap [] := ⟨B0.1, B0.2.1, cw_rf g⟩
  have lit0 : (0 : Int32).toInt = 0 := by decide
  have lit1 : (1 : Int32).toInt = 1 := by decide
  have hl := lv_entry ([.int a0, .int a1]) (n := 2) (Nat.le_of_ble_eq_true rfl)
  show W p l e (hp_rm 0 0 0) s m ([.int a0, .int a1] : List Value).toArray below meth c s.heap [] 0 0 (MQ below (hp_Qi Γ (fun r β => β = α ∧ (r = 0 ∨ r = 1))) ([.int a0, .int a1] : List Value).toArray s 0 0 (hp_A Γ)) (entryFrame m ([.int a0, .int a1] : List Value).toArray 2)
  rw [lg_entry_eq]
  generalize (lg_sl ([.int a0, .int a1]) ++ List.replicate (2 - (lg_sl ([.int a0, .int a1])).length) Slot.unset).toArray = ls at hl ⊢
  have hl : lv_has ls 2 [(0, .int a0), (1, .int a1)] := hl
  refine lv_iload_n hx hb dX11_isThing_0 rfl (lv_at hl 0 rfl) (hp_n (n := 1) rfl ?_)
  refine lv_if_lt (tgt := 13) hx hb dX11_isThing_1 (by decide) (fun c_1 => ?_) (fun c_1 => hp_n (n := 4) rfl ?_)
  ·
    have jc_1 := il_lt c_1
    refine lv_iconst (v := 0) hx hb dX11_isThing_13 (by decide) (hp_n (n := 14) rfl ?_)
    exact q_zret C B hr hlk (by decide) ⟨rfl, (Or.inl rfl)⟩ dX11_isThing_14
  ·
    have jc_1 := il_nlt c_1
    refine lv_iload_n hx hb dX11_isThing_4 rfl (lv_at hl 0 rfl) (hp_n (n := 5) rfl ?_)
    refine lv_iload_n hx hb dX11_isThing_5 rfl (lv_at hl 1 rfl) (hp_n (n := 6) rfl ?_)
    refine lv_icmp_ge (tgt := 13) hx hb dX11_isThing_6 (by decide) (fun c_2 => ?_) (fun c_2 => hp_n (n := 9) rfl ?_)
    ·
      have jc_2 := il_le c_2
      refine lv_iconst (v := 0) hx hb dX11_isThing_13 (by decide) (hp_n (n := 14) rfl ?_)
      exact q_zret C B hr hlk (by decide) ⟨rfl, (Or.inl rfl)⟩ dX11_isThing_14
    ·
      have jc_2 := il_nle c_2
      refine lv_iconst (v := 1) hx hb dX11_isThing_9 (by decide) (hp_n (n := 10) rfl ?_)
      refine lv_goto (tgt := 14) hx hb dX11_isThing_10 (by decide) ?_
      exact q_zret C B hr hlk (by decide) ⟨rfl, (Or.inr rfl)⟩ dX11_isThing_14
abbrev w_X11_isSet : cw_W := ([], [], [], [])
set_option maxRecDepth 100000 in
set_option maxHeartbeats 4000000 in
theorem t_X11_isSet (Γ : hp_G) (l : Launch) (α : hp_T) (g : GC α) (a0 : Int32) : Met l yX11_isSet (hp_ws yX11_isSet cX11_isSet 1 (some .boolean)) (hp_rm 0 0 0) (hp_Pc Γ α [.int a0]) (hp_Qi Γ (fun r β => β = α ∧ (r = 0 ∨ r = 1))) 0 0 (hp_A Γ) := by
  refine hp_start (by decide) ?_
  intro p e s m below meth c C hr hlk B0 hnm
  have C : hp_C Γ p m c cX11_isSet 1 s ([.int a0] : List Value).toArray RX11 := C
  have hx := C.1.1
  have hb := C.1.2.1
  have hown := C.1.2.2.2.1
  have hts := C.1.2.2.2.2
  have B : hp_B Γ (cw w_X11_isSet) s α α s.heap [] := ⟨B0.1, B0.2.1, cw_rf g⟩
  have lit0 : (0 : Int32).toInt = 0 := by decide
  have lit1 : (1 : Int32).toInt = 1 := by decide
  have hl := lv_entry ([.int a0]) (n := 1) (Nat.le_of_ble_eq_true rfl)
  show W p l e (hp_rm 0 0 0) s m ([.int a0] : List Value).toArray below meth c s.heap [] 0 0 (MQ below (hp_Qi Γ (fun r β => β = α ∧ (r = 0 ∨ r = 1))) ([.int a0] : List Value).toArray s 0 0 (hp_A Γ)) (entryFrame m ([.int a0] : List Value).toArray 1)
  rw [lg_entry_eq]
  generalize (lg_sl ([.int a0]) ++ List.replicate (1 - (lg_sl ([.int a0])).length) Slot.unset).toArray = ls at hl ⊢
  have hl : lv_has ls 1 [(0, .int a0)] := hl
  refine lv_iload_n hx hb dX11_isSet_0 rfl (lv_at hl 0 rfl) (hp_n (n := 1) rfl ?_)
  refine lv_if_le (tgt := 8) hx hb dX11_isSet_1 (by decide) (fun c_1 => ?_) (fun c_1 => hp_n (n := 4) rfl ?_)
  ·
    have jc_1 := il_le c_1
    refine lv_iconst (v := 0) hx hb dX11_isSet_8 (by decide) (hp_n (n := 9) rfl ?_)
    exact q_zret C B hr hlk (by decide) ⟨rfl, (Or.inl rfl)⟩ dX11_isSet_9
  ·
    have jc_1 := il_nle c_1
    refine lv_iconst (v := 1) hx hb dX11_isSet_4 (by decide) (hp_n (n := 5) rfl ?_)
    refine lv_goto (tgt := 9) hx hb dX11_isSet_5 (by decide) ?_
    exact q_zret C B hr hlk (by decide) ⟨rfl, (Or.inr rfl)⟩ dX11_isSet_9
abbrev w_X11_lieBelow : cw_W := ([], [], [], [])
set_option maxRecDepth 100000 in
set_option maxHeartbeats 4000000 in
theorem t_X11_lieBelow (Γ : hp_G) (l : Launch) (α : hp_T) (g : GC α) (a0 : Int32) (a1 : Int32) : Met l yX11_lieBelow (hp_ws yX11_lieBelow cX11_lieBelow 2 (some .boolean)) (hp_rm 2 0 0) (hp_Pc Γ α [.int a0, .int a1]) (hp_Qi Γ (fun r β => β = α ∧ (r = 0 ∨ r = 1))) 0 0 (hp_A Γ) := by
  refine hp_start (by decide) ?_
  intro p e s m below meth c C hr hlk B0 hnm
  have C : hp_C Γ p m c cX11_lieBelow 2 s ([.int a0, .int a1] : List Value).toArray RX11 := C
  have hx := C.1.1
  have hb := C.1.2.1
  have hown := C.1.2.2.2.1
  have hts := C.1.2.2.2.2
  have B : hp_B Γ (cw w_X11_lieBelow) s α α s.heap [] := ⟨B0.1, B0.2.1, cw_rf g⟩
  have lit0 : (0 : Int32).toInt = 0 := by decide
  have lit1 : (1 : Int32).toInt = 1 := by decide
  have lit30 : (30 : Int32).toInt = 30 := by decide
  have hl := lv_entry ([.int a0, .int a1]) (n := 2) (Nat.le_of_ble_eq_true rfl)
  show W p l e (hp_rm 2 0 0) s m ([.int a0, .int a1] : List Value).toArray below meth c s.heap [] 0 0 (MQ below (hp_Qi Γ (fun r β => β = α ∧ (r = 0 ∨ r = 1))) ([.int a0, .int a1] : List Value).toArray s 0 0 (hp_A Γ)) (entryFrame m ([.int a0, .int a1] : List Value).toArray 2)
  rw [lg_entry_eq]
  generalize (lg_sl ([.int a0, .int a1]) ++ List.replicate (2 - (lg_sl ([.int a0, .int a1])).length) Slot.unset).toArray = ls at hl ⊢
  have hl : lv_has ls 2 [(0, .int a0), (1, .int a1)] := hl
  refine lv_iload_n hx hb dX11_lieBelow_0 rfl (lv_at hl 0 rfl) (hp_n (n := 1) rfl ?_)
  refine q_ci (pc' := 4) B (hp_runS (As := [.int a0]) (rest := []) C B (t_J6_highestOneBit_0f7a4 Γ l α B.2.2.1 a0) lb_J6_highestOneBit_0f7a4 ls_J6_highestOneBit_0f7a4 lk_X11_463 rfl (by decide) rfl hl.1 rfl (Nat.le_of_ble_eq_true rfl) dX11_lieBelow_1 ⟨Nat.le_refl _, Nat.le_refl _⟩) (fun _ _ h => by rw [h]; exact B.2.2) rfl (fun rh_1 αh_1 Hh_1 Lh_1 ph_1 Bh_1 => ?_)
  rw [ph_1] at Bh_1
  refine lv_iconst (v := 1) hx hb dX11_lieBelow_4 (by decide) (hp_n (n := 5) rfl ?_)
  refine lv_iconst (v := 0) hx hb dX11_lieBelow_5 (by decide) (hp_n (n := 6) rfl ?_)
  refine lv_iload_n hx hb dX11_lieBelow_6 rfl (lv_at hl 1 rfl) (hp_n (n := 7) rfl ?_)
  refine lv_bipush (v := 30) hx hb dX11_lieBelow_7 (by decide) (hp_n (n := 9) rfl ?_)
  refine q_ci (pc' := 12) Bh_1 (hp_runS (As := [.int a1, .int 30]) (rest := [.int 0, .int 1, .int rh_1]) C Bh_1 (t_J9_min_7cf53 Γ l α Bh_1.2.2.1 a1 30) lb_J9_min_7cf53 ls_J9_min_7cf53 lk_X11_466 rfl (by decide) rfl hl.1 rfl (Nat.le_of_ble_eq_true rfl) dX11_lieBelow_9 ⟨Nat.le_refl _, Nat.le_refl _⟩) (fun _ _ h => by rw [h.1]; exact Bh_1.2.2) rfl (fun rh_2 αh_2 Hh_2 Lh_2 ph_2 Bh_2 => ?_)
  rw [ph_2.1] at Bh_2
  obtain ⟨ph_2a, ph_2b, ph_2c⟩ := ph_2.2
  refine q_ci (pc' := 15) Bh_2 (hp_runS (As := [.int 0, .int rh_2]) (rest := [.int 1, .int rh_1]) C Bh_2 (t_J9_max_7cf53 Γ l α Bh_2.2.2.1 0 rh_2) lb_J9_max_7cf53 ls_J9_max_7cf53 lk_X11_471 rfl (by decide) rfl hl.1 rfl (Nat.le_of_ble_eq_true rfl) dX11_lieBelow_12 ⟨Nat.le_refl _, Nat.le_refl _⟩) (fun _ _ h => by rw [h.1]; exact Bh_2.2.2) rfl (fun rh_3 αh_3 Hh_3 Lh_3 ph_3 Bh_3 => ?_)
  rw [ph_3.1] at Bh_3
  obtain ⟨ph_3a, ph_3b, ph_3c⟩ := ph_3.2
  refine lv_ishl hx hb dX11_lieBelow_15 (hp_n (n := 16) rfl (lv_topi (fun x_4 ex_4 => ?_)))
  refine lv_icmp_ge (tgt := 23) hx hb dX11_lieBelow_16 (by decide) (fun c_5 => ?_) (fun c_5 => hp_n (n := 19) rfl ?_)
  ·
    have jc_5 := il_le c_5
    refine lv_iconst (v := 0) hx hb dX11_lieBelow_23 (by decide) (hp_n (n := 24) rfl ?_)
    exact q_zret C Bh_3 hr hlk (by decide) ⟨rfl, (Or.inl rfl)⟩ dX11_lieBelow_24
  ·
    have jc_5 := il_nle c_5
    refine lv_iconst (v := 1) hx hb dX11_lieBelow_19 (by decide) (hp_n (n := 20) rfl ?_)
    refine lv_goto (tgt := 24) hx hb dX11_lieBelow_20 (by decide) ?_
    exact q_zret C Bh_3 hr hlk (by decide) ⟨rfl, (Or.inr rfl)⟩ dX11_lieBelow_24
abbrev w_X11_wrongInclusion : cw_W := ([], [], [], [])
set_option maxRecDepth 100000 in
set_option maxHeartbeats 4000000 in
theorem t_X11_wrongInclusion (Γ : hp_G) (l : Launch) (α : hp_T) (g : GC α) (o0 : Option Nat) (k0 : ∀ b, o0 = some b → hp_K α b = 3) (a1 : Int32) (a2 : Int32) : Met l yX11_wrongInclusion (hp_ws yX11_wrongInclusion cX11_wrongInclusion 3 (some .int)) (hp_rm 0 0 0) (hp_Pc Γ α [va_rf o0, .int a1, .int a2]) (hp_Qi Γ (fun r β => β = α)) 0 0 (hp_A Γ) := by
  refine hp_start (by decide) ?_
  intro p e s m below meth c C hr hlk B0 hnm
  have C : hp_C Γ p m c cX11_wrongInclusion 3 s ([va_rf o0, .int a1, .int a2] : List Value).toArray RX11 := C
  have hx := C.1.1
  have hb := C.1.2.1
  have hown := C.1.2.2.2.1
  have hts := C.1.2.2.2.2
  have B : hp_B Γ (cw w_X11_wrongInclusion) s α α s.heap [] := ⟨B0.1, B0.2.1, cw_rf g⟩
  have lit0 : (0 : Int32).toInt = 0 := by decide
  have lit1 : (1 : Int32).toInt = 1 := by decide
  have lit2 : (2 : Int32).toInt = 2 := by decide
  have lit5 : (5 : Int32).toInt = 5 := by decide
  rcases o0 with _ | a0
  ·
    have hl := lv_entry ([.null, .int a1, .int a2]) (n := 3) (Nat.le_of_ble_eq_true rfl)
    show W p l e (hp_rm 0 0 0) s m ([.null, .int a1, .int a2] : List Value).toArray below meth c s.heap [] 0 0 (MQ below (hp_Qi Γ (fun r β => β = α)) ([.null, .int a1, .int a2] : List Value).toArray s 0 0 (hp_A Γ)) (entryFrame m ([.null, .int a1, .int a2] : List Value).toArray 3)
    rw [lg_entry_eq]
    generalize (lg_sl ([.null, .int a1, .int a2]) ++ List.replicate (3 - (lg_sl ([.null, .int a1, .int a2])).length) Slot.unset).toArray = ls at hl ⊢
    have hl : lv_has ls 3 [(0, .null), (1, .int a1), (2, .int a2)] := hl
    refine lv_iload_n hx hb dX11_wrongInclusion_0 rfl (lv_at hl 1 rfl) (hp_n (n := 1) rfl ?_)
    refine lv_if_lt (tgt := 8) hx hb dX11_wrongInclusion_1 (by decide) (fun c_1 => ?_) (fun c_1 => hp_n (n := 4) rfl ?_)
    ·
      have jc_1 := il_lt c_1
      refine lv_iconst (v := 1) hx hb dX11_wrongInclusion_8 (by decide) (hp_n (n := 9) rfl ?_)
      exact q_iret C B hr hlk rfl dX11_wrongInclusion_9
    ·
      have jc_1 := il_nlt c_1
      refine lv_iload_n hx hb dX11_wrongInclusion_4 rfl (lv_at hl 2 rfl) (hp_n (n := 5) rfl ?_)
      refine lv_if_ge (tgt := 10) hx hb dX11_wrongInclusion_5 (by decide) (fun c_2 => ?_) (fun c_2 => hp_n (n := 8) rfl ?_)
      ·
        have jc_2 := il_le c_2
        refine lv_aload_nN hx hb dX11_wrongInclusion_10 rfl (lv_at hl 0 rfl) (hp_n (n := 11) rfl ?_)
        refine lv_ifnonnullN hx hb dX11_wrongInclusion_11 (hp_n (n := 14) rfl ?_)
        refine lv_iconst (v := 2) hx hb dX11_wrongInclusion_14 (by decide) (hp_n (n := 15) rfl ?_)
        exact q_iret C B hr hlk rfl dX11_wrongInclusion_15
      ·
        have jc_2 := il_nle c_2
        refine lv_iconst (v := 1) hx hb dX11_wrongInclusion_8 (by decide) (hp_n (n := 9) rfl ?_)
        exact q_iret C B hr hlk rfl dX11_wrongInclusion_9
  ·
    have ka0 := k0 a0 rfl
    have hl := lv_entry ([.ref a0, .int a1, .int a2]) (n := 3) (Nat.le_of_ble_eq_true rfl)
    show W p l e (hp_rm 0 0 0) s m ([.ref a0, .int a1, .int a2] : List Value).toArray below meth c s.heap [] 0 0 (MQ below (hp_Qi Γ (fun r β => β = α)) ([.ref a0, .int a1, .int a2] : List Value).toArray s 0 0 (hp_A Γ)) (entryFrame m ([.ref a0, .int a1, .int a2] : List Value).toArray 3)
    rw [lg_entry_eq]
    generalize (lg_sl ([.ref a0, .int a1, .int a2]) ++ List.replicate (3 - (lg_sl ([.ref a0, .int a1, .int a2])).length) Slot.unset).toArray = ls at hl ⊢
    have hl : lv_has ls 3 [(0, .ref a0), (1, .int a1), (2, .int a2)] := hl
    refine lv_iload_n hx hb dX11_wrongInclusion_0 rfl (lv_at hl 1 rfl) (hp_n (n := 1) rfl ?_)
    refine lv_if_lt (tgt := 8) hx hb dX11_wrongInclusion_1 (by decide) (fun c_3 => ?_) (fun c_3 => hp_n (n := 4) rfl ?_)
    ·
      have jc_3 := il_lt c_3
      refine lv_iconst (v := 1) hx hb dX11_wrongInclusion_8 (by decide) (hp_n (n := 9) rfl ?_)
      exact q_iret C B hr hlk rfl dX11_wrongInclusion_9
    ·
      have jc_3 := il_nlt c_3
      refine lv_iload_n hx hb dX11_wrongInclusion_4 rfl (lv_at hl 2 rfl) (hp_n (n := 5) rfl ?_)
      refine lv_if_ge (tgt := 10) hx hb dX11_wrongInclusion_5 (by decide) (fun c_4 => ?_) (fun c_4 => hp_n (n := 8) rfl ?_)
      ·
        have jc_4 := il_le c_4
        refine lv_aload_n hx hb dX11_wrongInclusion_10 rfl (lv_at hl 0 rfl) (hp_n (n := 11) rfl ?_)
        refine lv_ifnonnull (tgt := 16) hx hb dX11_wrongInclusion_11 (by decide) ?_
        refine lv_iload_n hx hb dX11_wrongInclusion_16 rfl (lv_at hl 2 rfl) (hp_n (n := 17) rfl ?_)
        refine lv_aload_n hx hb dX11_wrongInclusion_17 rfl (lv_at hl 0 rfl) (hp_n (n := 18) rfl ?_)
        refine q_geti (κ := 3) (k := 2) (φ := 152) (pc' := 21) C B (cw_k B.2.2 ka0) fl_X11_167 rfl rfl rfl dX11_wrongInclusion_18 rfl (fun x_5 ex_5 => ?_)
        refine lv_icmp_gt (tgt := 29) hx hb dX11_wrongInclusion_21 (by decide) (fun c_6 => ?_) (fun c_6 => hp_n (n := 24) rfl ?_)
        ·
          have jc_6 := il_lt c_6
          refine lv_iconst (v := 5) hx hb dX11_wrongInclusion_29 (by decide) (hp_n (n := 30) rfl ?_)
          refine lv_goto (tgt := 34) hx hb dX11_wrongInclusion_30 (by decide) ?_
          exact q_iret C B hr hlk rfl dX11_wrongInclusion_34
        ·
          have jc_6 := il_nlt c_6
          refine lv_iload_n hx hb dX11_wrongInclusion_24 rfl (lv_at hl 1 rfl) (hp_n (n := 25) rfl ?_)
          refine lv_iload_n hx hb dX11_wrongInclusion_25 rfl (lv_at hl 2 rfl) (hp_n (n := 26) rfl ?_)
          refine lv_icmp_lt (tgt := 33) hx hb dX11_wrongInclusion_26 (by decide) (fun c_7 => ?_) (fun c_7 => hp_n (n := 29) rfl ?_)
          ·
            have jc_7 := il_lt c_7
            refine lv_iconst (v := 0) hx hb dX11_wrongInclusion_33 (by decide) (hp_n (n := 34) rfl ?_)
            exact q_iret C B hr hlk rfl dX11_wrongInclusion_34
          ·
            have jc_7 := il_nlt c_7
            refine lv_iconst (v := 5) hx hb dX11_wrongInclusion_29 (by decide) (hp_n (n := 30) rfl ?_)
            refine lv_goto (tgt := 34) hx hb dX11_wrongInclusion_30 (by decide) ?_
            exact q_iret C B hr hlk rfl dX11_wrongInclusion_34
      ·
        have jc_4 := il_nle c_4
        refine lv_iconst (v := 1) hx hb dX11_wrongInclusion_8 (by decide) (hp_n (n := 9) rfl ?_)
        exact q_iret C B hr hlk rfl dX11_wrongInclusion_9
abbrev w_X11_wrongGrowth : cw_W := ([], [], [], [])
set_option maxRecDepth 100000 in
set_option maxHeartbeats 4000000 in
theorem t_X11_wrongGrowth (Γ : hp_G) (l : Launch) (α : hp_T) (g : GC α) (o0 : Option Nat) (k0 : ∀ b, o0 = some b → hp_K α b = 3) (a1 : Int32) (a2 : Int32) : Met l yX11_wrongGrowth (hp_ws yX11_wrongGrowth cX11_wrongGrowth 3 (some .int)) (hp_rm 0 0 0) (hp_Pc Γ α [va_rf o0, .int a1, .int a2]) (hp_Qi Γ (fun r β => β = α)) 0 0 (hp_A Γ) := by
  refine hp_start (by decide) ?_
  intro p e s m below meth c C hr hlk B0 hnm
  have C : hp_C Γ p m c cX11_wrongGrowth 3 s ([va_rf o0, .int a1, .int a2] : List Value).toArray RX11 := C
  have hx := C.1.1
  have hb := C.1.2.1
  have hown := C.1.2.2.2.1
  have hts := C.1.2.2.2.2
  have B : hp_B Γ (cw w_X11_wrongGrowth) s α α s.heap [] := ⟨B0.1, B0.2.1, cw_rf g⟩
  have lit0 : (0 : Int32).toInt = 0 := by decide
  have lit1 : (1 : Int32).toInt = 1 := by decide
  have lit2 : (2 : Int32).toInt = 2 := by decide
  have lit5 : (5 : Int32).toInt = 5 := by decide
  rcases o0 with _ | a0
  ·
    have hl := lv_entry ([.null, .int a1, .int a2]) (n := 3) (Nat.le_of_ble_eq_true rfl)
    show W p l e (hp_rm 0 0 0) s m ([.null, .int a1, .int a2] : List Value).toArray below meth c s.heap [] 0 0 (MQ below (hp_Qi Γ (fun r β => β = α)) ([.null, .int a1, .int a2] : List Value).toArray s 0 0 (hp_A Γ)) (entryFrame m ([.null, .int a1, .int a2] : List Value).toArray 3)
    rw [lg_entry_eq]
    generalize (lg_sl ([.null, .int a1, .int a2]) ++ List.replicate (3 - (lg_sl ([.null, .int a1, .int a2])).length) Slot.unset).toArray = ls at hl ⊢
    have hl : lv_has ls 3 [(0, .null), (1, .int a1), (2, .int a2)] := hl
    refine lv_iload_n hx hb dX11_wrongGrowth_0 rfl (lv_at hl 1 rfl) (hp_n (n := 1) rfl ?_)
    refine lv_if_lt (tgt := 9) hx hb dX11_wrongGrowth_1 (by decide) (fun c_1 => ?_) (fun c_1 => hp_n (n := 4) rfl ?_)
    ·
      have jc_1 := il_lt c_1
      refine lv_iconst (v := 1) hx hb dX11_wrongGrowth_9 (by decide) (hp_n (n := 10) rfl ?_)
      exact q_iret C B hr hlk rfl dX11_wrongGrowth_10
    ·
      have jc_1 := il_nlt c_1
      refine lv_iload_n hx hb dX11_wrongGrowth_4 rfl (lv_at hl 1 rfl) (hp_n (n := 5) rfl ?_)
      refine lv_iload_n hx hb dX11_wrongGrowth_5 rfl (lv_at hl 2 rfl) (hp_n (n := 6) rfl ?_)
      refine lv_icmp_le (tgt := 11) hx hb dX11_wrongGrowth_6 (by decide) (fun c_2 => ?_) (fun c_2 => hp_n (n := 9) rfl ?_)
      ·
        have jc_2 := il_le c_2
        refine lv_aload_nN hx hb dX11_wrongGrowth_11 rfl (lv_at hl 0 rfl) (hp_n (n := 12) rfl ?_)
        refine lv_ifnonnullN hx hb dX11_wrongGrowth_12 (hp_n (n := 15) rfl ?_)
        refine lv_iconst (v := 2) hx hb dX11_wrongGrowth_15 (by decide) (hp_n (n := 16) rfl ?_)
        exact q_iret C B hr hlk rfl dX11_wrongGrowth_16
      ·
        have jc_2 := il_nle c_2
        refine lv_iconst (v := 1) hx hb dX11_wrongGrowth_9 (by decide) (hp_n (n := 10) rfl ?_)
        exact q_iret C B hr hlk rfl dX11_wrongGrowth_10
  ·
    have ka0 := k0 a0 rfl
    have hl := lv_entry ([.ref a0, .int a1, .int a2]) (n := 3) (Nat.le_of_ble_eq_true rfl)
    show W p l e (hp_rm 0 0 0) s m ([.ref a0, .int a1, .int a2] : List Value).toArray below meth c s.heap [] 0 0 (MQ below (hp_Qi Γ (fun r β => β = α)) ([.ref a0, .int a1, .int a2] : List Value).toArray s 0 0 (hp_A Γ)) (entryFrame m ([.ref a0, .int a1, .int a2] : List Value).toArray 3)
    rw [lg_entry_eq]
    generalize (lg_sl ([.ref a0, .int a1, .int a2]) ++ List.replicate (3 - (lg_sl ([.ref a0, .int a1, .int a2])).length) Slot.unset).toArray = ls at hl ⊢
    have hl : lv_has ls 3 [(0, .ref a0), (1, .int a1), (2, .int a2)] := hl
    refine lv_iload_n hx hb dX11_wrongGrowth_0 rfl (lv_at hl 1 rfl) (hp_n (n := 1) rfl ?_)
    refine lv_if_lt (tgt := 9) hx hb dX11_wrongGrowth_1 (by decide) (fun c_3 => ?_) (fun c_3 => hp_n (n := 4) rfl ?_)
    ·
      have jc_3 := il_lt c_3
      refine lv_iconst (v := 1) hx hb dX11_wrongGrowth_9 (by decide) (hp_n (n := 10) rfl ?_)
      exact q_iret C B hr hlk rfl dX11_wrongGrowth_10
    ·
      have jc_3 := il_nlt c_3
      refine lv_iload_n hx hb dX11_wrongGrowth_4 rfl (lv_at hl 1 rfl) (hp_n (n := 5) rfl ?_)
      refine lv_iload_n hx hb dX11_wrongGrowth_5 rfl (lv_at hl 2 rfl) (hp_n (n := 6) rfl ?_)
      refine lv_icmp_le (tgt := 11) hx hb dX11_wrongGrowth_6 (by decide) (fun c_4 => ?_) (fun c_4 => hp_n (n := 9) rfl ?_)
      ·
        have jc_4 := il_le c_4
        refine lv_aload_n hx hb dX11_wrongGrowth_11 rfl (lv_at hl 0 rfl) (hp_n (n := 12) rfl ?_)
        refine lv_ifnonnull (tgt := 17) hx hb dX11_wrongGrowth_12 (by decide) ?_
        refine lv_iload_n hx hb dX11_wrongGrowth_17 rfl (lv_at hl 2 rfl) (hp_n (n := 18) rfl ?_)
        refine lv_aload_n hx hb dX11_wrongGrowth_18 rfl (lv_at hl 0 rfl) (hp_n (n := 19) rfl ?_)
        refine q_geti (κ := 3) (k := 2) (φ := 152) (pc' := 22) C B (cw_k B.2.2 ka0) fl_X11_167 rfl rfl rfl dX11_wrongGrowth_19 rfl (fun x_5 ex_5 => ?_)
        refine lv_icmp_le (tgt := 29) hx hb dX11_wrongGrowth_22 (by decide) (fun c_6 => ?_) (fun c_6 => hp_n (n := 25) rfl ?_)
        ·
          have jc_6 := il_le c_6
          refine lv_iconst (v := 0) hx hb dX11_wrongGrowth_29 (by decide) (hp_n (n := 30) rfl ?_)
          exact q_iret C B hr hlk rfl dX11_wrongGrowth_30
        ·
          have jc_6 := il_nle c_6
          refine lv_iconst (v := 5) hx hb dX11_wrongGrowth_25 (by decide) (hp_n (n := 26) rfl ?_)
          refine lv_goto (tgt := 30) hx hb dX11_wrongGrowth_26 (by decide) ?_
          exact q_iret C B hr hlk rfl dX11_wrongGrowth_30
      ·
        have jc_4 := il_nle c_4
        refine lv_iconst (v := 1) hx hb dX11_wrongGrowth_9 (by decide) (hp_n (n := 10) rfl ?_)
        exact q_iret C B hr hlk rfl dX11_wrongGrowth_10
abbrev w_X11_loadLines : cw_W := ([100, 101, 102, 103, 152, 204, 205, 206, 208, 209, 301, 351, 352, 353, 354, 355, 356, 400, 401, 402, 403, 453, 454, 501, 550, 552, 554, 556], [350], [20, 21, 22, 23, 27, 29, 33], [])
abbrev w_X11_load : cw_W := ([100, 101, 102, 103, 152, 204, 205, 206, 208, 209, 301, 351, 352, 353, 354, 355, 356, 400, 401, 402, 403, 453, 454, 501, 550, 552, 554, 556, 600, 605], [350, 601, 602], [20, 21, 22, 23, 27, 29, 33], [])
abbrev w_X11_hear : cw_W := ([203, 204, 205, 209, 301, 351, 352, 353, 354, 355, 356, 453, 454, 600, 605], [350, 608, 609], [20, 21, 22, 23], [])
abbrev w_X11_heard : cw_W := ([600], [], [], [])
set_option maxRecDepth 100000 in
set_option maxHeartbeats 4000000 in
theorem t_X11_heard (Γ : hp_G) (l : Launch) (α : hp_T) (g : GC α) (a0 : Nat) (k0 : hp_K α a0 = 12) (a1 : Int32) : Met l yX11_heard (hp_ws yX11_heard cX11_heard 2 (some .int)) (hp_rm 1 0 0) (hp_Pc Γ α [.ref a0, .int a1]) (hp_Qi Γ (fun r β => cw w_X11_heard α β)) 0 0 (hp_A Γ) := by
  refine hp_start (by decide) ?_
  intro p e s m below meth c C hr hlk B0 hnm
  have C : hp_C Γ p m c cX11_heard 2 s ([.ref a0, .int a1] : List Value).toArray RX11 := C
  have hx := C.1.1
  have hb := C.1.2.1
  have hown := C.1.2.2.2.1
  have hts := C.1.2.2.2.2
  have B : hp_B Γ (cw w_X11_heard) s α α s.heap [] := ⟨B0.1, B0.2.1, cw_rf g⟩
  have lit0 : (0 : Int32).toInt = 0 := by decide
  have lit1 : (1 : Int32).toInt = 1 := by decide
  have lit5 : (5 : Int32).toInt = 5 := by decide
  have hl := lv_entry ([.ref a0, .int a1]) (n := 2) (Nat.le_of_ble_eq_true rfl)
  show W p l e (hp_rm 1 0 0) s m ([.ref a0, .int a1] : List Value).toArray below meth c s.heap [] 0 0 (MQ below (hp_Qi Γ (fun r β => cw w_X11_heard α β)) ([.ref a0, .int a1] : List Value).toArray s 0 0 (hp_A Γ)) (entryFrame m ([.ref a0, .int a1] : List Value).toArray 2)
  rw [lg_entry_eq]
  generalize (lg_sl ([.ref a0, .int a1]) ++ List.replicate (2 - (lg_sl ([.ref a0, .int a1])).length) Slot.unset).toArray = ls at hl ⊢
  have hl : lv_has ls 2 [(0, .ref a0), (1, .int a1)] := hl
  refine lv_iload_n hx hb dX11_heard_0 rfl (lv_at hl 1 rfl) (hp_n (n := 1) rfl ?_)
  refine lv_if_ge (tgt := 10) hx hb dX11_heard_1 (by decide) (fun c_1 => ?_) (fun c_1 => hp_n (n := 4) rfl ?_)
  ·
    have jc_1 := il_le c_1
    refine lv_iload_n hx hb dX11_heard_10 rfl (lv_at hl 1 rfl) (hp_n (n := 11) rfl ?_)
    refine lv_aload_n hx hb dX11_heard_11 rfl (lv_at hl 0 rfl) (hp_n (n := 12) rfl ?_)
    refine q_getr (κ := 12) (k := 8) (φ := 608) (pc' := 15) C B (cw_k B.2.2 k0) fl_X11_47 rfl rfl rfl (cw_r B.2.2 k0 rfl rfl (by decide) (by decide)) dX11_heard_12 rfl (fun b_2 eb_2 kb_2 => ?_)
    refine q_geti (κ := 6) (k := 1) (φ := 301) (pc' := 18) C B (cw_k B.2.2 kb_2) fl_X11_132 rfl rfl rfl dX11_heard_15 rfl (fun x_3 ex_3 => ?_)
    refine lv_icmp_lt (tgt := 27) hx hb dX11_heard_18 (by decide) (fun c_4 => ?_) (fun c_4 => hp_n (n := 21) rfl ?_)
    ·
      have jc_4 := il_lt c_4
      refine lv_aload_n hx hb dX11_heard_27 rfl (lv_at hl 0 rfl) (hp_n (n := 28) rfl ?_)
      refine lv_aload_n hx hb dX11_heard_28 rfl (lv_at hl 0 rfl) (hp_n (n := 29) rfl ?_)
      refine q_gets (κ := 12) (k := 8) (φ := 608) (pc' := 32) C B (cw_k B.2.2 k0) fl_X11_47 rfl rfl rfl eb_2 dX11_heard_29 rfl ?_
      refine lv_iload_n hx hb dX11_heard_32 rfl (lv_at hl 1 rfl) (hp_n (n := 33) rfl ?_)
      refine q_ci (pc' := 36) B (hp_runV (As := [.int a1]) (rest := [.ref a0]) C B (t_X5_at Γ l α B.2.2.1 b_2 (cw_k B.2.2 kb_2) a1) lb_X5_at lv_X5_at lk_X11_135 (cw_k B.2.2 kb_2) rfl (by decide) rfl hl.1 rfl (Nat.le_of_ble_eq_true rfl) dX11_heard_33 ⟨Nat.le_refl _, Nat.le_refl _⟩) (fun _ _ h => by rw [h]; exact B.2.2) rfl (fun rh_5 αh_5 Hh_5 Lh_5 ph_5 Bh_5 => ?_)
      rw [ph_5] at Bh_5
      refine q_ci (pc' := 39) Bh_5 (hp_runV (As := [.int rh_5]) (rest := []) C Bh_5 (t_X11_answer Γ l α Bh_5.2.2.1 a0 (cw_k Bh_5.2.2 k0) rh_5) lb_X11_answer lv_X11_answer lk_X11_115 (cw_k Bh_5.2.2 k0) rfl (by decide) rfl hl.1 rfl (Nat.le_of_ble_eq_true rfl) dX11_heard_36 ⟨Nat.le_refl _, Nat.le_refl _⟩) (fun _ _ h => cw_tr Bh_5.2.2 h (by decide)) rfl (fun rh_6 αh_6 Hh_6 Lh_6 ph_6 Bh_6 => ?_)
      exact q_iret C Bh_6 hr hlk Bh_6.2.2 dX11_heard_39
    ·
      have jc_4 := il_nlt c_4
      refine lv_aload_n hx hb dX11_heard_21 rfl (lv_at hl 0 rfl) (hp_n (n := 22) rfl ?_)
      refine lv_iconst (v := 5) hx hb dX11_heard_22 (by decide) (hp_n (n := 23) rfl ?_)
      refine q_ci (pc' := 26) B (hp_runV (As := [.int 5]) (rest := []) C B (t_X11_refuse Γ l α B.2.2.1 a0 (cw_k B.2.2 k0) 5) lb_X11_refuse lv_X11_refuse lk_X11_98 (cw_k B.2.2 k0) rfl (by decide) rfl hl.1 rfl (Nat.le_of_ble_eq_true rfl) dX11_heard_23 ⟨Nat.le_refl _, Nat.le_refl _⟩) (fun _ _ h => cw_tr B.2.2 h (by decide)) rfl (fun rh_7 αh_7 Hh_7 Lh_7 ph_7 Bh_7 => ?_)
      exact q_iret C Bh_7 hr hlk Bh_7.2.2 dX11_heard_26
  ·
    have jc_1 := il_nle c_1
    refine lv_aload_n hx hb dX11_heard_4 rfl (lv_at hl 0 rfl) (hp_n (n := 5) rfl ?_)
    refine lv_iconst (v := 1) hx hb dX11_heard_5 (by decide) (hp_n (n := 6) rfl ?_)
    refine q_ci (pc' := 9) B (hp_runV (As := [.int 1]) (rest := []) C B (t_X11_refuse Γ l α B.2.2.1 a0 (cw_k B.2.2 k0) 1) lb_X11_refuse lv_X11_refuse lk_X11_98 (cw_k B.2.2 k0) rfl (by decide) rfl hl.1 rfl (Nat.le_of_ble_eq_true rfl) dX11_heard_6 ⟨Nat.le_refl _, Nat.le_refl _⟩) (fun _ _ h => cw_tr B.2.2 h (by decide)) rfl (fun rh_8 αh_8 Hh_8 Lh_8 ph_8 Bh_8 => ?_)
    exact q_iret C Bh_8 hr hlk Bh_8.2.2 dX11_heard_9
abbrev w_X11_fault : cw_W := ([], [], [], [])
set_option maxRecDepth 100000 in
set_option maxHeartbeats 4000000 in
theorem t_X11_fault (Γ : hp_G) (l : Launch) (α : hp_T) (g : GC α) (a0 : Nat) (k0 : hp_K α a0 = 12) (a1 : Int32) : Met l yX11_fault (hp_ws yX11_fault cX11_fault 2 (some .int)) (hp_rm 0 0 0) (hp_Pc Γ α [.ref a0, .int a1]) (hp_Qi Γ (fun r β => β = α)) 0 0 (hp_A Γ) := by
  refine hp_start (by decide) ?_
  intro p e s m below meth c C hr hlk B0 hnm
  have C : hp_C Γ p m c cX11_fault 2 s ([.ref a0, .int a1] : List Value).toArray RX11 := C
  have hx := C.1.1
  have hb := C.1.2.1
  have hown := C.1.2.2.2.1
  have hts := C.1.2.2.2.2
  have B : hp_B Γ (cw w_X11_fault) s α α s.heap [] := ⟨B0.1, B0.2.1, cw_rf g⟩
  have litm1 : ((-1) : Int32).toInt = (-1) := by decide
  have lit0 : (0 : Int32).toInt = 0 := by decide
  have lit1 : (1 : Int32).toInt = 1 := by decide
  have hl := lv_entry ([.ref a0, .int a1]) (n := 2) (Nat.le_of_ble_eq_true rfl)
  show W p l e (hp_rm 0 0 0) s m ([.ref a0, .int a1] : List Value).toArray below meth c s.heap [] 0 0 (MQ below (hp_Qi Γ (fun r β => β = α)) ([.ref a0, .int a1] : List Value).toArray s 0 0 (hp_A Γ)) (entryFrame m ([.ref a0, .int a1] : List Value).toArray 2)
  rw [lg_entry_eq]
  generalize (lg_sl ([.ref a0, .int a1]) ++ List.replicate (2 - (lg_sl ([.ref a0, .int a1])).length) Slot.unset).toArray = ls at hl ⊢
  have hl : lv_has ls 2 [(0, .ref a0), (1, .int a1)] := hl
  refine lv_iload_n hx hb dX11_fault_0 rfl (lv_at hl 1 rfl) (hp_n (n := 1) rfl ?_)
  refine lv_if_ne (tgt := 12) hx hb dX11_fault_1 (by decide) (fun c_1 => ?_) (fun c_1 => hp_n (n := 4) rfl ?_)
  ·
    have jc_1 := il_ne c_1
    refine lv_iload_n hx hb dX11_fault_12 rfl (lv_at hl 1 rfl) (hp_n (n := 13) rfl ?_)
    refine lv_iconst (v := 1) hx hb dX11_fault_13 (by decide) (hp_n (n := 14) rfl ?_)
    refine lv_icmp_ne (tgt := 27) hx hb dX11_fault_14 (by decide) (fun c_2 => ?_) (fun c_2 => hp_n (n := 17) rfl ?_)
    ·
      have jc_2 := il_ne c_2
      refine lv_iconst (v := (-1)) hx hb dX11_fault_27 (by decide) (hp_n (n := 28) rfl ?_)
      exact q_iret C B hr hlk rfl dX11_fault_28
    ·
      have jc_2 := il_eq c_2
      refine lv_aload_n hx hb dX11_fault_17 rfl (lv_at hl 0 rfl) (hp_n (n := 18) rfl ?_)
      refine q_getr (κ := 12) (k := 16) (φ := 616) (pc' := 21) C B (cw_k B.2.2 k0) fl_X11_82 rfl rfl rfl (cw_r B.2.2 k0 rfl rfl (by decide) (by decide)) dX11_fault_18 rfl (fun b_3 eb_3 kb_3 => ?_)
      refine q_geti (κ := 4) (k := 5) (φ := 205) (pc' := 24) C B (cw_k B.2.2 kb_3) fl_X11_141 rfl rfl rfl dX11_fault_21 rfl (fun x_4 ex_4 => ?_)
      refine lv_goto (tgt := 28) hx hb dX11_fault_24 (by decide) ?_
      exact q_iret C B hr hlk rfl dX11_fault_28
  ·
    have jc_1 := il_eq c_1
    refine lv_aload_n hx hb dX11_fault_4 rfl (lv_at hl 0 rfl) (hp_n (n := 5) rfl ?_)
    refine q_getr (κ := 12) (k := 16) (φ := 616) (pc' := 8) C B (cw_k B.2.2 k0) fl_X11_82 rfl rfl rfl (cw_r B.2.2 k0 rfl rfl (by decide) (by decide)) dX11_fault_5 rfl (fun b_5 eb_5 kb_5 => ?_)
    refine q_geti (κ := 4) (k := 4) (φ := 204) (pc' := 11) C B (cw_k B.2.2 kb_5) fl_X11_138 rfl rfl rfl dX11_fault_8 rfl (fun x_6 ex_6 => ?_)
    exact q_iret C B hr hlk rfl dX11_fault_11
abbrev w_X11_type : cw_W := ([501], [606, 607], [27], [])
abbrev w_X11_many : cw_W := ([600], [], [], [])
set_option maxRecDepth 100000 in
set_option maxHeartbeats 4000000 in
theorem t_X11_many (Γ : hp_G) (l : Launch) (α : hp_T) (g : GC α) (a0 : Nat) (k0 : hp_K α a0 = 12) (a1 : Int32) : Met l yX11_many (hp_ws yX11_many cX11_many 2 (some .int)) (hp_rm 2 0 0) (hp_Pc Γ α [.ref a0, .int a1]) (hp_Qi Γ (fun r β => cw w_X11_many α β)) 0 0 (hp_A Γ) := by
  refine hp_start (by decide) ?_
  intro p e s m below meth c C hr hlk B0 hnm
  have C : hp_C Γ p m c cX11_many 2 s ([.ref a0, .int a1] : List Value).toArray RX11 := C
  have hx := C.1.1
  have hb := C.1.2.1
  have hown := C.1.2.2.2.1
  have hts := C.1.2.2.2.2
  have B : hp_B Γ (cw w_X11_many) s α α s.heap [] := ⟨B0.1, B0.2.1, cw_rf g⟩
  have lit0 : (0 : Int32).toInt = 0 := by decide
  have lit1 : (1 : Int32).toInt = 1 := by decide
  have lit2 : (2 : Int32).toInt = 2 := by decide
  have lit3 : (3 : Int32).toInt = 3 := by decide
  have lit4 : (4 : Int32).toInt = 4 := by decide
  have lit5 : (5 : Int32).toInt = 5 := by decide
  have hl := lv_entry ([.ref a0, .int a1]) (n := 2) (Nat.le_of_ble_eq_true rfl)
  show W p l e (hp_rm 2 0 0) s m ([.ref a0, .int a1] : List Value).toArray below meth c s.heap [] 0 0 (MQ below (hp_Qi Γ (fun r β => cw w_X11_many α β)) ([.ref a0, .int a1] : List Value).toArray s 0 0 (hp_A Γ)) (entryFrame m ([.ref a0, .int a1] : List Value).toArray 2)
  rw [lg_entry_eq]
  generalize (lg_sl ([.ref a0, .int a1]) ++ List.replicate (2 - (lg_sl ([.ref a0, .int a1])).length) Slot.unset).toArray = ls at hl ⊢
  have hl : lv_has ls 2 [(0, .ref a0), (1, .int a1)] := hl
  refine lv_iload_n hx hb dX11_many_0 rfl (lv_at hl 1 rfl) (hp_n (n := 1) rfl ?_)
  by_cases c_1 : a1 = 0
  · have jc_1 := il_eq c_1
    refine lv_tableIn (off := 39) (tgt := 40) hx hb dX11_many_1 (by omega) (by omega) (by rw [jc_1, lit0]; rfl) (by decide) ?_
    refine lv_aload_n hx hb dX11_many_40 rfl (lv_at hl 0 rfl) (hp_n (n := 41) rfl ?_)
    refine lv_aload_n hx hb dX11_many_41 rfl (lv_at hl 0 rfl) (hp_n (n := 42) rfl ?_)
    refine q_getr (κ := 12) (k := 1) (φ := 601) (pc' := 45) C B (cw_k B.2.2 k0) fl_X11_16 rfl rfl rfl (cw_r B.2.2 k0 rfl rfl (by decide) (by decide)) dX11_many_42 rfl (fun b_2 eb_2 kb_2 => ?_)
    refine q_geti (κ := 11) (k := 2) (φ := 552) (pc' := 48) C B (cw_k B.2.2 kb_2) fl_X11_112 rfl rfl rfl dX11_many_45 rfl (fun x_3 ex_3 => ?_)
    refine q_ci (pc' := 51) B (hp_runV (As := [.int x_3]) (rest := []) C B (t_X11_answer Γ l α B.2.2.1 a0 (cw_k B.2.2 k0) x_3) lb_X11_answer lv_X11_answer lk_X11_115 (cw_k B.2.2 k0) rfl (by decide) rfl hl.1 rfl (Nat.le_of_ble_eq_true rfl) dX11_many_48 ⟨Nat.le_refl _, Nat.le_refl _⟩) (fun _ _ h => cw_tr B.2.2 h (by decide)) rfl (fun rh_4 αh_4 Hh_4 Lh_4 ph_4 Bh_4 => ?_)
    exact q_iret C Bh_4 hr hlk Bh_4.2.2 dX11_many_51
  have jc_1 := il_ne c_1
  by_cases c_5 : a1 = 1
  · have jc_5 := il_eq c_5
    refine lv_tableIn (off := 51) (tgt := 52) hx hb dX11_many_1 (by omega) (by omega) (by rw [jc_5, lit1]; rfl) (by decide) ?_
    refine lv_aload_n hx hb dX11_many_52 rfl (lv_at hl 0 rfl) (hp_n (n := 53) rfl ?_)
    refine lv_aload_n hx hb dX11_many_53 rfl (lv_at hl 0 rfl) (hp_n (n := 54) rfl ?_)
    refine q_getr (κ := 12) (k := 1) (φ := 601) (pc' := 57) C B (cw_k B.2.2 k0) fl_X11_16 rfl rfl rfl (cw_r B.2.2 k0 rfl rfl (by decide) (by decide)) dX11_many_54 rfl (fun b_6 eb_6 kb_6 => ?_)
    refine q_geti (κ := 11) (k := 0) (φ := 550) (pc' := 60) C B (cw_k B.2.2 kb_6) fl_X11_122 rfl rfl rfl dX11_many_57 rfl (fun x_7 ex_7 => ?_)
    refine q_ci (pc' := 63) B (hp_runV (As := [.int x_7]) (rest := []) C B (t_X11_answer Γ l α B.2.2.1 a0 (cw_k B.2.2 k0) x_7) lb_X11_answer lv_X11_answer lk_X11_115 (cw_k B.2.2 k0) rfl (by decide) rfl hl.1 rfl (Nat.le_of_ble_eq_true rfl) dX11_many_60 ⟨Nat.le_refl _, Nat.le_refl _⟩) (fun _ _ h => cw_tr B.2.2 h (by decide)) rfl (fun rh_8 αh_8 Hh_8 Lh_8 ph_8 Bh_8 => ?_)
    exact q_iret C Bh_8 hr hlk Bh_8.2.2 dX11_many_63
  have jc_5 := il_ne c_5
  by_cases c_9 : a1 = 2
  · have jc_9 := il_eq c_9
    refine lv_tableIn (off := 63) (tgt := 64) hx hb dX11_many_1 (by omega) (by omega) (by rw [jc_9, lit2]; rfl) (by decide) ?_
    refine lv_aload_n hx hb dX11_many_64 rfl (lv_at hl 0 rfl) (hp_n (n := 65) rfl ?_)
    refine lv_aload_n hx hb dX11_many_65 rfl (lv_at hl 0 rfl) (hp_n (n := 66) rfl ?_)
    refine q_getr (κ := 12) (k := 3) (φ := 603) (pc' := 69) C B (cw_k B.2.2 k0) fl_X11_26 rfl rfl rfl (cw_r B.2.2 k0 rfl rfl (by decide) (by decide)) dX11_many_66 rfl (fun b_10 eb_10 kb_10 => ?_)
    refine q_geti (κ := 6) (k := 1) (φ := 301) (pc' := 72) C B (cw_k B.2.2 kb_10) fl_X11_132 rfl rfl rfl dX11_many_69 rfl (fun x_11 ex_11 => ?_)
    refine q_ci (pc' := 75) B (hp_runV (As := [.int x_11]) (rest := []) C B (t_X11_answer Γ l α B.2.2.1 a0 (cw_k B.2.2 k0) x_11) lb_X11_answer lv_X11_answer lk_X11_115 (cw_k B.2.2 k0) rfl (by decide) rfl hl.1 rfl (Nat.le_of_ble_eq_true rfl) dX11_many_72 ⟨Nat.le_refl _, Nat.le_refl _⟩) (fun _ _ h => cw_tr B.2.2 h (by decide)) rfl (fun rh_12 αh_12 Hh_12 Lh_12 ph_12 Bh_12 => ?_)
    exact q_iret C Bh_12 hr hlk Bh_12.2.2 dX11_many_75
  have jc_9 := il_ne c_9
  by_cases c_13 : a1 = 3
  · have jc_13 := il_eq c_13
    refine lv_tableIn (off := 75) (tgt := 76) hx hb dX11_many_1 (by omega) (by omega) (by rw [jc_13, lit3]; rfl) (by decide) ?_
    refine lv_aload_n hx hb dX11_many_76 rfl (lv_at hl 0 rfl) (hp_n (n := 77) rfl ?_)
    refine lv_aload_n hx hb dX11_many_77 rfl (lv_at hl 0 rfl) (hp_n (n := 78) rfl ?_)
    refine q_getr (κ := 12) (k := 1) (φ := 601) (pc' := 81) C B (cw_k B.2.2 k0) fl_X11_16 rfl rfl rfl (cw_r B.2.2 k0 rfl rfl (by decide) (by decide)) dX11_many_78 rfl (fun b_14 eb_14 kb_14 => ?_)
    refine q_geti (κ := 11) (k := 4) (φ := 554) (pc' := 84) C B (cw_k B.2.2 kb_14) fl_X11_153 rfl rfl rfl dX11_many_81 rfl (fun x_15 ex_15 => ?_)
    refine q_ci (pc' := 87) B (hp_runV (As := [.int x_15]) (rest := []) C B (t_X11_answer Γ l α B.2.2.1 a0 (cw_k B.2.2 k0) x_15) lb_X11_answer lv_X11_answer lk_X11_115 (cw_k B.2.2 k0) rfl (by decide) rfl hl.1 rfl (Nat.le_of_ble_eq_true rfl) dX11_many_84 ⟨Nat.le_refl _, Nat.le_refl _⟩) (fun _ _ h => cw_tr B.2.2 h (by decide)) rfl (fun rh_16 αh_16 Hh_16 Lh_16 ph_16 Bh_16 => ?_)
    exact q_iret C Bh_16 hr hlk Bh_16.2.2 dX11_many_87
  have jc_13 := il_ne c_13
  by_cases c_17 : a1 = 4
  · have jc_17 := il_eq c_17
    refine lv_tableIn (off := 87) (tgt := 88) hx hb dX11_many_1 (by omega) (by omega) (by rw [jc_17, lit4]; rfl) (by decide) ?_
    refine lv_aload_n hx hb dX11_many_88 rfl (lv_at hl 0 rfl) (hp_n (n := 89) rfl ?_)
    refine lv_aload_n hx hb dX11_many_89 rfl (lv_at hl 0 rfl) (hp_n (n := 90) rfl ?_)
    refine q_getr (κ := 12) (k := 1) (φ := 601) (pc' := 93) C B (cw_k B.2.2 k0) fl_X11_16 rfl rfl rfl (cw_r B.2.2 k0 rfl rfl (by decide) (by decide)) dX11_many_90 rfl (fun b_18 eb_18 kb_18 => ?_)
    refine q_geti (κ := 11) (k := 6) (φ := 556) (pc' := 96) C B (cw_k B.2.2 kb_18) fl_X11_156 rfl rfl rfl dX11_many_93 rfl (fun x_19 ex_19 => ?_)
    refine q_ci (pc' := 99) B (hp_runV (As := [.int x_19]) (rest := []) C B (t_X11_answer Γ l α B.2.2.1 a0 (cw_k B.2.2 k0) x_19) lb_X11_answer lv_X11_answer lk_X11_115 (cw_k B.2.2 k0) rfl (by decide) rfl hl.1 rfl (Nat.le_of_ble_eq_true rfl) dX11_many_96 ⟨Nat.le_refl _, Nat.le_refl _⟩) (fun _ _ h => cw_tr B.2.2 h (by decide)) rfl (fun rh_20 αh_20 Hh_20 Lh_20 ph_20 Bh_20 => ?_)
    exact q_iret C Bh_20 hr hlk Bh_20.2.2 dX11_many_99
  have jc_17 := il_ne c_17
  by_cases c_21 : a1 = 5
  · have jc_21 := il_eq c_21
    refine lv_tableIn (off := 99) (tgt := 100) hx hb dX11_many_1 (by omega) (by omega) (by rw [jc_21, lit5]; rfl) (by decide) ?_
    refine lv_aload_n hx hb dX11_many_100 rfl (lv_at hl 0 rfl) (hp_n (n := 101) rfl ?_)
    refine lv_aload_n hx hb dX11_many_101 rfl (lv_at hl 0 rfl) (hp_n (n := 102) rfl ?_)
    refine q_getr (κ := 12) (k := 1) (φ := 601) (pc' := 105) C B (cw_k B.2.2 k0) fl_X11_16 rfl rfl rfl (cw_r B.2.2 k0 rfl rfl (by decide) (by decide)) dX11_many_102 rfl (fun b_22 eb_22 kb_22 => ?_)
    refine q_ci (pc' := 108) B (hp_runV (As := []) (rest := [.ref a0]) C B (t_X10_alarmedBits Γ l α B.2.2.1 b_22 (cw_k B.2.2 kb_22)) lb_X10_alarmedBits lv_X10_alarmedBits lk_X11_159 (cw_k B.2.2 kb_22) rfl (by decide) rfl hl.1 rfl (Nat.le_of_ble_eq_true rfl) dX11_many_105 ⟨Nat.le_refl _, Nat.le_refl _⟩) (fun _ _ h => by rw [h]; exact B.2.2) rfl (fun rh_23 αh_23 Hh_23 Lh_23 ph_23 Bh_23 => ?_)
    rw [ph_23] at Bh_23
    refine q_ci (pc' := 111) Bh_23 (hp_runV (As := [.int rh_23]) (rest := []) C Bh_23 (t_X11_answer Γ l α Bh_23.2.2.1 a0 (cw_k Bh_23.2.2 k0) rh_23) lb_X11_answer lv_X11_answer lk_X11_115 (cw_k Bh_23.2.2 k0) rfl (by decide) rfl hl.1 rfl (Nat.le_of_ble_eq_true rfl) dX11_many_108 ⟨Nat.le_refl _, Nat.le_refl _⟩) (fun _ _ h => cw_tr Bh_23.2.2 h (by decide)) rfl (fun rh_24 αh_24 Hh_24 Lh_24 ph_24 Bh_24 => ?_)
    exact q_iret C Bh_24 hr hlk Bh_24.2.2 dX11_many_111
  have jc_21 := il_ne c_21
  refine lv_tableOut (tgt := 112) hx hb dX11_many_1 (by omega) (by decide) ?_
  refine lv_aload_n hx hb dX11_many_112 rfl (lv_at hl 0 rfl) (hp_n (n := 113) rfl ?_)
  refine lv_iconst (v := 1) hx hb dX11_many_113 (by decide) (hp_n (n := 114) rfl ?_)
  refine q_ci (pc' := 117) B (hp_runV (As := [.int 1]) (rest := []) C B (t_X11_refuse Γ l α B.2.2.1 a0 (cw_k B.2.2 k0) 1) lb_X11_refuse lv_X11_refuse lk_X11_98 (cw_k B.2.2 k0) rfl (by decide) rfl hl.1 rfl (Nat.le_of_ble_eq_true rfl) dX11_many_114 ⟨Nat.le_refl _, Nat.le_refl _⟩) (fun _ _ h => cw_tr B.2.2 h (by decide)) rfl (fun rh_25 αh_25 Hh_25 Lh_25 ph_25 Bh_25 => ?_)
  exact q_iret C Bh_25 hr hlk Bh_25.2.2 dX11_many_117
abbrev w_X11_size : cw_W := ([600], [], [], [])
set_option maxRecDepth 100000 in
set_option maxHeartbeats 4000000 in
theorem t_X11_size (Γ : hp_G) (l : Launch) (α : hp_T) (g : GC α) (a0 : Nat) (k0 : hp_K α a0 = 12) (a1 : Int32) : Met l yX11_size (hp_ws yX11_size cX11_size 3 (some .int)) (hp_rm 1 0 0) (hp_Pc Γ α [.ref a0, .int a1]) (hp_Qi Γ (fun r β => cw w_X11_size α β)) 0 0 (hp_A Γ) := by
  refine hp_start (by decide) ?_
  intro p e s m below meth c C hr hlk B0 hnm
  have C : hp_C Γ p m c cX11_size 3 s ([.ref a0, .int a1] : List Value).toArray RX11 := C
  have hx := C.1.1
  have hb := C.1.2.1
  have hown := C.1.2.2.2.1
  have hts := C.1.2.2.2.2
  have B : hp_B Γ (cw w_X11_size) s α α s.heap [] := ⟨B0.1, B0.2.1, cw_rf g⟩
  have lit2 : (2 : Int32).toInt = 2 := by decide
  have hl := lv_entry ([.ref a0, .int a1]) (n := 3) (Nat.le_of_ble_eq_true rfl)
  show W p l e (hp_rm 1 0 0) s m ([.ref a0, .int a1] : List Value).toArray below meth c s.heap [] 0 0 (MQ below (hp_Qi Γ (fun r β => cw w_X11_size α β)) ([.ref a0, .int a1] : List Value).toArray s 0 0 (hp_A Γ)) (entryFrame m ([.ref a0, .int a1] : List Value).toArray 3)
  rw [lg_entry_eq]
  generalize (lg_sl ([.ref a0, .int a1]) ++ List.replicate (3 - (lg_sl ([.ref a0, .int a1])).length) Slot.unset).toArray = ls at hl ⊢
  have hl : lv_has ls 3 [(0, .ref a0), (1, .int a1)] := hl
  refine lv_aload_n hx hb dX11_size_0 rfl (lv_at hl 0 rfl) (hp_n (n := 1) rfl ?_)
  refine q_getr (κ := 12) (k := 1) (φ := 601) (pc' := 4) C B (cw_k B.2.2 k0) fl_X11_16 rfl rfl rfl (cw_r B.2.2 k0 rfl rfl (by decide) (by decide)) dX11_size_1 rfl (fun b_1 eb_1 kb_1 => ?_)
  refine lv_iload_n hx hb dX11_size_4 rfl (lv_at hl 1 rfl) (hp_n (n := 5) rfl ?_)
  refine q_cq (pc' := 8) B (hp_runV (As := [.int a1]) (rest := []) C B (t_X10_logAt Γ l α B.2.2.1 b_1 (cw_k B.2.2 kb_1) a1) lb_X10_logAt lv_X10_logAt lk_X11_163 (cw_k B.2.2 kb_1) rfl (by decide) rfl hl.1 rfl (Nat.le_of_ble_eq_true rfl) dX11_size_5 ⟨Nat.le_refl _, Nat.le_refl _⟩) (fun _ _ h => by rw [h.1]; exact B.2.2) rfl (fun rh_2 αh_2 Hh_2 Lh_2 ph_2 Bh_2 => ?_)
  rw [ph_2.1] at Bh_2
  rcases rh_2 with _ | bh_2
  ·
    refine lv_astore_nN (lv' := [(2, .null), (0, .ref a0), (1, .int a1)]) hx hb dX11_size_8 rfl hl (by decide) rfl (fun ls hl => hp_n (n := 9) rfl ?_)
    refine lv_aload_nN hx hb dX11_size_9 rfl (lv_at hl 0 rfl) (hp_n (n := 10) rfl ?_)
    refine lv_ifnonnullN hx hb dX11_size_10 (hp_n (n := 13) rfl ?_)
    refine lv_aload_n hx hb dX11_size_13 rfl (lv_at hl 1 rfl) (hp_n (n := 14) rfl ?_)
    refine lv_iconst (v := 2) hx hb dX11_size_14 (by decide) (hp_n (n := 15) rfl ?_)
    refine q_ci (pc' := 18) Bh_2 (hp_runV (As := [.int 2]) (rest := []) C Bh_2 (t_X11_refuse Γ l α Bh_2.2.2.1 a0 (cw_k Bh_2.2.2 k0) 2) lb_X11_refuse lv_X11_refuse lk_X11_98 (cw_k Bh_2.2.2 k0) rfl (by decide) rfl hl.1 rfl (Nat.le_of_ble_eq_true rfl) dX11_size_15 ⟨Nat.le_refl _, Nat.le_refl _⟩) (fun _ _ h => cw_tr Bh_2.2.2 h (by decide)) rfl (fun rh_3 αh_3 Hh_3 Lh_3 ph_3 Bh_3 => ?_)
    refine lv_goto (tgt := 29) hx hb dX11_size_18 (by decide) ?_
    exact q_iret C Bh_3 hr hlk Bh_3.2.2 dX11_size_29
  ·
    have kbh_2 : hp_K α bh_2 = 3 := cw_k' Bh_2.2.2 (ph_2.2 bh_2 rfl)
    refine lv_astore_n (lv' := [(2, .ref bh_2), (0, .ref a0), (1, .int a1)]) hx hb dX11_size_8 rfl hl (by decide) rfl (fun ls hl => hp_n (n := 9) rfl ?_)
    refine lv_aload_n hx hb dX11_size_9 rfl (lv_at hl 0 rfl) (hp_n (n := 10) rfl ?_)
    refine lv_ifnonnull (tgt := 21) hx hb dX11_size_10 (by decide) ?_
    refine lv_aload_n hx hb dX11_size_21 rfl (lv_at hl 1 rfl) (hp_n (n := 22) rfl ?_)
    refine lv_aload_n hx hb dX11_size_22 rfl (lv_at hl 0 rfl) (hp_n (n := 23) rfl ?_)
    refine q_geti (κ := 3) (k := 2) (φ := 152) (pc' := 26) C Bh_2 (cw_k Bh_2.2.2 kbh_2) fl_X11_167 rfl rfl rfl dX11_size_23 rfl (fun x_4 ex_4 => ?_)
    refine q_ci (pc' := 29) Bh_2 (hp_runV (As := [.int x_4]) (rest := []) C Bh_2 (t_X11_answer Γ l α Bh_2.2.2.1 a0 (cw_k Bh_2.2.2 k0) x_4) lb_X11_answer lv_X11_answer lk_X11_115 (cw_k Bh_2.2.2 k0) rfl (by decide) rfl hl.1 rfl (Nat.le_of_ble_eq_true rfl) dX11_size_26 ⟨Nat.le_refl _, Nat.le_refl _⟩) (fun _ _ h => cw_tr Bh_2.2.2 h (by decide)) rfl (fun rh_5 αh_5 Hh_5 Lh_5 ph_5 Bh_5 => ?_)
    exact q_iret C Bh_5 hr hlk Bh_5.2.2 dX11_size_29
abbrev w_X11_entry : cw_W := ([600], [], [], [])
set_option maxRecDepth 100000 in
set_option maxHeartbeats 4000000 in
theorem t_X11_entry (Γ : hp_G) (l : Launch) (α : hp_T) (g : GC α) (a0 : Nat) (k0 : hp_K α a0 = 12) (a1 : Int32) (a2 : Int32) (a3 : Int32) : Met l yX11_entry (hp_ws yX11_entry cX11_entry 6 (some .int)) (hp_rm 1 0 0) (hp_Pc Γ α [.ref a0, .int a1, .int a2, .int a3]) (hp_Qi Γ (fun r β => cw w_X11_entry α β)) 0 0 (hp_A Γ) := by
  refine hp_start (by decide) ?_
  intro p e s m below meth c C hr hlk B0 hnm
  have C : hp_C Γ p m c cX11_entry 6 s ([.ref a0, .int a1, .int a2, .int a3] : List Value).toArray RX11 := C
  have hx := C.1.1
  have hb := C.1.2.1
  have hown := C.1.2.2.2.1
  have hts := C.1.2.2.2.2
  have B : hp_B Γ (cw w_X11_entry) s α α s.heap [] := ⟨B0.1, B0.2.1, cw_rf g⟩
  have lit0 : (0 : Int32).toInt = 0 := by decide
  have lit1 : (1 : Int32).toInt = 1 := by decide
  have lit2 : (2 : Int32).toInt = 2 := by decide
  have lit5 : (5 : Int32).toInt = 5 := by decide
  have hl := lv_entry ([.ref a0, .int a1, .int a2, .int a3]) (n := 6) (Nat.le_of_ble_eq_true rfl)
  show W p l e (hp_rm 1 0 0) s m ([.ref a0, .int a1, .int a2, .int a3] : List Value).toArray below meth c s.heap [] 0 0 (MQ below (hp_Qi Γ (fun r β => cw w_X11_entry α β)) ([.ref a0, .int a1, .int a2, .int a3] : List Value).toArray s 0 0 (hp_A Γ)) (entryFrame m ([.ref a0, .int a1, .int a2, .int a3] : List Value).toArray 6)
  rw [lg_entry_eq]
  generalize (lg_sl ([.ref a0, .int a1, .int a2, .int a3]) ++ List.replicate (6 - (lg_sl ([.ref a0, .int a1, .int a2, .int a3])).length) Slot.unset).toArray = ls at hl ⊢
  have hl : lv_has ls 6 [(0, .ref a0), (1, .int a1), (2, .int a2), (3, .int a3)] := hl
  refine lv_iload_n hx hb dX11_entry_0 rfl (lv_at hl 2 rfl) (hp_n (n := 1) rfl ?_)
  have J8 : ∀ (Hh_1 : Heap) (Lh_1 : List Loc) (Bh_1 : hp_B Γ (cw w_X11_entry) s α α Hh_1 Lh_1) (ls : Array Slot) (hl : lv_has ls 6 [(0, .ref a0)]), W p l e (hp_rm 1 0 0) s m ([.ref a0, .int a1, .int a2, .int a3] : List Value).toArray below meth c Hh_1 Lh_1 0 0 (MQ below (hp_Qi Γ (fun r β => cw w_X11_entry α β)) ([.ref a0, .int a1, .int a2, .int a3] : List Value).toArray s 0 0 (hp_A Γ)) (F0 m 8 ls []) := by
    intro Hh_1 Lh_1 Bh_1 ls hl
    refine lv_aload_n hx hb dX11_entry_8 rfl (lv_at hl 0 rfl) (hp_n (n := 9) rfl ?_)
    refine lv_iconst (v := 1) hx hb dX11_entry_9 (by decide) (hp_n (n := 10) rfl ?_)
    refine q_ci (pc' := 13) Bh_1 (hp_runV (As := [.int 1]) (rest := []) C Bh_1 (t_X11_refuse Γ l α Bh_1.2.2.1 a0 (cw_k Bh_1.2.2 k0) 1) lb_X11_refuse lv_X11_refuse lk_X11_98 (cw_k Bh_1.2.2 k0) rfl (by decide) rfl hl.1 rfl (Nat.le_of_ble_eq_true rfl) dX11_entry_10 ⟨Nat.le_refl _, Nat.le_refl _⟩) (fun _ _ h => cw_tr Bh_1.2.2 h (by decide)) rfl (fun rh_2 αh_2 Hh_2 Lh_2 ph_2 Bh_2 => ?_)
    exact q_iret C Bh_2 hr hlk Bh_2.2.2 dX11_entry_13
  refine lv_if_lt (tgt := 8) hx hb dX11_entry_1 (by decide) (fun c_3 => ?_) (fun c_3 => hp_n (n := 4) rfl ?_)
  ·
    have jc_3 := il_lt c_3
    exact J8 s.heap [] B ls (lv_sub hl [0] rfl)
  ·
    have jc_3 := il_nlt c_3
    refine lv_iload_n hx hb dX11_entry_4 rfl (lv_at hl 3 rfl) (hp_n (n := 5) rfl ?_)
    refine lv_if_ge (tgt := 14) hx hb dX11_entry_5 (by decide) (fun c_4 => ?_) (fun c_4 => hp_n (n := 8) rfl ?_)
    ·
      have jc_4 := il_le c_4
      refine lv_aload_n hx hb dX11_entry_14 rfl (lv_at hl 0 rfl) (hp_n (n := 15) rfl ?_)
      refine q_getr (κ := 12) (k := 1) (φ := 601) (pc' := 18) C B (cw_k B.2.2 k0) fl_X11_16 rfl rfl rfl (cw_r B.2.2 k0 rfl rfl (by decide) (by decide)) dX11_entry_15 rfl (fun b_5 eb_5 kb_5 => ?_)
      refine lv_iload_n hx hb dX11_entry_18 rfl (lv_at hl 1 rfl) (hp_n (n := 19) rfl ?_)
      refine q_cq (pc' := 22) B (hp_runV (As := [.int a1]) (rest := []) C B (t_X10_logAt Γ l α B.2.2.1 b_5 (cw_k B.2.2 kb_5) a1) lb_X10_logAt lv_X10_logAt lk_X11_163 (cw_k B.2.2 kb_5) rfl (by decide) rfl hl.1 rfl (Nat.le_of_ble_eq_true rfl) dX11_entry_19 ⟨Nat.le_refl _, Nat.le_refl _⟩) (fun _ _ h => by rw [h.1]; exact B.2.2) rfl (fun rh_6 αh_6 Hh_6 Lh_6 ph_6 Bh_6 => ?_)
      rw [ph_6.1] at Bh_6
      rcases rh_6 with _ | bh_6
      ·
        refine lv_astoreN (lv' := [(4, .null), (0, .ref a0), (1, .int a1), (2, .int a2), (3, .int a3)]) hx hb dX11_entry_22 hl (by decide) rfl (fun ls hl => hp_n (n := 24) rfl ?_)
        refine lv_aloadN hx hb dX11_entry_24 (lv_at hl 0 rfl) (hp_n (n := 26) rfl ?_)
        refine lv_ifnonnullN hx hb dX11_entry_26 (hp_n (n := 29) rfl ?_)
        refine lv_aload_n hx hb dX11_entry_29 rfl (lv_at hl 1 rfl) (hp_n (n := 30) rfl ?_)
        refine lv_iconst (v := 2) hx hb dX11_entry_30 (by decide) (hp_n (n := 31) rfl ?_)
        refine q_ci (pc' := 34) Bh_6 (hp_runV (As := [.int 2]) (rest := []) C Bh_6 (t_X11_refuse Γ l α Bh_6.2.2.1 a0 (cw_k Bh_6.2.2 k0) 2) lb_X11_refuse lv_X11_refuse lk_X11_98 (cw_k Bh_6.2.2 k0) rfl (by decide) rfl hl.1 rfl (Nat.le_of_ble_eq_true rfl) dX11_entry_31 ⟨Nat.le_refl _, Nat.le_refl _⟩) (fun _ _ h => cw_tr Bh_6.2.2 h (by decide)) rfl (fun rh_7 αh_7 Hh_7 Lh_7 ph_7 Bh_7 => ?_)
        exact q_iret C Bh_7 hr hlk Bh_7.2.2 dX11_entry_34
      ·
        have kbh_6 : hp_K α bh_6 = 3 := cw_k' Bh_6.2.2 (ph_6.2 bh_6 rfl)
        refine lv_astore (lv' := [(4, .ref bh_6), (0, .ref a0), (1, .int a1), (2, .int a2), (3, .int a3)]) hx hb dX11_entry_22 hl (by decide) rfl (fun ls hl => hp_n (n := 24) rfl ?_)
        refine lv_aload hx hb dX11_entry_24 (lv_at hl 0 rfl) (hp_n (n := 26) rfl ?_)
        refine lv_ifnonnull (tgt := 35) hx hb dX11_entry_26 (by decide) ?_
        refine lv_aload hx hb dX11_entry_35 (lv_at hl 0 rfl) (hp_n (n := 37) rfl ?_)
        refine lv_iload_n hx hb dX11_entry_37 rfl (lv_at hl 3 rfl) (hp_n (n := 38) rfl ?_)
        refine q_cq (pc' := 41) Bh_6 (hp_runV (As := [.int a2]) (rest := []) C Bh_6 (t_X2_wordAt Γ l α Bh_6.2.2.1 bh_6 (cw_k Bh_6.2.2 kbh_6) a2) lb_X2_wordAt lv_X2_wordAt lk_X11_170 (cw_k Bh_6.2.2 kbh_6) rfl (by decide) rfl hl.1 rfl (Nat.le_of_ble_eq_true rfl) dX11_entry_38 ⟨Nat.le_refl _, Nat.le_refl _⟩) (fun _ _ h => by rw [h.1]; exact Bh_6.2.2) rfl (fun rh_8 αh_8 Hh_8 Lh_8 ph_8 Bh_8 => ?_)
        rw [ph_8.1] at Bh_8
        rcases rh_8 with _ | bh_8
        ·
          refine lv_astoreN (lv' := [(5, .null), (4, .ref bh_6), (0, .ref a0), (1, .int a1), (2, .int a2), (3, .int a3)]) hx hb dX11_entry_41 hl (by decide) rfl (fun ls hl => hp_n (n := 43) rfl ?_)
          refine lv_aloadN hx hb dX11_entry_43 (lv_at hl 0 rfl) (hp_n (n := 45) rfl ?_)
          refine lv_ifnonnullN hx hb dX11_entry_45 (hp_n (n := 48) rfl ?_)
          refine lv_aload_n hx hb dX11_entry_48 rfl (lv_at hl 2 rfl) (hp_n (n := 49) rfl ?_)
          refine lv_iconst (v := 5) hx hb dX11_entry_49 (by decide) (hp_n (n := 50) rfl ?_)
          refine q_ci (pc' := 53) Bh_8 (hp_runV (As := [.int 5]) (rest := []) C Bh_8 (t_X11_refuse Γ l α Bh_8.2.2.1 a0 (cw_k Bh_8.2.2 k0) 5) lb_X11_refuse lv_X11_refuse lk_X11_98 (cw_k Bh_8.2.2 k0) rfl (by decide) rfl hl.1 rfl (Nat.le_of_ble_eq_true rfl) dX11_entry_50 ⟨Nat.le_refl _, Nat.le_refl _⟩) (fun _ _ h => cw_tr Bh_8.2.2 h (by decide)) rfl (fun rh_9 αh_9 Hh_9 Lh_9 ph_9 Bh_9 => ?_)
          exact q_iret C Bh_9 hr hlk Bh_9.2.2 dX11_entry_53
        ·
          have kbh_8 : hp_K α bh_8 = 10 := cw_k' Bh_8.2.2 (ph_8.2 bh_8 rfl).1
          have nxh_8 := (ph_8.2 bh_8 rfl).2
          refine lv_astore (lv' := [(5, .ref bh_8), (4, .ref bh_6), (0, .ref a0), (1, .int a1), (2, .int a2), (3, .int a3)]) hx hb dX11_entry_41 hl (by decide) rfl (fun ls hl => hp_n (n := 43) rfl ?_)
          refine lv_aload hx hb dX11_entry_43 (lv_at hl 0 rfl) (hp_n (n := 45) rfl ?_)
          refine lv_ifnonnull (tgt := 54) hx hb dX11_entry_45 (by decide) ?_
          refine lv_iload_n hx hb dX11_entry_54 rfl (lv_at hl 5 rfl) (hp_n (n := 55) rfl ?_)
          refine lv_if_ne (tgt := 68) hx hb dX11_entry_55 (by decide) (fun c_10 => ?_) (fun c_10 => hp_n (n := 58) rfl ?_)
          ·
            have jc_10 := il_ne c_10
            refine lv_iload_n hx hb dX11_entry_68 rfl (lv_at hl 5 rfl) (hp_n (n := 69) rfl ?_)
            refine lv_iconst (v := 1) hx hb dX11_entry_69 (by decide) (hp_n (n := 70) rfl ?_)
            refine lv_icmp_ne (tgt := 84) hx hb dX11_entry_70 (by decide) (fun c_11 => ?_) (fun c_11 => hp_n (n := 73) rfl ?_)
            ·
              have jc_11 := il_ne c_11
              refine lv_iload_n hx hb dX11_entry_84 rfl (lv_at hl 5 rfl) (hp_n (n := 85) rfl ?_)
              refine lv_iconst (v := 2) hx hb dX11_entry_85 (by decide) (hp_n (n := 86) rfl ?_)
              refine lv_isub hx hb dX11_entry_86 (hp_n (n := 87) rfl (lv_topi (fun x_12 ex_12 => ?_)))
              refine lv_aload hx hb dX11_entry_87 (lv_at hl 0 rfl) (hp_n (n := 89) rfl ?_)
              refine q_geti (κ := 10) (k := 1) (φ := 501) (pc' := 92) C Bh_8 (cw_k Bh_8.2.2 kbh_8) fl_X11_150 rfl rfl rfl dX11_entry_89 rfl (fun x_13 ex_13 => ?_)
              refine lv_icmp_ge (tgt := 110) hx hb dX11_entry_92 (by decide) (fun c_14 => ?_) (fun c_14 => hp_n (n := 95) rfl ?_)
              ·
                have jc_14 := il_le c_14
                refine lv_aload_n hx hb dX11_entry_110 rfl (lv_at hl 2 rfl) (hp_n (n := 111) rfl ?_)
                refine lv_iconst (v := 5) hx hb dX11_entry_111 (by decide) (hp_n (n := 112) rfl ?_)
                refine q_ci (pc' := 115) Bh_8 (hp_runV (As := [.int 5]) (rest := []) C Bh_8 (t_X11_refuse Γ l α Bh_8.2.2.1 a0 (cw_k Bh_8.2.2 k0) 5) lb_X11_refuse lv_X11_refuse lk_X11_98 (cw_k Bh_8.2.2 k0) rfl (by decide) rfl hl.1 rfl (Nat.le_of_ble_eq_true rfl) dX11_entry_112 ⟨Nat.le_refl _, Nat.le_refl _⟩) (fun _ _ h => cw_tr Bh_8.2.2 h (by decide)) rfl (fun rh_15 αh_15 Hh_15 Lh_15 ph_15 Bh_15 => ?_)
                exact q_iret C Bh_15 hr hlk Bh_15.2.2 dX11_entry_115
              ·
                have jc_14 := il_nle c_14
                refine lv_aload_n hx hb dX11_entry_95 rfl (lv_at hl 2 rfl) (hp_n (n := 96) rfl ?_)
                refine lv_aload hx hb dX11_entry_96 (lv_at hl 0 rfl) (hp_n (n := 98) rfl ?_)
                refine lv_iload_n hx hb dX11_entry_98 rfl (lv_at hl 5 rfl) (hp_n (n := 99) rfl ?_)
                refine lv_iconst (v := 2) hx hb dX11_entry_99 (by decide) (hp_n (n := 100) rfl ?_)
                refine lv_isub hx hb dX11_entry_100 (hp_n (n := 101) rfl (lv_topi (fun x_16 ex_16 => ?_)))
                refine q_ci (pc' := 104) Bh_8 (hp_runV (As := [.int x_16]) (rest := [.ref a0]) C Bh_8 (t_X9_letterAt Γ l α Bh_8.2.2.1 bh_8 (cw_k Bh_8.2.2 kbh_8) x_16) lb_X9_letterAt lv_X9_letterAt lk_X11_177 (cw_k Bh_8.2.2 kbh_8) rfl (by decide) rfl hl.1 rfl (Nat.le_of_ble_eq_true rfl) dX11_entry_101 ⟨Nat.le_refl _, Nat.le_refl _⟩) (fun _ _ h => by rw [h]; exact Bh_8.2.2) rfl (fun rh_17 αh_17 Hh_17 Lh_17 ph_17 Bh_17 => ?_)
                rw [ph_17] at Bh_17
                refine q_ci (pc' := 107) Bh_17 (hp_runV (As := [.int rh_17]) (rest := []) C Bh_17 (t_X11_answer Γ l α Bh_17.2.2.1 a0 (cw_k Bh_17.2.2 k0) rh_17) lb_X11_answer lv_X11_answer lk_X11_115 (cw_k Bh_17.2.2 k0) rfl (by decide) rfl hl.1 rfl (Nat.le_of_ble_eq_true rfl) dX11_entry_104 ⟨Nat.le_refl _, Nat.le_refl _⟩) (fun _ _ h => cw_tr Bh_17.2.2 h (by decide)) rfl (fun rh_18 αh_18 Hh_18 Lh_18 ph_18 Bh_18 => ?_)
                refine lv_goto (tgt := 115) hx hb dX11_entry_107 (by decide) ?_
                exact q_iret C Bh_18 hr hlk Bh_18.2.2 dX11_entry_115
            ·
              have jc_11 := il_eq c_11
              refine lv_aload_n hx hb dX11_entry_73 rfl (lv_at hl 2 rfl) (hp_n (n := 74) rfl ?_)
              refine lv_aload hx hb dX11_entry_74 (lv_at hl 1 rfl) (hp_n (n := 76) rfl ?_)
              refine lv_iload_n hx hb dX11_entry_76 rfl (lv_at hl 4 rfl) (hp_n (n := 77) rfl ?_)
              refine q_ci (pc' := 80) Bh_8 (hp_runV (As := [.int a2]) (rest := [.ref a0]) C Bh_8 (t_X2_markAt Γ l α Bh_8.2.2.1 bh_6 (cw_k Bh_8.2.2 kbh_6) a2) lb_X2_markAt lv_X2_markAt lk_X11_174 (cw_k Bh_8.2.2 kbh_6) rfl (by decide) rfl hl.1 rfl (Nat.le_of_ble_eq_true rfl) dX11_entry_77 ⟨Nat.le_refl _, Nat.le_refl _⟩) (fun _ _ h => by rw [h]; exact Bh_8.2.2) rfl (fun rh_19 αh_19 Hh_19 Lh_19 ph_19 Bh_19 => ?_)
              rw [ph_19] at Bh_19
              refine q_ci (pc' := 83) Bh_19 (hp_runV (As := [.int rh_19]) (rest := []) C Bh_19 (t_X11_answer Γ l α Bh_19.2.2.1 a0 (cw_k Bh_19.2.2 k0) rh_19) lb_X11_answer lv_X11_answer lk_X11_115 (cw_k Bh_19.2.2 k0) rfl (by decide) rfl hl.1 rfl (Nat.le_of_ble_eq_true rfl) dX11_entry_80 ⟨Nat.le_refl _, Nat.le_refl _⟩) (fun _ _ h => cw_tr Bh_19.2.2 h (by decide)) rfl (fun rh_20 αh_20 Hh_20 Lh_20 ph_20 Bh_20 => ?_)
              exact q_iret C Bh_20 hr hlk Bh_20.2.2 dX11_entry_83
          ·
            have jc_10 := il_eq c_10
            refine lv_aload_n hx hb dX11_entry_58 rfl (lv_at hl 2 rfl) (hp_n (n := 59) rfl ?_)
            refine lv_aload hx hb dX11_entry_59 (lv_at hl 0 rfl) (hp_n (n := 61) rfl ?_)
            refine q_geti (κ := 10) (k := 1) (φ := 501) (pc' := 64) C Bh_8 (cw_k Bh_8.2.2 kbh_8) fl_X11_150 rfl rfl rfl dX11_entry_61 rfl (fun x_21 ex_21 => ?_)
            refine q_ci (pc' := 67) Bh_8 (hp_runV (As := [.int x_21]) (rest := []) C Bh_8 (t_X11_answer Γ l α Bh_8.2.2.1 a0 (cw_k Bh_8.2.2 k0) x_21) lb_X11_answer lv_X11_answer lk_X11_115 (cw_k Bh_8.2.2 k0) rfl (by decide) rfl hl.1 rfl (Nat.le_of_ble_eq_true rfl) dX11_entry_64 ⟨Nat.le_refl _, Nat.le_refl _⟩) (fun _ _ h => cw_tr Bh_8.2.2 h (by decide)) rfl (fun rh_22 αh_22 Hh_22 Lh_22 ph_22 Bh_22 => ?_)
            exact q_iret C Bh_22 hr hlk Bh_22.2.2 dX11_entry_67
    ·
      have jc_4 := il_nle c_4
      exact J8 s.heap [] B ls (lv_sub hl [0] rfl)
abbrev w_X11_head : cw_W := ([600], [], [33], [])
set_option maxRecDepth 100000 in
set_option maxHeartbeats 4000000 in
theorem t_X11_head (Γ : hp_G) (l : Launch) (α : hp_T) (g : GC α) (a0 : Nat) (k0 : hp_K α a0 = 12) (a1 : Int32) (a2 : Int32) : Met l yX11_head (hp_ws yX11_head cX11_head 5 (some .int)) (hp_rm 3 0 0) (hp_Pc Γ α [.ref a0, .int a1, .int a2]) (hp_Qi Γ (fun r β => cw w_X11_head α β)) 0 0 (hp_A Γ) := by
  refine hp_start (by decide) ?_
  intro p e s m below meth c C hr hlk B0 hnm
  have C : hp_C Γ p m c cX11_head 5 s ([.ref a0, .int a1, .int a2] : List Value).toArray RX11 := C
  have hx := C.1.1
  have hb := C.1.2.1
  have hown := C.1.2.2.2.1
  have hts := C.1.2.2.2.2
  have B : hp_B Γ (cw w_X11_head) s α α s.heap [] := ⟨B0.1, B0.2.1, cw_rf g⟩
  have lit0 : (0 : Int32).toInt = 0 := by decide
  have hl := lv_entry ([.ref a0, .int a1, .int a2]) (n := 5) (Nat.le_of_ble_eq_true rfl)
  show W p l e (hp_rm 3 0 0) s m ([.ref a0, .int a1, .int a2] : List Value).toArray below meth c s.heap [] 0 0 (MQ below (hp_Qi Γ (fun r β => cw w_X11_head α β)) ([.ref a0, .int a1, .int a2] : List Value).toArray s 0 0 (hp_A Γ)) (entryFrame m ([.ref a0, .int a1, .int a2] : List Value).toArray 5)
  rw [lg_entry_eq]
  generalize (lg_sl ([.ref a0, .int a1, .int a2]) ++ List.replicate (5 - (lg_sl ([.ref a0, .int a1, .int a2])).length) Slot.unset).toArray = ls at hl ⊢
  have hl : lv_has ls 5 [(0, .ref a0), (1, .int a1), (2, .int a2)] := hl
  refine lv_aload_n hx hb dX11_head_0 rfl (lv_at hl 0 rfl) (hp_n (n := 1) rfl ?_)
  refine q_getr (κ := 12) (k := 1) (φ := 601) (pc' := 4) C B (cw_k B.2.2 k0) fl_X11_16 rfl rfl rfl (cw_r B.2.2 k0 rfl rfl (by decide) (by decide)) dX11_head_1 rfl (fun b_1 eb_1 kb_1 => ?_)
  refine lv_iload_n hx hb dX11_head_4 rfl (lv_at hl 1 rfl) (hp_n (n := 5) rfl ?_)
  refine q_cq (pc' := 8) B (hp_runV (As := [.int a1]) (rest := []) C B (t_X10_logAt Γ l α B.2.2.1 b_1 (cw_k B.2.2 kb_1) a1) lb_X10_logAt lv_X10_logAt lk_X11_163 (cw_k B.2.2 kb_1) rfl (by decide) rfl hl.1 rfl (Nat.le_of_ble_eq_true rfl) dX11_head_5 ⟨Nat.le_refl _, Nat.le_refl _⟩) (fun _ _ h => by rw [h.1]; exact B.2.2) rfl (fun rh_2 αh_2 Hh_2 Lh_2 ph_2 Bh_2 => ?_)
  rw [ph_2.1] at Bh_2
  rcases rh_2 with _ | bh_2
  ·
    refine lv_astore_nN (lv' := [(3, .null), (0, .ref a0), (1, .int a1), (2, .int a2)]) hx hb dX11_head_8 rfl hl (by decide) rfl (fun ls hl => hp_n (n := 9) rfl ?_)
    refine lv_aload_nN hx hb dX11_head_9 rfl (lv_at hl 0 rfl) (hp_n (n := 10) rfl ?_)
    refine lv_iconst (v := 0) hx hb dX11_head_10 (by decide) (hp_n (n := 11) rfl ?_)
    refine lv_iload_n hx hb dX11_head_11 rfl (lv_at hl 3 rfl) (hp_n (n := 12) rfl ?_)
    refine q_ci (pc' := 15) Bh_2 (hp_runS (As := [va_rf none, .int 0, .int a2]) (rest := []) C Bh_2 (t_X11_wrongGrowth Γ l α Bh_2.2.2.1 none (fun b h => by cases h) 0 a2) lb_X11_wrongGrowth ls_X11_wrongGrowth lk_X11_180 rfl (by decide) rfl hl.1 rfl (Nat.le_of_ble_eq_true rfl) dX11_head_12 ⟨Nat.le_refl _, Nat.le_refl _⟩) (fun _ _ h => by rw [h]; exact Bh_2.2.2) rfl (fun rh_3 αh_3 Hh_3 Lh_3 ph_3 Bh_3 => ?_)
    rw [ph_3] at Bh_3
    refine lv_istore (lv' := [(4, .int rh_3), (3, .null), (0, .ref a0), (1, .int a1), (2, .int a2)]) hx hb dX11_head_15 hl (by decide) rfl (fun ls hl => hp_n (n := 17) rfl ?_)
    refine lv_iload hx hb dX11_head_17 (lv_at hl 0 rfl) (hp_n (n := 19) rfl ?_)
    refine lv_if_eq (tgt := 31) hx hb dX11_head_19 (by decide) (fun c_4 => ?_) (fun c_4 => hp_n (n := 22) rfl ?_)
    ·
      have jc_4 := il_eq c_4
      refine lv_aload_n hx hb dX11_head_31 rfl (lv_at hl 2 rfl) (hp_n (n := 32) rfl ?_)
      refine lv_aload_n hx hb dX11_head_32 rfl (lv_at hl 2 rfl) (hp_n (n := 33) rfl ?_)
      refine q_gets (κ := 12) (k := 1) (φ := 601) (pc' := 36) C Bh_3 (cw_k Bh_3.2.2 k0) fl_X11_16 rfl rfl rfl eb_1 dX11_head_33 rfl ?_
      refine lv_aload_nN hx hb dX11_head_36 rfl (lv_at hl 1 rfl) (hp_n (n := 37) rfl ?_)
      refine lv_iload_n hx hb dX11_head_37 rfl (lv_at hl 4 rfl) (hp_n (n := 38) rfl ?_)
      refine q_ci (pc' := 41) Bh_3 (hp_runV (As := [va_rf none, .int a2]) (rest := [.ref a0]) C Bh_3 (t_X10_headOf Γ l α Bh_3.2.2.1 b_1 (cw_k Bh_3.2.2 kb_1) none (fun b h => by cases h) a2) lb_X10_headOf lv_X10_headOf lk_X11_184 (cw_k Bh_3.2.2 kb_1) rfl (by decide) rfl hl.1 rfl (Nat.le_of_ble_eq_true rfl) dX11_head_38 ⟨Nat.le_refl _, Nat.le_refl _⟩) (fun _ _ h => cw_tr Bh_3.2.2 h (by decide)) rfl (fun rh_5 αh_5 Hh_5 Lh_5 ph_5 Bh_5 => ?_)
      refine q_ci (pc' := 44) Bh_5 (hp_runV (As := [.int rh_5]) (rest := []) C Bh_5 (t_X11_answer Γ l αh_5 Bh_5.2.2.1 a0 (cw_k Bh_5.2.2 k0) rh_5) lb_X11_answer lv_X11_answer lk_X11_115 (cw_k Bh_5.2.2 k0) rfl (by decide) rfl hl.1 rfl (Nat.le_of_ble_eq_true rfl) dX11_head_41 ⟨Nat.le_refl _, Nat.le_refl _⟩) (fun _ _ h => cw_tr Bh_5.2.2 h (by decide)) rfl (fun rh_6 αh_6 Hh_6 Lh_6 ph_6 Bh_6 => ?_)
      exact q_iret C Bh_6 hr hlk Bh_6.2.2 dX11_head_44
    ·
      have jc_4 := il_ne c_4
      refine lv_aload_n hx hb dX11_head_22 rfl (lv_at hl 2 rfl) (hp_n (n := 23) rfl ?_)
      refine lv_iload hx hb dX11_head_23 (lv_at hl 0 rfl) (hp_n (n := 25) rfl ?_)
      refine q_ci (pc' := 28) Bh_3 (hp_runV (As := [.int rh_3]) (rest := []) C Bh_3 (t_X11_refuse Γ l α Bh_3.2.2.1 a0 (cw_k Bh_3.2.2 k0) rh_3) lb_X11_refuse lv_X11_refuse lk_X11_98 (cw_k Bh_3.2.2 k0) rfl (by decide) rfl hl.1 rfl (Nat.le_of_ble_eq_true rfl) dX11_head_25 ⟨Nat.le_refl _, Nat.le_refl _⟩) (fun _ _ h => cw_tr Bh_3.2.2 h (by decide)) rfl (fun rh_7 αh_7 Hh_7 Lh_7 ph_7 Bh_7 => ?_)
      refine lv_goto (tgt := 44) hx hb dX11_head_28 (by decide) ?_
      exact q_iret C Bh_7 hr hlk Bh_7.2.2 dX11_head_44
  ·
    have kbh_2 : hp_K α bh_2 = 3 := cw_k' Bh_2.2.2 (ph_2.2 bh_2 rfl)
    refine lv_astore_n (lv' := [(3, .ref bh_2), (0, .ref a0), (1, .int a1), (2, .int a2)]) hx hb dX11_head_8 rfl hl (by decide) rfl (fun ls hl => hp_n (n := 9) rfl ?_)
    refine lv_aload_n hx hb dX11_head_9 rfl (lv_at hl 0 rfl) (hp_n (n := 10) rfl ?_)
    refine lv_iconst (v := 0) hx hb dX11_head_10 (by decide) (hp_n (n := 11) rfl ?_)
    refine lv_iload_n hx hb dX11_head_11 rfl (lv_at hl 3 rfl) (hp_n (n := 12) rfl ?_)
    refine q_ci (pc' := 15) Bh_2 (hp_runS (As := [va_rf (some bh_2), .int 0, .int a2]) (rest := []) C Bh_2 (t_X11_wrongGrowth Γ l α Bh_2.2.2.1 (some bh_2) (fun b h => by cases h; exact (cw_k Bh_2.2.2 kbh_2)) 0 a2) lb_X11_wrongGrowth ls_X11_wrongGrowth lk_X11_180 rfl (by decide) rfl hl.1 rfl (Nat.le_of_ble_eq_true rfl) dX11_head_12 ⟨Nat.le_refl _, Nat.le_refl _⟩) (fun _ _ h => by rw [h]; exact Bh_2.2.2) rfl (fun rh_8 αh_8 Hh_8 Lh_8 ph_8 Bh_8 => ?_)
    rw [ph_8] at Bh_8
    refine lv_istore (lv' := [(4, .int rh_8), (3, .ref bh_2), (0, .ref a0), (1, .int a1), (2, .int a2)]) hx hb dX11_head_15 hl (by decide) rfl (fun ls hl => hp_n (n := 17) rfl ?_)
    refine lv_iload hx hb dX11_head_17 (lv_at hl 0 rfl) (hp_n (n := 19) rfl ?_)
    refine lv_if_eq (tgt := 31) hx hb dX11_head_19 (by decide) (fun c_9 => ?_) (fun c_9 => hp_n (n := 22) rfl ?_)
    ·
      have jc_9 := il_eq c_9
      refine lv_aload_n hx hb dX11_head_31 rfl (lv_at hl 2 rfl) (hp_n (n := 32) rfl ?_)
      refine lv_aload_n hx hb dX11_head_32 rfl (lv_at hl 2 rfl) (hp_n (n := 33) rfl ?_)
      refine q_gets (κ := 12) (k := 1) (φ := 601) (pc' := 36) C Bh_8 (cw_k Bh_8.2.2 k0) fl_X11_16 rfl rfl rfl eb_1 dX11_head_33 rfl ?_
      refine lv_aload_n hx hb dX11_head_36 rfl (lv_at hl 1 rfl) (hp_n (n := 37) rfl ?_)
      refine lv_iload_n hx hb dX11_head_37 rfl (lv_at hl 4 rfl) (hp_n (n := 38) rfl ?_)
      refine q_ci (pc' := 41) Bh_8 (hp_runV (As := [va_rf (some bh_2), .int a2]) (rest := [.ref a0]) C Bh_8 (t_X10_headOf Γ l α Bh_8.2.2.1 b_1 (cw_k Bh_8.2.2 kb_1) (some bh_2) (fun b h => by cases h; exact (cw_k Bh_8.2.2 kbh_2)) a2) lb_X10_headOf lv_X10_headOf lk_X11_184 (cw_k Bh_8.2.2 kb_1) rfl (by decide) rfl hl.1 rfl (Nat.le_of_ble_eq_true rfl) dX11_head_38 ⟨Nat.le_refl _, Nat.le_refl _⟩) (fun _ _ h => cw_tr Bh_8.2.2 h (by decide)) rfl (fun rh_10 αh_10 Hh_10 Lh_10 ph_10 Bh_10 => ?_)
      refine q_ci (pc' := 44) Bh_10 (hp_runV (As := [.int rh_10]) (rest := []) C Bh_10 (t_X11_answer Γ l αh_10 Bh_10.2.2.1 a0 (cw_k Bh_10.2.2 k0) rh_10) lb_X11_answer lv_X11_answer lk_X11_115 (cw_k Bh_10.2.2 k0) rfl (by decide) rfl hl.1 rfl (Nat.le_of_ble_eq_true rfl) dX11_head_41 ⟨Nat.le_refl _, Nat.le_refl _⟩) (fun _ _ h => cw_tr Bh_10.2.2 h (by decide)) rfl (fun rh_11 αh_11 Hh_11 Lh_11 ph_11 Bh_11 => ?_)
      exact q_iret C Bh_11 hr hlk Bh_11.2.2 dX11_head_44
    ·
      have jc_9 := il_ne c_9
      refine lv_aload_n hx hb dX11_head_22 rfl (lv_at hl 2 rfl) (hp_n (n := 23) rfl ?_)
      refine lv_iload hx hb dX11_head_23 (lv_at hl 0 rfl) (hp_n (n := 25) rfl ?_)
      refine q_ci (pc' := 28) Bh_8 (hp_runV (As := [.int rh_8]) (rest := []) C Bh_8 (t_X11_refuse Γ l α Bh_8.2.2.1 a0 (cw_k Bh_8.2.2 k0) rh_8) lb_X11_refuse lv_X11_refuse lk_X11_98 (cw_k Bh_8.2.2 k0) rfl (by decide) rfl hl.1 rfl (Nat.le_of_ble_eq_true rfl) dX11_head_25 ⟨Nat.le_refl _, Nat.le_refl _⟩) (fun _ _ h => cw_tr Bh_8.2.2 h (by decide)) rfl (fun rh_12 αh_12 Hh_12 Lh_12 ph_12 Bh_12 => ?_)
      refine lv_goto (tgt := 44) hx hb dX11_head_28 (by decide) ?_
      exact q_iret C Bh_12 hr hlk Bh_12.2.2 dX11_head_44
abbrev w_X11_join : cw_W := ([600], [], [], [])
set_option maxRecDepth 100000 in
set_option maxHeartbeats 4000000 in
theorem t_X11_join (Γ : hp_G) (l : Launch) (α : hp_T) (g : GC α) (a0 : Nat) (k0 : hp_K α a0 = 12) (a1 : Int32) (a2 : Int32) : Met l yX11_join (hp_ws yX11_join cX11_join 3 (some .int)) (hp_rm 1 0 0) (hp_Pc Γ α [.ref a0, .int a1, .int a2]) (hp_Qi Γ (fun r β => cw w_X11_join α β)) 0 0 (hp_A Γ) := by
  refine hp_start (by decide) ?_
  intro p e s m below meth c C hr hlk B0 hnm
  have C : hp_C Γ p m c cX11_join 3 s ([.ref a0, .int a1, .int a2] : List Value).toArray RX11 := C
  have hx := C.1.1
  have hb := C.1.2.1
  have hown := C.1.2.2.2.1
  have hts := C.1.2.2.2.2
  have B : hp_B Γ (cw w_X11_join) s α α s.heap [] := ⟨B0.1, B0.2.1, cw_rf g⟩
  have lit0 : (0 : Int32).toInt = 0 := by decide
  have lit1 : (1 : Int32).toInt = 1 := by decide
  have hl := lv_entry ([.ref a0, .int a1, .int a2]) (n := 3) (Nat.le_of_ble_eq_true rfl)
  show W p l e (hp_rm 1 0 0) s m ([.ref a0, .int a1, .int a2] : List Value).toArray below meth c s.heap [] 0 0 (MQ below (hp_Qi Γ (fun r β => cw w_X11_join α β)) ([.ref a0, .int a1, .int a2] : List Value).toArray s 0 0 (hp_A Γ)) (entryFrame m ([.ref a0, .int a1, .int a2] : List Value).toArray 3)
  rw [lg_entry_eq]
  generalize (lg_sl ([.ref a0, .int a1, .int a2]) ++ List.replicate (3 - (lg_sl ([.ref a0, .int a1, .int a2])).length) Slot.unset).toArray = ls at hl ⊢
  have hl : lv_has ls 3 [(0, .ref a0), (1, .int a1), (2, .int a2)] := hl
  refine lv_aload_n hx hb dX11_join_0 rfl (lv_at hl 0 rfl) (hp_n (n := 1) rfl ?_)
  refine lv_iload_n hx hb dX11_join_1 rfl (lv_at hl 1 rfl) (hp_n (n := 2) rfl ?_)
  refine q_ci (pc' := 5) B (hp_runV (As := [.int a1]) (rest := []) C B (t_X11_isMark Γ l α B.2.2.1 a0 (cw_k B.2.2 k0) a1) lb_X11_isMark lv_X11_isMark lk_X11_188 (cw_k B.2.2 k0) rfl (by decide) rfl hl.1 rfl (Nat.le_of_ble_eq_true rfl) dX11_join_2 ⟨Nat.le_refl _, Nat.le_refl _⟩) (fun _ _ h => by rw [h.1]; exact B.2.2) rfl (fun rh_1 αh_1 Hh_1 Lh_1 ph_1 Bh_1 => ?_)
  rw [ph_1.1] at Bh_1
  have zh_1 := ph_1.2
  have J16 : ∀ (Hh_2 : Heap) (Lh_2 : List Loc) (Bh_2 : hp_B Γ (cw w_X11_join) s α α Hh_2 Lh_2) (ls : Array Slot) (hl : lv_has ls 3 [(0, .ref a0)]), W p l e (hp_rm 1 0 0) s m ([.ref a0, .int a1, .int a2] : List Value).toArray below meth c Hh_2 Lh_2 0 0 (MQ below (hp_Qi Γ (fun r β => cw w_X11_join α β)) ([.ref a0, .int a1, .int a2] : List Value).toArray s 0 0 (hp_A Γ)) (F0 m 16 ls []) := by
    intro Hh_2 Lh_2 Bh_2 ls hl
    refine lv_aload_n hx hb dX11_join_16 rfl (lv_at hl 0 rfl) (hp_n (n := 17) rfl ?_)
    refine lv_iconst (v := 1) hx hb dX11_join_17 (by decide) (hp_n (n := 18) rfl ?_)
    refine q_ci (pc' := 21) Bh_2 (hp_runV (As := [.int 1]) (rest := []) C Bh_2 (t_X11_refuse Γ l α Bh_2.2.2.1 a0 (cw_k Bh_2.2.2 k0) 1) lb_X11_refuse lv_X11_refuse lk_X11_98 (cw_k Bh_2.2.2 k0) rfl (by decide) rfl hl.1 rfl (Nat.le_of_ble_eq_true rfl) dX11_join_18 ⟨Nat.le_refl _, Nat.le_refl _⟩) (fun _ _ h => cw_tr Bh_2.2.2 h (by decide)) rfl (fun rh_3 αh_3 Hh_3 Lh_3 ph_3 Bh_3 => ?_)
    exact q_iret C Bh_3 hr hlk Bh_3.2.2 dX11_join_21
  refine lv_if_eq (tgt := 16) hx hb dX11_join_5 (by decide) (fun c_4 => ?_) (fun c_4 => hp_n (n := 8) rfl ?_)
  ·
    have jc_4 := il_eq c_4
    exact J16 Hh_1 Lh_1 Bh_1 ls (lv_sub hl [0] rfl)
  ·
    have jc_4 := il_ne c_4
    refine lv_aload_n hx hb dX11_join_8 rfl (lv_at hl 0 rfl) (hp_n (n := 9) rfl ?_)
    refine lv_iload_n hx hb dX11_join_9 rfl (lv_at hl 2 rfl) (hp_n (n := 10) rfl ?_)
    refine q_ci (pc' := 13) Bh_1 (hp_runV (As := [.int a2]) (rest := []) C Bh_1 (t_X11_isMark Γ l α Bh_1.2.2.1 a0 (cw_k Bh_1.2.2 k0) a2) lb_X11_isMark lv_X11_isMark lk_X11_188 (cw_k Bh_1.2.2 k0) rfl (by decide) rfl hl.1 rfl (Nat.le_of_ble_eq_true rfl) dX11_join_10 ⟨Nat.le_refl _, Nat.le_refl _⟩) (fun _ _ h => by rw [h.1]; exact Bh_1.2.2) rfl (fun rh_5 αh_5 Hh_5 Lh_5 ph_5 Bh_5 => ?_)
    rw [ph_5.1] at Bh_5
    have zh_5 := ph_5.2
    refine lv_if_ne (tgt := 22) hx hb dX11_join_13 (by decide) (fun c_6 => ?_) (fun c_6 => hp_n (n := 16) rfl ?_)
    ·
      have jc_6 := il_ne c_6
      refine lv_aload_n hx hb dX11_join_22 rfl (lv_at hl 0 rfl) (hp_n (n := 23) rfl ?_)
      refine lv_aload_n hx hb dX11_join_23 rfl (lv_at hl 0 rfl) (hp_n (n := 24) rfl ?_)
      refine q_getr (κ := 12) (k := 1) (φ := 601) (pc' := 27) C Bh_5 (cw_k Bh_5.2.2 k0) fl_X11_16 rfl rfl rfl (cw_r Bh_5.2.2 k0 rfl rfl (by decide) (by decide)) dX11_join_24 rfl (fun b_7 eb_7 kb_7 => ?_)
      refine q_geti (κ := 11) (k := 0) (φ := 550) (pc' := 30) C Bh_5 (cw_k Bh_5.2.2 kb_7) fl_X11_122 rfl rfl rfl dX11_join_27 rfl (fun x_8 ex_8 => ?_)
      refine lv_iload_n hx hb dX11_join_30 rfl (lv_at hl 1 rfl) (hp_n (n := 31) rfl ?_)
      refine lv_iload_n hx hb dX11_join_31 rfl (lv_at hl 2 rfl) (hp_n (n := 32) rfl ?_)
      refine q_ci (pc' := 35) Bh_5 (hp_runS (As := [.int x_8, .int a1, .int a2]) (rest := [.ref a0]) C Bh_5 (t_X11_markOfTwo Γ l α Bh_5.2.2.1 x_8 a1 a2) lb_X11_markOfTwo ls_X11_markOfTwo lk_X11_191 rfl (by decide) rfl hl.1 rfl (Nat.le_of_ble_eq_true rfl) dX11_join_32 ⟨Nat.le_refl _, Nat.le_refl _⟩) (fun _ _ h => by rw [h]; exact Bh_5.2.2) rfl (fun rh_9 αh_9 Hh_9 Lh_9 ph_9 Bh_9 => ?_)
      rw [ph_9] at Bh_9
      refine q_ci (pc' := 38) Bh_9 (hp_runV (As := [.int rh_9]) (rest := []) C Bh_9 (t_X11_answer Γ l α Bh_9.2.2.1 a0 (cw_k Bh_9.2.2 k0) rh_9) lb_X11_answer lv_X11_answer lk_X11_115 (cw_k Bh_9.2.2 k0) rfl (by decide) rfl hl.1 rfl (Nat.le_of_ble_eq_true rfl) dX11_join_35 ⟨Nat.le_refl _, Nat.le_refl _⟩) (fun _ _ h => cw_tr Bh_9.2.2 h (by decide)) rfl (fun rh_10 αh_10 Hh_10 Lh_10 ph_10 Bh_10 => ?_)
      exact q_iret C Bh_10 hr hlk Bh_10.2.2 dX11_join_38
    ·
      have jc_6 := il_eq c_6
      exact J16 Hh_5 Lh_5 Bh_5 ls (lv_sub hl [0] rfl)
abbrev w_X11_mark : cw_W := ([600], [], [], [])
set_option maxRecDepth 100000 in
set_option maxHeartbeats 4000000 in
theorem t_X11_mark (Γ : hp_G) (l : Launch) (α : hp_T) (g : GC α) (a0 : Nat) (k0 : hp_K α a0 = 12) : Met l yX11_mark (hp_ws yX11_mark cX11_mark 1 (some .int)) (hp_rm 2 0 0) (hp_Pc Γ α [.ref a0]) (hp_Qi Γ (fun r β => cw w_X11_mark α β)) 0 0 (hp_A Γ) := by
  refine hp_start (by decide) ?_
  intro p e s m below meth c C hr hlk B0 hnm
  have C : hp_C Γ p m c cX11_mark 1 s ([.ref a0] : List Value).toArray RX11 := C
  have hx := C.1.1
  have hb := C.1.2.1
  have hown := C.1.2.2.2.1
  have hts := C.1.2.2.2.2
  have B : hp_B Γ (cw w_X11_mark) s α α s.heap [] := ⟨B0.1, B0.2.1, cw_rf g⟩
  have hl := lv_entry ([.ref a0]) (n := 1) (Nat.le_of_ble_eq_true rfl)
  show W p l e (hp_rm 2 0 0) s m ([.ref a0] : List Value).toArray below meth c s.heap [] 0 0 (MQ below (hp_Qi Γ (fun r β => cw w_X11_mark α β)) ([.ref a0] : List Value).toArray s 0 0 (hp_A Γ)) (entryFrame m ([.ref a0] : List Value).toArray 1)
  rw [lg_entry_eq]
  generalize (lg_sl ([.ref a0]) ++ List.replicate (1 - (lg_sl ([.ref a0])).length) Slot.unset).toArray = ls at hl ⊢
  have hl : lv_has ls 1 [(0, .ref a0)] := hl
  refine lv_aload_n hx hb dX11_mark_0 rfl (lv_at hl 0 rfl) (hp_n (n := 1) rfl ?_)
  refine lv_aload_n hx hb dX11_mark_1 rfl (lv_at hl 0 rfl) (hp_n (n := 2) rfl ?_)
  refine q_getr (κ := 12) (k := 6) (φ := 606) (pc' := 5) C B (cw_k B.2.2 k0) fl_X11_40 rfl rfl rfl (cw_r B.2.2 k0 rfl rfl (by decide) (by decide)) dX11_mark_2 rfl (fun b_1 eb_1 kb_1 => ?_)
  refine lv_aload_n hx hb dX11_mark_5 rfl (lv_at hl 0 rfl) (hp_n (n := 6) rfl ?_)
  refine q_getr (κ := 12) (k := 1) (φ := 601) (pc' := 9) C B (cw_k B.2.2 k0) fl_X11_16 rfl rfl rfl (cw_r B.2.2 k0 rfl rfl (by decide) (by decide)) dX11_mark_6 rfl (fun b_2 eb_2 kb_2 => ?_)
  refine q_geti (κ := 11) (k := 0) (φ := 550) (pc' := 12) C B (cw_k B.2.2 kb_2) fl_X11_122 rfl rfl rfl dX11_mark_9 rfl (fun x_3 ex_3 => ?_)
  refine q_ci (pc' := 15) B (hp_runV (As := [.int x_3]) (rest := [.ref a0]) C B (t_X9_markBy Γ l α B.2.2.1 b_1 (cw_k B.2.2 kb_1) x_3) lb_X9_markBy lv_X9_markBy lk_X11_195 (cw_k B.2.2 kb_1) rfl (by decide) rfl hl.1 rfl (Nat.le_of_ble_eq_true rfl) dX11_mark_12 ⟨Nat.le_refl _, Nat.le_refl _⟩) (fun _ _ h => by rw [h]; exact B.2.2) rfl (fun rh_4 αh_4 Hh_4 Lh_4 ph_4 Bh_4 => ?_)
  rw [ph_4] at Bh_4
  refine q_ci (pc' := 18) Bh_4 (hp_runV (As := [.int rh_4]) (rest := []) C Bh_4 (t_X11_answer Γ l α Bh_4.2.2.1 a0 (cw_k Bh_4.2.2 k0) rh_4) lb_X11_answer lv_X11_answer lk_X11_115 (cw_k Bh_4.2.2 k0) rfl (by decide) rfl hl.1 rfl (Nat.le_of_ble_eq_true rfl) dX11_mark_15 ⟨Nat.le_refl _, Nat.le_refl _⟩) (fun _ _ h => cw_tr Bh_4.2.2 h (by decide)) rfl (fun rh_5 αh_5 Hh_5 Lh_5 ph_5 Bh_5 => ?_)
  exact q_iret C Bh_5 hr hlk Bh_5.2.2 dX11_mark_18
abbrev w_X11_frozen : cw_W := ([600], [], [33], [])
set_option maxRecDepth 100000 in
set_option maxHeartbeats 4000000 in
theorem t_X11_frozen (Γ : hp_G) (l : Launch) (α : hp_T) (g : GC α) (a0 : Nat) (k0 : hp_K α a0 = 12) (a1 : Int32) (a2 : Int32) : Met l yX11_frozen (hp_ws yX11_frozen cX11_frozen 4 (some .int)) (hp_rm 5 0 0) (hp_Pc Γ α [.ref a0, .int a1, .int a2]) (hp_Qi Γ (fun r β => cw w_X11_frozen α β)) 0 0 (hp_A Γ) := by
  refine hp_start (by decide) ?_
  intro p e s m below meth c C hr hlk B0 hnm
  have C : hp_C Γ p m c cX11_frozen 4 s ([.ref a0, .int a1, .int a2] : List Value).toArray RX11 := C
  have hx := C.1.1
  have hb := C.1.2.1
  have hown := C.1.2.2.2.1
  have hts := C.1.2.2.2.2
  have B : hp_B Γ (cw w_X11_frozen) s α α s.heap [] := ⟨B0.1, B0.2.1, cw_rf g⟩
  have lit0 : (0 : Int32).toInt = 0 := by decide
  have lit1 : (1 : Int32).toInt = 1 := by decide
  have lit2 : (2 : Int32).toInt = 2 := by decide
  have lit3 : (3 : Int32).toInt = 3 := by decide
  have lit4 : (4 : Int32).toInt = 4 := by decide
  have lit5 : (5 : Int32).toInt = 5 := by decide
  have hl := lv_entry ([.ref a0, .int a1, .int a2]) (n := 4) (Nat.le_of_ble_eq_true rfl)
  show W p l e (hp_rm 5 0 0) s m ([.ref a0, .int a1, .int a2] : List Value).toArray below meth c s.heap [] 0 0 (MQ below (hp_Qi Γ (fun r β => cw w_X11_frozen α β)) ([.ref a0, .int a1, .int a2] : List Value).toArray s 0 0 (hp_A Γ)) (entryFrame m ([.ref a0, .int a1, .int a2] : List Value).toArray 4)
  rw [lg_entry_eq]
  generalize (lg_sl ([.ref a0, .int a1, .int a2]) ++ List.replicate (4 - (lg_sl ([.ref a0, .int a1, .int a2])).length) Slot.unset).toArray = ls at hl ⊢
  have hl : lv_has ls 4 [(0, .ref a0), (1, .int a1), (2, .int a2)] := hl
  refine lv_iload_n hx hb dX11_frozen_0 rfl (lv_at hl 1 rfl) (hp_n (n := 1) rfl ?_)
  have J13 : ∀ (Hh_1 : Heap) (Lh_1 : List Loc) (Bh_1 : hp_B Γ (cw w_X11_frozen) s α α Hh_1 Lh_1) (ls : Array Slot) (hl : lv_has ls 4 [(0, .ref a0)]), W p l e (hp_rm 5 0 0) s m ([.ref a0, .int a1, .int a2] : List Value).toArray below meth c Hh_1 Lh_1 0 0 (MQ below (hp_Qi Γ (fun r β => cw w_X11_frozen α β)) ([.ref a0, .int a1, .int a2] : List Value).toArray s 0 0 (hp_A Γ)) (F0 m 13 ls []) := by
    intro Hh_1 Lh_1 Bh_1 ls hl
    refine lv_aload_n hx hb dX11_frozen_13 rfl (lv_at hl 0 rfl) (hp_n (n := 14) rfl ?_)
    refine lv_iconst (v := 1) hx hb dX11_frozen_14 (by decide) (hp_n (n := 15) rfl ?_)
    refine q_ci (pc' := 18) Bh_1 (hp_runV (As := [.int 1]) (rest := []) C Bh_1 (t_X11_refuse Γ l α Bh_1.2.2.1 a0 (cw_k Bh_1.2.2 k0) 1) lb_X11_refuse lv_X11_refuse lk_X11_98 (cw_k Bh_1.2.2 k0) rfl (by decide) rfl hl.1 rfl (Nat.le_of_ble_eq_true rfl) dX11_frozen_15 ⟨Nat.le_refl _, Nat.le_refl _⟩) (fun _ _ h => cw_tr Bh_1.2.2 h (by decide)) rfl (fun rh_2 αh_2 Hh_2 Lh_2 ph_2 Bh_2 => ?_)
    exact q_iret C Bh_2 hr hlk Bh_2.2.2 dX11_frozen_18
  refine lv_if_lt (tgt := 13) hx hb dX11_frozen_1 (by decide) (fun c_3 => ?_) (fun c_3 => hp_n (n := 4) rfl ?_)
  ·
    have jc_3 := il_lt c_3
    exact J13 s.heap [] B ls (lv_sub hl [0] rfl)
  ·
    have jc_3 := il_nlt c_3
    refine lv_iload_n hx hb dX11_frozen_4 rfl (lv_at hl 2 rfl) (hp_n (n := 5) rfl ?_)
    refine lv_if_lt (tgt := 13) hx hb dX11_frozen_5 (by decide) (fun c_4 => ?_) (fun c_4 => hp_n (n := 8) rfl ?_)
    ·
      have jc_4 := il_lt c_4
      exact J13 s.heap [] B ls (lv_sub hl [0] rfl)
    ·
      have jc_4 := il_nlt c_4
      refine lv_iload_n hx hb dX11_frozen_8 rfl (lv_at hl 2 rfl) (hp_n (n := 9) rfl ?_)
      refine lv_iconst (v := 4) hx hb dX11_frozen_9 (by decide) (hp_n (n := 10) rfl ?_)
      refine lv_icmp_le (tgt := 19) hx hb dX11_frozen_10 (by decide) (fun c_5 => ?_) (fun c_5 => hp_n (n := 13) rfl ?_)
      ·
        have jc_5 := il_le c_5
        refine lv_aload_n hx hb dX11_frozen_19 rfl (lv_at hl 0 rfl) (hp_n (n := 20) rfl ?_)
        refine q_getr (κ := 12) (k := 1) (φ := 601) (pc' := 23) C B (cw_k B.2.2 k0) fl_X11_16 rfl rfl rfl (cw_r B.2.2 k0 rfl rfl (by decide) (by decide)) dX11_frozen_20 rfl (fun b_6 eb_6 kb_6 => ?_)
        refine lv_iload_n hx hb dX11_frozen_23 rfl (lv_at hl 1 rfl) (hp_n (n := 24) rfl ?_)
        refine q_cq (pc' := 27) B (hp_runV (As := [.int a1]) (rest := []) C B (t_X10_frozenAt Γ l α B.2.2.1 b_6 (cw_k B.2.2 kb_6) a1) lb_X10_frozenAt lv_X10_frozenAt lk_X11_198 (cw_k B.2.2 kb_6) rfl (by decide) rfl hl.1 rfl (Nat.le_of_ble_eq_true rfl) dX11_frozen_24 ⟨Nat.le_refl _, Nat.le_refl _⟩) (fun _ _ h => by rw [h.1]; exact B.2.2) rfl (fun rh_7 αh_7 Hh_7 Lh_7 ph_7 Bh_7 => ?_)
        rw [ph_7.1] at Bh_7
        rcases rh_7 with _ | bh_7
        ·
          refine lv_astore_nN (lv' := [(3, .null), (0, .ref a0), (1, .int a1), (2, .int a2)]) hx hb dX11_frozen_27 rfl hl (by decide) rfl (fun ls hl => hp_n (n := 28) rfl ?_)
          refine lv_aload_nN hx hb dX11_frozen_28 rfl (lv_at hl 0 rfl) (hp_n (n := 29) rfl ?_)
          refine lv_ifnonnullN hx hb dX11_frozen_29 (hp_n (n := 32) rfl ?_)
          refine lv_aload_n hx hb dX11_frozen_32 rfl (lv_at hl 1 rfl) (hp_n (n := 33) rfl ?_)
          refine lv_iconst (v := 5) hx hb dX11_frozen_33 (by decide) (hp_n (n := 34) rfl ?_)
          refine q_ci (pc' := 37) Bh_7 (hp_runV (As := [.int 5]) (rest := []) C Bh_7 (t_X11_refuse Γ l α Bh_7.2.2.1 a0 (cw_k Bh_7.2.2 k0) 5) lb_X11_refuse lv_X11_refuse lk_X11_98 (cw_k Bh_7.2.2 k0) rfl (by decide) rfl hl.1 rfl (Nat.le_of_ble_eq_true rfl) dX11_frozen_34 ⟨Nat.le_refl _, Nat.le_refl _⟩) (fun _ _ h => cw_tr Bh_7.2.2 h (by decide)) rfl (fun rh_8 αh_8 Hh_8 Lh_8 ph_8 Bh_8 => ?_)
          exact q_iret C Bh_8 hr hlk Bh_8.2.2 dX11_frozen_37
        ·
          have kbh_7 : hp_K α bh_7 = 2 := cw_k' Bh_7.2.2 (ph_7.2 bh_7 rfl)
          refine lv_astore_n (lv' := [(3, .ref bh_7), (0, .ref a0), (1, .int a1), (2, .int a2)]) hx hb dX11_frozen_27 rfl hl (by decide) rfl (fun ls hl => hp_n (n := 28) rfl ?_)
          refine lv_aload_n hx hb dX11_frozen_28 rfl (lv_at hl 0 rfl) (hp_n (n := 29) rfl ?_)
          refine lv_ifnonnull (tgt := 38) hx hb dX11_frozen_29 (by decide) ?_
          refine lv_iload_n hx hb dX11_frozen_38 rfl (lv_at hl 3 rfl) (hp_n (n := 39) rfl ?_)
          by_cases c_9 : a2 = 0
          · have jc_9 := il_eq c_9
            refine lv_tableIn (off := 29) (tgt := 68) hx hb dX11_frozen_39 (by omega) (by omega) (by rw [jc_9, lit0]; rfl) (by decide) ?_
            refine lv_aload_n hx hb dX11_frozen_68 rfl (lv_at hl 1 rfl) (hp_n (n := 69) rfl ?_)
            refine lv_aload_n hx hb dX11_frozen_69 rfl (lv_at hl 0 rfl) (hp_n (n := 70) rfl ?_)
            refine q_geti (κ := 2) (k := 0) (φ := 100) (pc' := 73) C Bh_7 (cw_k Bh_7.2.2 kbh_7) fl_X11_202 rfl rfl rfl dX11_frozen_70 rfl (fun x_10 ex_10 => ?_)
            refine q_ci (pc' := 76) Bh_7 (hp_runV (As := [.int x_10]) (rest := []) C Bh_7 (t_X11_answer Γ l α Bh_7.2.2.1 a0 (cw_k Bh_7.2.2 k0) x_10) lb_X11_answer lv_X11_answer lk_X11_115 (cw_k Bh_7.2.2 k0) rfl (by decide) rfl hl.1 rfl (Nat.le_of_ble_eq_true rfl) dX11_frozen_73 ⟨Nat.le_refl _, Nat.le_refl _⟩) (fun _ _ h => cw_tr Bh_7.2.2 h (by decide)) rfl (fun rh_11 αh_11 Hh_11 Lh_11 ph_11 Bh_11 => ?_)
            exact q_iret C Bh_11 hr hlk Bh_11.2.2 dX11_frozen_76
          have jc_9 := il_ne c_9
          by_cases c_12 : a2 = 1
          · have jc_12 := il_eq c_12
            refine lv_tableIn (off := 38) (tgt := 77) hx hb dX11_frozen_39 (by omega) (by omega) (by rw [jc_12, lit1]; rfl) (by decide) ?_
            refine lv_aload_n hx hb dX11_frozen_77 rfl (lv_at hl 1 rfl) (hp_n (n := 78) rfl ?_)
            refine lv_aload_n hx hb dX11_frozen_78 rfl (lv_at hl 0 rfl) (hp_n (n := 79) rfl ?_)
            refine q_geti (κ := 2) (k := 1) (φ := 101) (pc' := 82) C Bh_7 (cw_k Bh_7.2.2 kbh_7) fl_X11_207 rfl rfl rfl dX11_frozen_79 rfl (fun x_13 ex_13 => ?_)
            refine q_ci (pc' := 85) Bh_7 (hp_runV (As := [.int x_13]) (rest := []) C Bh_7 (t_X11_answer Γ l α Bh_7.2.2.1 a0 (cw_k Bh_7.2.2 k0) x_13) lb_X11_answer lv_X11_answer lk_X11_115 (cw_k Bh_7.2.2 k0) rfl (by decide) rfl hl.1 rfl (Nat.le_of_ble_eq_true rfl) dX11_frozen_82 ⟨Nat.le_refl _, Nat.le_refl _⟩) (fun _ _ h => cw_tr Bh_7.2.2 h (by decide)) rfl (fun rh_14 αh_14 Hh_14 Lh_14 ph_14 Bh_14 => ?_)
            exact q_iret C Bh_14 hr hlk Bh_14.2.2 dX11_frozen_85
          have jc_12 := il_ne c_12
          by_cases c_15 : a2 = 2
          · have jc_15 := il_eq c_15
            refine lv_tableIn (off := 47) (tgt := 86) hx hb dX11_frozen_39 (by omega) (by omega) (by rw [jc_15, lit2]; rfl) (by decide) ?_
            refine lv_aload_n hx hb dX11_frozen_86 rfl (lv_at hl 1 rfl) (hp_n (n := 87) rfl ?_)
            refine lv_aload_n hx hb dX11_frozen_87 rfl (lv_at hl 0 rfl) (hp_n (n := 88) rfl ?_)
            refine q_geti (κ := 2) (k := 2) (φ := 102) (pc' := 91) C Bh_7 (cw_k Bh_7.2.2 kbh_7) fl_X11_210 rfl rfl rfl dX11_frozen_88 rfl (fun x_16 ex_16 => ?_)
            refine q_ci (pc' := 94) Bh_7 (hp_runV (As := [.int x_16]) (rest := []) C Bh_7 (t_X11_answer Γ l α Bh_7.2.2.1 a0 (cw_k Bh_7.2.2 k0) x_16) lb_X11_answer lv_X11_answer lk_X11_115 (cw_k Bh_7.2.2 k0) rfl (by decide) rfl hl.1 rfl (Nat.le_of_ble_eq_true rfl) dX11_frozen_91 ⟨Nat.le_refl _, Nat.le_refl _⟩) (fun _ _ h => cw_tr Bh_7.2.2 h (by decide)) rfl (fun rh_17 αh_17 Hh_17 Lh_17 ph_17 Bh_17 => ?_)
            exact q_iret C Bh_17 hr hlk Bh_17.2.2 dX11_frozen_94
          have jc_15 := il_ne c_15
          by_cases c_18 : a2 = 3
          · have jc_18 := il_eq c_18
            refine lv_tableIn (off := 56) (tgt := 95) hx hb dX11_frozen_39 (by omega) (by omega) (by rw [jc_18, lit3]; rfl) (by decide) ?_
            refine lv_aload_n hx hb dX11_frozen_95 rfl (lv_at hl 1 rfl) (hp_n (n := 96) rfl ?_)
            refine lv_aload_n hx hb dX11_frozen_96 rfl (lv_at hl 0 rfl) (hp_n (n := 97) rfl ?_)
            refine q_geti (κ := 2) (k := 3) (φ := 103) (pc' := 100) C Bh_7 (cw_k Bh_7.2.2 kbh_7) fl_X11_213 rfl rfl rfl dX11_frozen_97 rfl (fun x_19 ex_19 => ?_)
            refine q_ci (pc' := 103) Bh_7 (hp_runV (As := [.int x_19]) (rest := []) C Bh_7 (t_X11_answer Γ l α Bh_7.2.2.1 a0 (cw_k Bh_7.2.2 k0) x_19) lb_X11_answer lv_X11_answer lk_X11_115 (cw_k Bh_7.2.2 k0) rfl (by decide) rfl hl.1 rfl (Nat.le_of_ble_eq_true rfl) dX11_frozen_100 ⟨Nat.le_refl _, Nat.le_refl _⟩) (fun _ _ h => cw_tr Bh_7.2.2 h (by decide)) rfl (fun rh_20 αh_20 Hh_20 Lh_20 ph_20 Bh_20 => ?_)
            exact q_iret C Bh_20 hr hlk Bh_20.2.2 dX11_frozen_103
          have jc_18 := il_ne c_18
          refine lv_tableOut (tgt := 104) hx hb dX11_frozen_39 (by omega) (by decide) ?_
          refine lv_aload_n hx hb dX11_frozen_104 rfl (lv_at hl 1 rfl) (hp_n (n := 105) rfl ?_)
          refine lv_aload_n hx hb dX11_frozen_105 rfl (lv_at hl 1 rfl) (hp_n (n := 106) rfl ?_)
          refine q_gets (κ := 12) (k := 1) (φ := 601) (pc' := 109) C Bh_7 (cw_k Bh_7.2.2 k0) fl_X11_16 rfl rfl rfl eb_6 dX11_frozen_106 rfl ?_
          refine lv_aload_n hx hb dX11_frozen_109 rfl (lv_at hl 0 rfl) (hp_n (n := 110) rfl ?_)
          refine q_ci (pc' := 113) Bh_7 (hp_runV (As := [.ref bh_7]) (rest := [.ref a0]) C Bh_7 (t_X10_isSound Γ l α Bh_7.2.2.1 b_6 (cw_k Bh_7.2.2 kb_6) bh_7 (cw_k Bh_7.2.2 kbh_7)) lb_X10_isSound lv_X10_isSound lk_X11_216 (cw_k Bh_7.2.2 kb_6) rfl (by decide) rfl hl.1 rfl (Nat.le_of_ble_eq_true rfl) dX11_frozen_110 ⟨Nat.le_refl _, Nat.le_refl _⟩) (fun _ _ h => cw_tr Bh_7.2.2 h.1 (by decide)) rfl (fun rh_21 αh_21 Hh_21 Lh_21 ph_21 Bh_21 => ?_)
          have zh_21 := ph_21.2
          refine lv_if_eq (tgt := 120) hx hb dX11_frozen_113 (by decide) (fun c_22 => ?_) (fun c_22 => hp_n (n := 116) rfl ?_)
          ·
            have jc_22 := il_eq c_22
            refine lv_iconst (v := 0) hx hb dX11_frozen_120 (by decide) (hp_n (n := 121) rfl ?_)
            refine q_ci (pc' := 124) Bh_21 (hp_runV (As := [.int 0]) (rest := []) C Bh_21 (t_X11_answer Γ l αh_21 Bh_21.2.2.1 a0 (cw_k Bh_21.2.2 k0) 0) lb_X11_answer lv_X11_answer lk_X11_115 (cw_k Bh_21.2.2 k0) rfl (by decide) rfl hl.1 rfl (Nat.le_of_ble_eq_true rfl) dX11_frozen_121 ⟨Nat.le_refl _, Nat.le_refl _⟩) (fun _ _ h => cw_tr Bh_21.2.2 h (by decide)) rfl (fun rh_23 αh_23 Hh_23 Lh_23 ph_23 Bh_23 => ?_)
            exact q_iret C Bh_23 hr hlk Bh_23.2.2 dX11_frozen_124
          ·
            have jc_22 := il_ne c_22
            refine lv_iconst (v := 1) hx hb dX11_frozen_116 (by decide) (hp_n (n := 117) rfl ?_)
            refine lv_goto (tgt := 121) hx hb dX11_frozen_117 (by decide) ?_
            refine q_ci (pc' := 124) Bh_21 (hp_runV (As := [.int 1]) (rest := []) C Bh_21 (t_X11_answer Γ l αh_21 Bh_21.2.2.1 a0 (cw_k Bh_21.2.2 k0) 1) lb_X11_answer lv_X11_answer lk_X11_115 (cw_k Bh_21.2.2 k0) rfl (by decide) rfl hl.1 rfl (Nat.le_of_ble_eq_true rfl) dX11_frozen_121 ⟨Nat.le_refl _, Nat.le_refl _⟩) (fun _ _ h => cw_tr Bh_21.2.2 h (by decide)) rfl (fun rh_24 αh_24 Hh_24 Lh_24 ph_24 Bh_24 => ?_)
            exact q_iret C Bh_24 hr hlk Bh_24.2.2 dX11_frozen_124
      ·
        have jc_5 := il_nle c_5
        exact J13 s.heap [] B ls (lv_sub hl [0] rfl)
abbrev w_X11_watcher : cw_W := ([600], [], [], [])
set_option maxRecDepth 100000 in
set_option maxHeartbeats 4000000 in
theorem t_X11_watcher (Γ : hp_G) (l : Launch) (α : hp_T) (g : GC α) (a0 : Nat) (k0 : hp_K α a0 = 12) (a1 : Int32) (a2 : Int32) : Met l yX11_watcher (hp_ws yX11_watcher cX11_watcher 4 (some .int)) (hp_rm 1 0 0) (hp_Pc Γ α [.ref a0, .int a1, .int a2]) (hp_Qi Γ (fun r β => cw w_X11_watcher α β)) 0 0 (hp_A Γ) := by
  refine hp_start (by decide) ?_
  intro p e s m below meth c C hr hlk B0 hnm
  have C : hp_C Γ p m c cX11_watcher 4 s ([.ref a0, .int a1, .int a2] : List Value).toArray RX11 := C
  have hx := C.1.1
  have hb := C.1.2.1
  have hown := C.1.2.2.2.1
  have hts := C.1.2.2.2.2
  have B : hp_B Γ (cw w_X11_watcher) s α α s.heap [] := ⟨B0.1, B0.2.1, cw_rf g⟩
  have lit0 : (0 : Int32).toInt = 0 := by decide
  have lit1 : (1 : Int32).toInt = 1 := by decide
  have lit2 : (2 : Int32).toInt = 2 := by decide
  have lit3 : (3 : Int32).toInt = 3 := by decide
  have hl := lv_entry ([.ref a0, .int a1, .int a2]) (n := 4) (Nat.le_of_ble_eq_true rfl)
  show W p l e (hp_rm 1 0 0) s m ([.ref a0, .int a1, .int a2] : List Value).toArray below meth c s.heap [] 0 0 (MQ below (hp_Qi Γ (fun r β => cw w_X11_watcher α β)) ([.ref a0, .int a1, .int a2] : List Value).toArray s 0 0 (hp_A Γ)) (entryFrame m ([.ref a0, .int a1, .int a2] : List Value).toArray 4)
  rw [lg_entry_eq]
  generalize (lg_sl ([.ref a0, .int a1, .int a2]) ++ List.replicate (4 - (lg_sl ([.ref a0, .int a1, .int a2])).length) Slot.unset).toArray = ls at hl ⊢
  have hl : lv_has ls 4 [(0, .ref a0), (1, .int a1), (2, .int a2)] := hl
  refine lv_iload_n hx hb dX11_watcher_0 rfl (lv_at hl 2 rfl) (hp_n (n := 1) rfl ?_)
  have J9 : ∀ (Hh_1 : Heap) (Lh_1 : List Loc) (Bh_1 : hp_B Γ (cw w_X11_watcher) s α α Hh_1 Lh_1) (ls : Array Slot) (hl : lv_has ls 4 [(0, .ref a0)]), W p l e (hp_rm 1 0 0) s m ([.ref a0, .int a1, .int a2] : List Value).toArray below meth c Hh_1 Lh_1 0 0 (MQ below (hp_Qi Γ (fun r β => cw w_X11_watcher α β)) ([.ref a0, .int a1, .int a2] : List Value).toArray s 0 0 (hp_A Γ)) (F0 m 9 ls []) := by
    intro Hh_1 Lh_1 Bh_1 ls hl
    refine lv_aload_n hx hb dX11_watcher_9 rfl (lv_at hl 0 rfl) (hp_n (n := 10) rfl ?_)
    refine lv_iconst (v := 1) hx hb dX11_watcher_10 (by decide) (hp_n (n := 11) rfl ?_)
    refine q_ci (pc' := 14) Bh_1 (hp_runV (As := [.int 1]) (rest := []) C Bh_1 (t_X11_refuse Γ l α Bh_1.2.2.1 a0 (cw_k Bh_1.2.2 k0) 1) lb_X11_refuse lv_X11_refuse lk_X11_98 (cw_k Bh_1.2.2 k0) rfl (by decide) rfl hl.1 rfl (Nat.le_of_ble_eq_true rfl) dX11_watcher_11 ⟨Nat.le_refl _, Nat.le_refl _⟩) (fun _ _ h => cw_tr Bh_1.2.2 h (by decide)) rfl (fun rh_2 αh_2 Hh_2 Lh_2 ph_2 Bh_2 => ?_)
    exact q_iret C Bh_2 hr hlk Bh_2.2.2 dX11_watcher_14
  refine lv_if_lt (tgt := 9) hx hb dX11_watcher_1 (by decide) (fun c_3 => ?_) (fun c_3 => hp_n (n := 4) rfl ?_)
  ·
    have jc_3 := il_lt c_3
    exact J9 s.heap [] B ls (lv_sub hl [0] rfl)
  ·
    have jc_3 := il_nlt c_3
    refine lv_iload_n hx hb dX11_watcher_4 rfl (lv_at hl 2 rfl) (hp_n (n := 5) rfl ?_)
    refine lv_iconst (v := 3) hx hb dX11_watcher_5 (by decide) (hp_n (n := 6) rfl ?_)
    refine lv_icmp_le (tgt := 15) hx hb dX11_watcher_6 (by decide) (fun c_4 => ?_) (fun c_4 => hp_n (n := 9) rfl ?_)
    ·
      have jc_4 := il_le c_4
      refine lv_aload_n hx hb dX11_watcher_15 rfl (lv_at hl 0 rfl) (hp_n (n := 16) rfl ?_)
      refine q_getr (κ := 12) (k := 1) (φ := 601) (pc' := 19) C B (cw_k B.2.2 k0) fl_X11_16 rfl rfl rfl (cw_r B.2.2 k0 rfl rfl (by decide) (by decide)) dX11_watcher_16 rfl (fun b_5 eb_5 kb_5 => ?_)
      refine lv_iload_n hx hb dX11_watcher_19 rfl (lv_at hl 1 rfl) (hp_n (n := 20) rfl ?_)
      refine q_cq (pc' := 23) B (hp_runV (As := [.int a1]) (rest := []) C B (t_X10_watcherAt Γ l α B.2.2.1 b_5 (cw_k B.2.2 kb_5) a1) lb_X10_watcherAt lv_X10_watcherAt lk_X11_220 (cw_k B.2.2 kb_5) rfl (by decide) rfl hl.1 rfl (Nat.le_of_ble_eq_true rfl) dX11_watcher_20 ⟨Nat.le_refl _, Nat.le_refl _⟩) (fun _ _ h => by rw [h.1]; exact B.2.2) rfl (fun rh_6 αh_6 Hh_6 Lh_6 ph_6 Bh_6 => ?_)
      rw [ph_6.1] at Bh_6
      rcases rh_6 with _ | bh_6
      ·
        refine lv_astore_nN (lv' := [(3, .null), (0, .ref a0), (1, .int a1), (2, .int a2)]) hx hb dX11_watcher_23 rfl hl (by decide) rfl (fun ls hl => hp_n (n := 24) rfl ?_)
        refine lv_aload_nN hx hb dX11_watcher_24 rfl (lv_at hl 0 rfl) (hp_n (n := 25) rfl ?_)
        refine lv_ifnonnullN hx hb dX11_watcher_25 (hp_n (n := 28) rfl ?_)
        refine lv_aload_n hx hb dX11_watcher_28 rfl (lv_at hl 1 rfl) (hp_n (n := 29) rfl ?_)
        refine lv_iconst (v := 2) hx hb dX11_watcher_29 (by decide) (hp_n (n := 30) rfl ?_)
        refine q_ci (pc' := 33) Bh_6 (hp_runV (As := [.int 2]) (rest := []) C Bh_6 (t_X11_refuse Γ l α Bh_6.2.2.1 a0 (cw_k Bh_6.2.2 k0) 2) lb_X11_refuse lv_X11_refuse lk_X11_98 (cw_k Bh_6.2.2 k0) rfl (by decide) rfl hl.1 rfl (Nat.le_of_ble_eq_true rfl) dX11_watcher_30 ⟨Nat.le_refl _, Nat.le_refl _⟩) (fun _ _ h => cw_tr Bh_6.2.2 h (by decide)) rfl (fun rh_7 αh_7 Hh_7 Lh_7 ph_7 Bh_7 => ?_)
        exact q_iret C Bh_7 hr hlk Bh_7.2.2 dX11_watcher_33
      ·
        have kbh_6 : hp_K α bh_6 = 8 := cw_k' Bh_6.2.2 (ph_6.2 bh_6 rfl)
        refine lv_astore_n (lv' := [(3, .ref bh_6), (0, .ref a0), (1, .int a1), (2, .int a2)]) hx hb dX11_watcher_23 rfl hl (by decide) rfl (fun ls hl => hp_n (n := 24) rfl ?_)
        refine lv_aload_n hx hb dX11_watcher_24 rfl (lv_at hl 0 rfl) (hp_n (n := 25) rfl ?_)
        refine lv_ifnonnull (tgt := 34) hx hb dX11_watcher_25 (by decide) ?_
        refine lv_iload_n hx hb dX11_watcher_34 rfl (lv_at hl 3 rfl) (hp_n (n := 35) rfl ?_)
        by_cases c_8 : a2 = 0
        · have jc_8 := il_eq c_8
          refine lv_tableIn (off := 25) (tgt := 60) hx hb dX11_watcher_35 (by omega) (by omega) (by rw [jc_8, lit0]; rfl) (by decide) ?_
          refine lv_aload_n hx hb dX11_watcher_60 rfl (lv_at hl 1 rfl) (hp_n (n := 61) rfl ?_)
          refine lv_aload_n hx hb dX11_watcher_61 rfl (lv_at hl 0 rfl) (hp_n (n := 62) rfl ?_)
          refine q_geti (κ := 8) (k := 0) (φ := 400) (pc' := 65) C Bh_6 (cw_k Bh_6.2.2 kbh_6) fl_X11_224 rfl rfl rfl dX11_watcher_62 rfl (fun x_9 ex_9 => ?_)
          refine q_ci (pc' := 68) Bh_6 (hp_runV (As := [.int x_9]) (rest := []) C Bh_6 (t_X11_answer Γ l α Bh_6.2.2.1 a0 (cw_k Bh_6.2.2 k0) x_9) lb_X11_answer lv_X11_answer lk_X11_115 (cw_k Bh_6.2.2 k0) rfl (by decide) rfl hl.1 rfl (Nat.le_of_ble_eq_true rfl) dX11_watcher_65 ⟨Nat.le_refl _, Nat.le_refl _⟩) (fun _ _ h => cw_tr Bh_6.2.2 h (by decide)) rfl (fun rh_10 αh_10 Hh_10 Lh_10 ph_10 Bh_10 => ?_)
          exact q_iret C Bh_10 hr hlk Bh_10.2.2 dX11_watcher_68
        have jc_8 := il_ne c_8
        by_cases c_11 : a2 = 1
        · have jc_11 := il_eq c_11
          refine lv_tableIn (off := 34) (tgt := 69) hx hb dX11_watcher_35 (by omega) (by omega) (by rw [jc_11, lit1]; rfl) (by decide) ?_
          refine lv_aload_n hx hb dX11_watcher_69 rfl (lv_at hl 1 rfl) (hp_n (n := 70) rfl ?_)
          refine lv_aload_n hx hb dX11_watcher_70 rfl (lv_at hl 0 rfl) (hp_n (n := 71) rfl ?_)
          refine q_geti (κ := 8) (k := 1) (φ := 401) (pc' := 74) C Bh_6 (cw_k Bh_6.2.2 kbh_6) fl_X11_227 rfl rfl rfl dX11_watcher_71 rfl (fun x_12 ex_12 => ?_)
          refine q_ci (pc' := 77) Bh_6 (hp_runV (As := [.int x_12]) (rest := []) C Bh_6 (t_X11_answer Γ l α Bh_6.2.2.1 a0 (cw_k Bh_6.2.2 k0) x_12) lb_X11_answer lv_X11_answer lk_X11_115 (cw_k Bh_6.2.2 k0) rfl (by decide) rfl hl.1 rfl (Nat.le_of_ble_eq_true rfl) dX11_watcher_74 ⟨Nat.le_refl _, Nat.le_refl _⟩) (fun _ _ h => cw_tr Bh_6.2.2 h (by decide)) rfl (fun rh_13 αh_13 Hh_13 Lh_13 ph_13 Bh_13 => ?_)
          exact q_iret C Bh_13 hr hlk Bh_13.2.2 dX11_watcher_77
        have jc_11 := il_ne c_11
        by_cases c_14 : a2 = 2
        · have jc_14 := il_eq c_14
          refine lv_tableIn (off := 43) (tgt := 78) hx hb dX11_watcher_35 (by omega) (by omega) (by rw [jc_14, lit2]; rfl) (by decide) ?_
          refine lv_aload_n hx hb dX11_watcher_78 rfl (lv_at hl 1 rfl) (hp_n (n := 79) rfl ?_)
          refine lv_aload_n hx hb dX11_watcher_79 rfl (lv_at hl 0 rfl) (hp_n (n := 80) rfl ?_)
          refine q_geti (κ := 8) (k := 3) (φ := 403) (pc' := 83) C Bh_6 (cw_k Bh_6.2.2 kbh_6) fl_X11_230 rfl rfl rfl dX11_watcher_80 rfl (fun x_15 ex_15 => ?_)
          refine lv_if_eq (tgt := 90) hx hb dX11_watcher_83 (by decide) (fun c_16 => ?_) (fun c_16 => hp_n (n := 86) rfl ?_)
          ·
            have jc_16 := il_eq c_16
            refine lv_iconst (v := 0) hx hb dX11_watcher_90 (by decide) (hp_n (n := 91) rfl ?_)
            refine q_ci (pc' := 94) Bh_6 (hp_runV (As := [.int 0]) (rest := []) C Bh_6 (t_X11_answer Γ l α Bh_6.2.2.1 a0 (cw_k Bh_6.2.2 k0) 0) lb_X11_answer lv_X11_answer lk_X11_115 (cw_k Bh_6.2.2 k0) rfl (by decide) rfl hl.1 rfl (Nat.le_of_ble_eq_true rfl) dX11_watcher_91 ⟨Nat.le_refl _, Nat.le_refl _⟩) (fun _ _ h => cw_tr Bh_6.2.2 h (by decide)) rfl (fun rh_17 αh_17 Hh_17 Lh_17 ph_17 Bh_17 => ?_)
            exact q_iret C Bh_17 hr hlk Bh_17.2.2 dX11_watcher_94
          ·
            have jc_16 := il_ne c_16
            refine lv_iconst (v := 1) hx hb dX11_watcher_86 (by decide) (hp_n (n := 87) rfl ?_)
            refine lv_goto (tgt := 91) hx hb dX11_watcher_87 (by decide) ?_
            refine q_ci (pc' := 94) Bh_6 (hp_runV (As := [.int 1]) (rest := []) C Bh_6 (t_X11_answer Γ l α Bh_6.2.2.1 a0 (cw_k Bh_6.2.2 k0) 1) lb_X11_answer lv_X11_answer lk_X11_115 (cw_k Bh_6.2.2 k0) rfl (by decide) rfl hl.1 rfl (Nat.le_of_ble_eq_true rfl) dX11_watcher_91 ⟨Nat.le_refl _, Nat.le_refl _⟩) (fun _ _ h => cw_tr Bh_6.2.2 h (by decide)) rfl (fun rh_18 αh_18 Hh_18 Lh_18 ph_18 Bh_18 => ?_)
            exact q_iret C Bh_18 hr hlk Bh_18.2.2 dX11_watcher_94
        have jc_14 := il_ne c_14
        refine lv_tableOut (tgt := 95) hx hb dX11_watcher_35 (by omega) (by decide) ?_
        refine lv_aload_n hx hb dX11_watcher_95 rfl (lv_at hl 1 rfl) (hp_n (n := 96) rfl ?_)
        refine lv_aload_n hx hb dX11_watcher_96 rfl (lv_at hl 0 rfl) (hp_n (n := 97) rfl ?_)
        refine q_geti (κ := 8) (k := 2) (φ := 402) (pc' := 100) C Bh_6 (cw_k Bh_6.2.2 kbh_6) fl_X11_234 rfl rfl rfl dX11_watcher_97 rfl (fun x_19 ex_19 => ?_)
        refine q_ci (pc' := 103) Bh_6 (hp_runV (As := [.int x_19]) (rest := []) C Bh_6 (t_X11_answer Γ l α Bh_6.2.2.1 a0 (cw_k Bh_6.2.2 k0) x_19) lb_X11_answer lv_X11_answer lk_X11_115 (cw_k Bh_6.2.2 k0) rfl (by decide) rfl hl.1 rfl (Nat.le_of_ble_eq_true rfl) dX11_watcher_100 ⟨Nat.le_refl _, Nat.le_refl _⟩) (fun _ _ h => cw_tr Bh_6.2.2 h (by decide)) rfl (fun rh_20 αh_20 Hh_20 Lh_20 ph_20 Bh_20 => ?_)
        exact q_iret C Bh_20 hr hlk Bh_20.2.2 dX11_watcher_103
    ·
      have jc_4 := il_nle c_4
      exact J9 s.heap [] B ls (lv_sub hl [0] rfl)
