theorem df_1 : ∀ j, j < (hp_q 1).2.2 → defaultValue (hp_ty 1 j) = vp_V ((hp_tg (100 + 1)).map hp_dv) j := fun j hj => by
  have hj : j < 5 := hj
  match j, hj with
  | 0, _ => rfl
  | 1, _ => rfl
  | 2, _ => rfl
  | 3, _ => rfl
  | 4, _ => rfl
  | j + 5, h => exact absurd h (by omega)
theorem df_2 : ∀ j, j < (hp_q 2).2.2 → defaultValue (hp_ty 2 j) = vp_V ((hp_tg (100 + 2)).map hp_dv) j := fun j hj => by
  have hj : j < 5 := hj
  match j, hj with
  | 0, _ => rfl
  | 1, _ => rfl
  | 2, _ => rfl
  | 3, _ => rfl
  | 4, _ => rfl
  | j + 5, h => exact absurd h (by omega)
theorem df_3 : ∀ j, j < (hp_q 3).2.2 → defaultValue (hp_ty 3 j) = vp_V ((hp_tg (100 + 3)).map hp_dv) j := fun j hj => by
  have hj : j < 3 := hj
  match j, hj with
  | 0, _ => rfl
  | 1, _ => rfl
  | 2, _ => rfl
  | j + 3, h => exact absurd h (by omega)
theorem df_4 : ∀ j, j < (hp_q 4).2.2 → defaultValue (hp_ty 4 j) = vp_V ((hp_tg (100 + 4)).map hp_dv) j := fun j hj => by
  have hj : j < 10 := hj
  match j, hj with
  | 0, _ => rfl
  | 1, _ => rfl
  | 2, _ => rfl
  | 3, _ => rfl
  | 4, _ => rfl
  | 5, _ => rfl
  | 6, _ => rfl
  | 7, _ => rfl
  | 8, _ => rfl
  | 9, _ => rfl
  | j + 10, h => exact absurd h (by omega)
theorem df_5 : ∀ j, j < (hp_q 5).2.2 → defaultValue (hp_ty 5 j) = vp_V ((hp_tg (100 + 5)).map hp_dv) j := fun j hj => by
  have hj : j < 11 := hj
  match j, hj with
  | 0, _ => rfl
  | 1, _ => rfl
  | 2, _ => rfl
  | 3, _ => rfl
  | 4, _ => rfl
  | 5, _ => rfl
  | 6, _ => rfl
  | 7, _ => rfl
  | 8, _ => rfl
  | 9, _ => rfl
  | 10, _ => rfl
  | j + 11, h => exact absurd h (by omega)
theorem df_6 : ∀ j, j < (hp_q 6).2.2 → defaultValue (hp_ty 6 j) = vp_V ((hp_tg (100 + 6)).map hp_dv) j := fun j hj => by
  have hj : j < 2 := hj
  match j, hj with
  | 0, _ => rfl
  | 1, _ => rfl
  | j + 2, h => exact absurd h (by omega)
theorem df_7 : ∀ j, j < (hp_q 7).2.2 → defaultValue (hp_ty 7 j) = vp_V ((hp_tg (100 + 7)).map hp_dv) j := fun j hj => by
  have hj : j < 7 := hj
  match j, hj with
  | 0, _ => rfl
  | 1, _ => rfl
  | 2, _ => rfl
  | 3, _ => rfl
  | 4, _ => rfl
  | 5, _ => rfl
  | 6, _ => rfl
  | j + 7, h => exact absurd h (by omega)
theorem df_8 : ∀ j, j < (hp_q 8).2.2 → defaultValue (hp_ty 8 j) = vp_V ((hp_tg (100 + 8)).map hp_dv) j := fun j hj => by
  have hj : j < 4 := hj
  match j, hj with
  | 0, _ => rfl
  | 1, _ => rfl
  | 2, _ => rfl
  | 3, _ => rfl
  | j + 4, h => exact absurd h (by omega)
theorem df_9 : ∀ j, j < (hp_q 9).2.2 → defaultValue (hp_ty 9 j) = vp_V ((hp_tg (100 + 9)).map hp_dv) j := fun j hj => by
  have hj : j < 5 := hj
  match j, hj with
  | 0, _ => rfl
  | 1, _ => rfl
  | 2, _ => rfl
  | 3, _ => rfl
  | 4, _ => rfl
  | j + 5, h => exact absurd h (by omega)
theorem df_10 : ∀ j, j < (hp_q 10).2.2 → defaultValue (hp_ty 10 j) = vp_V ((hp_tg (100 + 10)).map hp_dv) j := fun j hj => by
  have hj : j < 2 := hj
  match j, hj with
  | 0, _ => rfl
  | 1, _ => rfl
  | j + 2, h => exact absurd h (by omega)
theorem df_11 : ∀ j, j < (hp_q 11).2.2 → defaultValue (hp_ty 11 j) = vp_V ((hp_tg (100 + 11)).map hp_dv) j := fun j hj => by
  have hj : j < 10 := hj
  match j, hj with
  | 0, _ => rfl
  | 1, _ => rfl
  | 2, _ => rfl
  | 3, _ => rfl
  | 4, _ => rfl
  | 5, _ => rfl
  | 6, _ => rfl
  | 7, _ => rfl
  | 8, _ => rfl
  | 9, _ => rfl
  | j + 10, h => exact absurd h (by omega)
theorem df_12 : ∀ j, j < (hp_q 12).2.2 → defaultValue (hp_ty 12 j) = vp_V ((hp_tg (100 + 12)).map hp_dv) j := fun j hj => by
  have hj : j < 19 := hj
  match j, hj with
  | 0, _ => rfl
  | 1, _ => rfl
  | 2, _ => rfl
  | 3, _ => rfl
  | 4, _ => rfl
  | 5, _ => rfl
  | 6, _ => rfl
  | 7, _ => rfl
  | 8, _ => rfl
  | 9, _ => rfl
  | 10, _ => rfl
  | 11, _ => rfl
  | 12, _ => rfl
  | 13, _ => rfl
  | 14, _ => rfl
  | 15, _ => rfl
  | 16, _ => rfl
  | 17, _ => rfl
  | 18, _ => rfl
  | j + 19, h => exact absurd h (by omega)
theorem df_13 : ∀ j, j < (hp_q 13).2.2 → defaultValue (hp_ty 13 j) = vp_V ((hp_tg (100 + 13)).map hp_dv) j := fun j hj => by
  have hj : j < 48 := hj
  match j, hj with
  | 0, _ => rfl
  | 1, _ => rfl
  | 2, _ => rfl
  | 3, _ => rfl
  | 4, _ => rfl
  | 5, _ => rfl
  | 6, _ => rfl
  | 7, _ => rfl
  | 8, _ => rfl
  | 9, _ => rfl
  | 10, _ => rfl
  | 11, _ => rfl
  | 12, _ => rfl
  | 13, _ => rfl
  | 14, _ => rfl
  | 15, _ => rfl
  | 16, _ => rfl
  | 17, _ => rfl
  | 18, _ => rfl
  | 19, _ => rfl
  | 20, _ => rfl
  | 21, _ => rfl
  | 22, _ => rfl
  | 23, _ => rfl
  | 24, _ => rfl
  | 25, _ => rfl
  | 26, _ => rfl
  | 27, _ => rfl
  | 28, _ => rfl
  | 29, _ => rfl
  | 30, _ => rfl
  | 31, _ => rfl
  | 32, _ => rfl
  | 33, _ => rfl
  | 34, _ => rfl
  | 35, _ => rfl
  | 36, _ => rfl
  | 37, _ => rfl
  | 38, _ => rfl
  | 39, _ => rfl
  | 40, _ => rfl
  | 41, _ => rfl
  | 42, _ => rfl
  | 43, _ => rfl
  | 44, _ => rfl
  | 45, _ => rfl
  | 46, _ => rfl
  | 47, _ => rfl
  | j + 48, h => exact absurd h (by omega)
set_option maxRecDepth 100000 in
set_option maxHeartbeats 4000000 in
theorem t_X5_init (Γ : hp_G) (l : Launch) (α : hp_T) (g : GC α) (a0 : Nat) (k0 : hp_K α a0 = 106) (z0 : ∀ φ, hp_I α φ a0 = 0) : Met l yX5_init (hp_ws yX5_init cX5_init 1 none) (hp_rm 1 1 64) (hp_Pc Γ α [.ref a0]) (hp_Qv Γ (fun β => gx a0 α β ∧ hp_K β a0 = 6 ∧ (∀ q ∈ ([(301, 0)] : List (Nat × Int32)), hp_I β q.1 a0 = q.2))) 1 64 (hp_A Γ) := by
  refine hp_start (by decide) ?_
  intro p e s m below meth c C hr hlk B0 hnm
  have C : hp_C Γ p m c cX5_init 1 s ([.ref a0] : List Value).toArray RX5 := C
  have hx := C.1.1
  have hb := C.1.2.1
  have hown := C.1.2.2.2.1
  have hts := C.1.2.2.2.2
  have B : hp_B Γ (gx a0) s α α s.heap [] := ⟨B0.1, B0.2.1, gx_rf g⟩
  have O : co α a0 6 α [] [] := co_0 k0 z0
  have hl := lv_entry ([.ref a0]) (n := 1) (Nat.le_of_ble_eq_true rfl)
  show W p l e (hp_rm 1 1 64) s m ([.ref a0] : List Value).toArray below meth c s.heap [] 0 0 (MQ below (hp_Qv Γ (fun β => gx a0 α β ∧ hp_K β a0 = 6 ∧ (∀ q ∈ ([(301, 0)] : List (Nat × Int32)), hp_I β q.1 a0 = q.2))) ([.ref a0] : List Value).toArray s 1 64 (hp_A Γ)) (entryFrame m ([.ref a0] : List Value).toArray 1)
  rw [lg_entry_eq]
  generalize (lg_sl ([.ref a0]) ++ List.replicate (1 - (lg_sl ([.ref a0])).length) Slot.unset).toArray = ls at hl ⊢
  have hl : lv_has ls 1 [(0, .ref a0)] := hl
  refine lv_aload_n hx hb dX5_init_0 rfl (lv_at hl 0 rfl) (hp_n (n := 1) rfl ?_)
  refine q_obj (pc' := 4) C ol_X5 hl.1 rfl (by decide) dX5_init_1 rfl ?_
  refine lv_aload_n hx hb dX5_init_4 rfl (lv_at hl 0 rfl) (hp_n (n := 5) rfl ?_)
  refine lv_bipush (v := 64) hx hb dX5_init_5 (by decide) (hp_n (n := 7) rfl ?_)
  refine q_newa (κ := 20) (t := 0) (n := 64) (atype := .int) (ty := .int) (dv := .int 0) (pc' := 9) C B ac_int rfl (by decide) rfl rfl (fun _ _ q => q) rfl (fun _ cA => nw_cx (by decide) cA) (by decide) (by decide +kernel) (Nat.le_of_ble_eq_true rfl) rfl (by omega) (by omega) dX5_init_7 rfl (fun q hq => gx_nw B.2.2 (by decide) hq) (fun βh1 ah1 Hh1 fh1 eh1 Bh1 => ?_)
  have nh1 := gx_new B.2.2 O fh1
  have Oh1 : co α a0 6 βh1 [] [] := by rw [eh1]; exact co_nw O fh1
  have kh1 : hp_K βh1 ah1 = 20 := by rw [eh1]; exact nw_k
  refine W.widen (k := 1) (n := 64) (by omega) (by omega) ?_
  refine q_putnF (κ := 106) (k := 0) (φ := 300) (pc' := 12) C Bh1 Oh1.1 fl_X5_9 rfl rfl rfl hnm rfl rfl rfl rfl (gx_sN Bh1.2.2 Oh1) dX5_init_9 rfl (fun βh2 Hh2 Lh2 eh2 Bh2 => ?_)
  have Oh2 : co α a0 6 βh2 [300] [] := by rw [eh2]; exact co_sN Oh1 ⟨(Or.inl (by rw [kh1]; rfl)), by rw [kh1]; decide, by rw [kh1]; decide, nh1.1, (fun _ j => by rw [eh1]; exact nw_e)⟩
  refine lv_aload_n hx hb dX5_init_12 rfl (lv_at hl 0 rfl) (hp_n (n := 13) rfl ?_)
  refine lv_iconst (v := 0) hx hb dX5_init_13 (by decide) (hp_n (n := 14) rfl ?_)
  refine q_puti (κ := 106) (k := 1) (φ := 301) (pc' := 17) C Bh2 Oh2.1 fl_X5_15 rfl rfl rfl rfl rfl rfl (gx_sI Bh2.2.2 (gc_i0 _)) dX5_init_14 rfl (fun βh3 Hh3 Lh3 eh3 Bh3 => ?_)
  have Oh3 : co α a0 6 βh3 [300] [(301, 0)] := by rw [eh3]; exact co_sI Oh2 (by decide)
  obtain ⟨Bh4, kh4, fh4, -⟩ := co_fin Bh3 Oh3 (by decide) (by decide) (by decide) (fun q => absurd q (by decide))
  refine W.widen (k := 1) (n := 64) (by omega) (by omega) ?_
  exact q_vret C Bh4 hr hlk ⟨Bh4.2.2, kh4, fh4⟩ dX5_init_17
set_option maxRecDepth 100000 in
set_option maxHeartbeats 4000000 in
theorem t_X9_init (Γ : hp_G) (l : Launch) (α : hp_T) (g : GC α) (a0 : Nat) (k0 : hp_K α a0 = 110) (z0 : ∀ φ, hp_I α φ a0 = 0) : Met l yX9_init (hp_ws yX9_init cX9_init 1 none) (hp_rm 1 1 8) (hp_Pc Γ α [.ref a0]) (hp_Qv Γ (fun β => gx a0 α β ∧ hp_K β a0 = 10 ∧ (∀ q ∈ ([(501, 0)] : List (Nat × Int32)), hp_I β q.1 a0 = q.2))) 1 8 (hp_A Γ) := by
  refine hp_start (by decide) ?_
  intro p e s m below meth c C hr hlk B0 hnm
  have C : hp_C Γ p m c cX9_init 1 s ([.ref a0] : List Value).toArray RX9 := C
  have hx := C.1.1
  have hb := C.1.2.1
  have hown := C.1.2.2.2.1
  have hts := C.1.2.2.2.2
  have B : hp_B Γ (gx a0) s α α s.heap [] := ⟨B0.1, B0.2.1, gx_rf g⟩
  have O : co α a0 10 α [] [] := co_0 k0 z0
  have hl := lv_entry ([.ref a0]) (n := 1) (Nat.le_of_ble_eq_true rfl)
  show W p l e (hp_rm 1 1 8) s m ([.ref a0] : List Value).toArray below meth c s.heap [] 0 0 (MQ below (hp_Qv Γ (fun β => gx a0 α β ∧ hp_K β a0 = 10 ∧ (∀ q ∈ ([(501, 0)] : List (Nat × Int32)), hp_I β q.1 a0 = q.2))) ([.ref a0] : List Value).toArray s 1 8 (hp_A Γ)) (entryFrame m ([.ref a0] : List Value).toArray 1)
  rw [lg_entry_eq]
  generalize (lg_sl ([.ref a0]) ++ List.replicate (1 - (lg_sl ([.ref a0])).length) Slot.unset).toArray = ls at hl ⊢
  have hl : lv_has ls 1 [(0, .ref a0)] := hl
  refine lv_aload_n hx hb dX9_init_0 rfl (lv_at hl 0 rfl) (hp_n (n := 1) rfl ?_)
  refine q_obj (pc' := 4) C ol_X9 hl.1 rfl (by decide) dX9_init_1 rfl ?_
  refine lv_aload_n hx hb dX9_init_4 rfl (lv_at hl 0 rfl) (hp_n (n := 5) rfl ?_)
  refine lv_bipush (v := 8) hx hb dX9_init_5 (by decide) (hp_n (n := 7) rfl ?_)
  refine q_newa (κ := 27) (t := 1) (n := 8) (atype := .byte) (ty := .byte) (dv := .int 0) (pc' := 9) C B ac_byte rfl (by decide) rfl rfl (fun _ _ q => q) rfl (fun _ cA => nw_cx (by decide) cA) (by decide) (by decide +kernel) (Nat.le_of_ble_eq_true rfl) rfl (by omega) (by omega) dX9_init_7 rfl (fun q hq => gx_nw B.2.2 (by decide) hq) (fun βh1 ah1 Hh1 fh1 eh1 Bh1 => ?_)
  have nh1 := gx_new B.2.2 O fh1
  have Oh1 : co α a0 10 βh1 [] [] := by rw [eh1]; exact co_nw O fh1
  have kh1 : hp_K βh1 ah1 = 27 := by rw [eh1]; exact nw_k
  refine W.widen (k := 1) (n := 8) (by omega) (by omega) ?_
  refine q_putnF (κ := 110) (k := 0) (φ := 500) (pc' := 12) C Bh1 Oh1.1 fl_X9_9 rfl rfl rfl hnm rfl rfl rfl rfl (gx_sN Bh1.2.2 Oh1) dX9_init_9 rfl (fun βh2 Hh2 Lh2 eh2 Bh2 => ?_)
  have Oh2 : co α a0 10 βh2 [500] [] := by rw [eh2]; exact co_sN Oh1 ⟨(Or.inl (by rw [kh1]; rfl)), by rw [kh1]; decide, by rw [kh1]; decide, nh1.1, (fun _ j => by rw [eh1]; exact nw_e)⟩
  refine lv_aload_n hx hb dX9_init_12 rfl (lv_at hl 0 rfl) (hp_n (n := 13) rfl ?_)
  refine lv_iconst (v := 0) hx hb dX9_init_13 (by decide) (hp_n (n := 14) rfl ?_)
  refine q_puti (κ := 110) (k := 1) (φ := 501) (pc' := 17) C Bh2 Oh2.1 fl_X9_15 rfl rfl rfl rfl rfl rfl (gx_sI Bh2.2.2 (gc_i0 _)) dX9_init_14 rfl (fun βh3 Hh3 Lh3 eh3 Bh3 => ?_)
  have Oh3 : co α a0 10 βh3 [500] [(501, 0)] := by rw [eh3]; exact co_sI Oh2 (by decide)
  obtain ⟨Bh4, kh4, fh4, -⟩ := co_fin Bh3 Oh3 (by decide) (by decide) (by decide) (fun q => absurd q (by decide))
  refine W.widen (k := 1) (n := 8) (by omega) (by omega) ?_
  exact q_vret C Bh4 hr hlk ⟨Bh4.2.2, kh4, fh4⟩ dX9_init_17
set_option maxRecDepth 100000 in
set_option maxHeartbeats 4000000 in
theorem t_X7_init (Γ : hp_G) (l : Launch) (α : hp_T) (g : GC α) (a0 : Nat) (k0 : hp_K α a0 = 108) (z0 : ∀ φ, hp_I α φ a0 = 0) : Met l yX7_init (hp_ws yX7_init cX7_init 1 none) (hp_rm 1 0 0) (hp_Pc Γ α [.ref a0]) (hp_Qv Γ (fun β => gx a0 α β ∧ hp_K β a0 = 8 ∧ (∀ q ∈ ([(403, 0), (402, 0), (401, 0), (400, 0)] : List (Nat × Int32)), hp_I β q.1 a0 = q.2))) 0 0 (hp_A Γ) := by
  refine hp_start (by decide) ?_
  intro p e s m below meth c C hr hlk B0 hnm
  have C : hp_C Γ p m c cX7_init 1 s ([.ref a0] : List Value).toArray RX7 := C
  have hx := C.1.1
  have hb := C.1.2.1
  have hown := C.1.2.2.2.1
  have hts := C.1.2.2.2.2
  have B : hp_B Γ (gx a0) s α α s.heap [] := ⟨B0.1, B0.2.1, gx_rf g⟩
  have O : co α a0 8 α [] [] := co_0 k0 z0
  have hl := lv_entry ([.ref a0]) (n := 1) (Nat.le_of_ble_eq_true rfl)
  show W p l e (hp_rm 1 0 0) s m ([.ref a0] : List Value).toArray below meth c s.heap [] 0 0 (MQ below (hp_Qv Γ (fun β => gx a0 α β ∧ hp_K β a0 = 8 ∧ (∀ q ∈ ([(403, 0), (402, 0), (401, 0), (400, 0)] : List (Nat × Int32)), hp_I β q.1 a0 = q.2))) ([.ref a0] : List Value).toArray s 0 0 (hp_A Γ)) (entryFrame m ([.ref a0] : List Value).toArray 1)
  rw [lg_entry_eq]
  generalize (lg_sl ([.ref a0]) ++ List.replicate (1 - (lg_sl ([.ref a0])).length) Slot.unset).toArray = ls at hl ⊢
  have hl : lv_has ls 1 [(0, .ref a0)] := hl
  refine lv_aload_n hx hb dX7_init_0 rfl (lv_at hl 0 rfl) (hp_n (n := 1) rfl ?_)
  refine q_obj (pc' := 4) C ol_X7 hl.1 rfl (by decide) dX7_init_1 rfl ?_
  refine lv_aload_n hx hb dX7_init_4 rfl (lv_at hl 0 rfl) (hp_n (n := 5) rfl ?_)
  refine lv_iconst (v := 0) hx hb dX7_init_5 (by decide) (hp_n (n := 6) rfl ?_)
  refine q_puti (κ := 108) (k := 0) (φ := 400) (pc' := 9) C B O.1 fl_X7_9 rfl rfl rfl rfl rfl rfl (gx_sI B.2.2 (gc_i0 _)) dX7_init_6 rfl (fun βh1 Hh1 Lh1 eh1 Bh1 => ?_)
  have Oh1 : co α a0 8 βh1 [] [(400, 0)] := by rw [eh1]; exact co_sI O (by decide)
  refine lv_aload_n hx hb dX7_init_9 rfl (lv_at hl 0 rfl) (hp_n (n := 10) rfl ?_)
  refine lv_iconst (v := 0) hx hb dX7_init_10 (by decide) (hp_n (n := 11) rfl ?_)
  refine q_puti (κ := 108) (k := 1) (φ := 401) (pc' := 14) C Bh1 Oh1.1 fl_X7_15 rfl rfl rfl rfl rfl rfl (gx_sI Bh1.2.2 (gc_i0 _)) dX7_init_11 rfl (fun βh2 Hh2 Lh2 eh2 Bh2 => ?_)
  have Oh2 : co α a0 8 βh2 [] [(401, 0), (400, 0)] := by rw [eh2]; exact co_sI Oh1 (by decide)
  refine lv_aload_n hx hb dX7_init_14 rfl (lv_at hl 0 rfl) (hp_n (n := 15) rfl ?_)
  refine lv_iconst (v := 0) hx hb dX7_init_15 (by decide) (hp_n (n := 16) rfl ?_)
  refine q_puti (κ := 108) (k := 2) (φ := 402) (pc' := 19) C Bh2 Oh2.1 fl_X7_18 rfl rfl rfl rfl rfl rfl (gx_sI Bh2.2.2 (gc_i0 _)) dX7_init_16 rfl (fun βh3 Hh3 Lh3 eh3 Bh3 => ?_)
  have Oh3 : co α a0 8 βh3 [] [(402, 0), (401, 0), (400, 0)] := by rw [eh3]; exact co_sI Oh2 (by decide)
  refine lv_aload_n hx hb dX7_init_19 rfl (lv_at hl 0 rfl) (hp_n (n := 20) rfl ?_)
  refine lv_iconst (v := 0) hx hb dX7_init_20 (by decide) (hp_n (n := 21) rfl ?_)
  refine q_puti (κ := 108) (k := 3) (φ := 403) (pc' := 24) C Bh3 Oh3.1 fl_X7_21 rfl rfl rfl rfl rfl rfl (gx_sI Bh3.2.2 (gc_i0 _)) dX7_init_21 rfl (fun βh4 Hh4 Lh4 eh4 Bh4 => ?_)
  have Oh4 : co α a0 8 βh4 [] [(403, 0), (402, 0), (401, 0), (400, 0)] := by rw [eh4]; exact co_sI Oh3 (by decide)
  obtain ⟨Bh5, kh5, fh5, -⟩ := co_fin Bh4 Oh4 (by decide) (by decide) (by decide) (fun q => absurd q (by decide))
  refine W.widen (k := 0) (n := 0) (by omega) (by omega) ?_
  exact q_vret C Bh5 hr hlk ⟨Bh5.2.2, kh5, fh5⟩ dX7_init_24
set_option maxRecDepth 100000 in
set_option maxHeartbeats 4000000 in
theorem t_X8_init (Γ : hp_G) (l : Launch) (α : hp_T) (g : GC α) (a0 : Nat) (k0 : hp_K α a0 = 109) (z0 : ∀ φ, hp_I α φ a0 = 0) : Met l yX8_init (hp_ws yX8_init cX8_init 1 none) (hp_rm 1 3 192) (hp_Pc Γ α [.ref a0]) (hp_Qv Γ (fun β => gx a0 α β ∧ hp_K β a0 = 9 ∧ (∀ q ∈ ([(454, 0), (453, 0)] : List (Nat × Int32)), hp_I β q.1 a0 = q.2))) 3 192 (hp_A Γ) := by
  refine hp_start (by decide) ?_
  intro p e s m below meth c C hr hlk B0 hnm
  have C : hp_C Γ p m c cX8_init 1 s ([.ref a0] : List Value).toArray RX8 := C
  have hx := C.1.1
  have hb := C.1.2.1
  have hown := C.1.2.2.2.1
  have hts := C.1.2.2.2.2
  have B : hp_B Γ (gx a0) s α α s.heap [] := ⟨B0.1, B0.2.1, gx_rf g⟩
  have O : co α a0 9 α [] [] := co_0 k0 z0
  have hl := lv_entry ([.ref a0]) (n := 1) (Nat.le_of_ble_eq_true rfl)
  show W p l e (hp_rm 1 3 192) s m ([.ref a0] : List Value).toArray below meth c s.heap [] 0 0 (MQ below (hp_Qv Γ (fun β => gx a0 α β ∧ hp_K β a0 = 9 ∧ (∀ q ∈ ([(454, 0), (453, 0)] : List (Nat × Int32)), hp_I β q.1 a0 = q.2))) ([.ref a0] : List Value).toArray s 3 192 (hp_A Γ)) (entryFrame m ([.ref a0] : List Value).toArray 1)
  rw [lg_entry_eq]
  generalize (lg_sl ([.ref a0]) ++ List.replicate (1 - (lg_sl ([.ref a0])).length) Slot.unset).toArray = ls at hl ⊢
  have hl : lv_has ls 1 [(0, .ref a0)] := hl
  refine lv_aload_n hx hb dX8_init_0 rfl (lv_at hl 0 rfl) (hp_n (n := 1) rfl ?_)
  refine q_obj (pc' := 4) C ol_X8 hl.1 rfl (by decide) dX8_init_1 rfl ?_
  refine lv_aload_n hx hb dX8_init_4 rfl (lv_at hl 0 rfl) (hp_n (n := 5) rfl ?_)
  refine lv_bipush (v := 64) hx hb dX8_init_5 (by decide) (hp_n (n := 7) rfl ?_)
  refine q_newa (κ := 21) (t := 0) (n := 64) (atype := .int) (ty := .int) (dv := .int 0) (pc' := 9) C B ac_int rfl (by decide) rfl rfl (fun _ _ q => q) rfl (fun _ cA => nw_cx (by decide) cA) (by decide) (by decide +kernel) (Nat.le_of_ble_eq_true rfl) rfl (by omega) (by omega) dX8_init_7 rfl (fun q hq => gx_nw B.2.2 (by decide) hq) (fun βh1 ah1 Hh1 fh1 eh1 Bh1 => ?_)
  have nh1 := gx_new B.2.2 O fh1
  have Oh1 : co α a0 9 βh1 [] [] := by rw [eh1]; exact co_nw O fh1
  have kh1 : hp_K βh1 ah1 = 21 := by rw [eh1]; exact nw_k
  refine W.widen (k := 1) (n := 64) (by omega) (by omega) ?_
  refine q_putnF (κ := 109) (k := 0) (φ := 450) (pc' := 12) C Bh1 Oh1.1 fl_X8_9 rfl rfl rfl hnm rfl rfl rfl rfl (gx_sN Bh1.2.2 Oh1) dX8_init_9 rfl (fun βh2 Hh2 Lh2 eh2 Bh2 => ?_)
  have Oh2 : co α a0 9 βh2 [450] [] := by rw [eh2]; exact co_sN Oh1 ⟨(Or.inl (by rw [kh1]; rfl)), by rw [kh1]; decide, by rw [kh1]; decide, nh1.1, (fun _ j => by rw [eh1]; exact nw_e)⟩
  refine lv_aload_n hx hb dX8_init_12 rfl (lv_at hl 0 rfl) (hp_n (n := 13) rfl ?_)
  refine lv_bipush (v := 64) hx hb dX8_init_13 (by decide) (hp_n (n := 15) rfl ?_)
  refine q_newa (κ := 22) (t := 0) (n := 64) (atype := .int) (ty := .int) (dv := .int 0) (pc' := 17) C Bh2 ac_int rfl (by decide) rfl rfl (fun _ _ q => q) rfl (fun _ cA => nw_cx (by decide) cA) (by decide) (by decide +kernel) (Nat.le_of_ble_eq_true rfl) rfl (by omega) (by omega) dX8_init_15 rfl (fun q hq => gx_nw Bh2.2.2 (by decide) hq) (fun βh3 ah3 Hh3 fh3 eh3 Bh3 => ?_)
  have nh3 := gx_new Bh2.2.2 Oh2 fh3
  have Oh3 : co α a0 9 βh3 [450] [] := by rw [eh3]; exact co_nw Oh2 fh3
  have kh3 : hp_K βh3 ah3 = 22 := by rw [eh3]; exact nw_k
  refine W.widen (k := 2) (n := 128) (by omega) (by omega) ?_
  refine q_putnF (κ := 109) (k := 1) (φ := 451) (pc' := 20) C Bh3 Oh3.1 fl_X8_15 rfl rfl rfl hnm rfl rfl rfl rfl (gx_sN Bh3.2.2 Oh3) dX8_init_17 rfl (fun βh4 Hh4 Lh4 eh4 Bh4 => ?_)
  have Oh4 : co α a0 9 βh4 [451, 450] [] := by rw [eh4]; exact co_sN Oh3 ⟨(Or.inl (by rw [kh3]; rfl)), by rw [kh3]; decide, by rw [kh3]; decide, nh3.1, (fun _ j => by rw [eh3]; exact nw_e)⟩
  refine lv_aload_n hx hb dX8_init_20 rfl (lv_at hl 0 rfl) (hp_n (n := 21) rfl ?_)
  refine lv_bipush (v := 64) hx hb dX8_init_21 (by decide) (hp_n (n := 23) rfl ?_)
  refine q_newa (κ := 23) (t := 2) (n := 64) (atype := .boolean) (ty := .boolean) (dv := .int 0) (pc' := 25) C Bh4 ac_boolean rfl (by decide) rfl rfl (fun _ _ q => q) rfl (fun _ cA => nw_cx (by decide) cA) (by decide) (by decide +kernel) (Nat.le_of_ble_eq_true rfl) rfl (by omega) (by omega) dX8_init_23 rfl (fun q hq => gx_nw Bh4.2.2 (by decide) hq) (fun βh5 ah5 Hh5 fh5 eh5 Bh5 => ?_)
  have nh5 := gx_new Bh4.2.2 Oh4 fh5
  have Oh5 : co α a0 9 βh5 [451, 450] [] := by rw [eh5]; exact co_nw Oh4 fh5
  have kh5 : hp_K βh5 ah5 = 23 := by rw [eh5]; exact nw_k
  refine W.widen (k := 3) (n := 192) (by omega) (by omega) ?_
  refine q_putnF (κ := 109) (k := 2) (φ := 452) (pc' := 28) C Bh5 Oh5.1 fl_X8_18 rfl rfl rfl hnm rfl rfl rfl rfl (gx_sN Bh5.2.2 Oh5) dX8_init_25 rfl (fun βh6 Hh6 Lh6 eh6 Bh6 => ?_)
  have Oh6 : co α a0 9 βh6 [452, 451, 450] [] := by rw [eh6]; exact co_sN Oh5 ⟨(Or.inl (by rw [kh5]; rfl)), by rw [kh5]; decide, by rw [kh5]; decide, nh5.1, (fun _ j => by rw [eh5]; exact nw_e)⟩
  refine lv_aload_n hx hb dX8_init_28 rfl (lv_at hl 0 rfl) (hp_n (n := 29) rfl ?_)
  refine lv_iconst (v := 0) hx hb dX8_init_29 (by decide) (hp_n (n := 30) rfl ?_)
  refine q_puti (κ := 109) (k := 3) (φ := 453) (pc' := 33) C Bh6 Oh6.1 fl_X8_22 rfl rfl rfl rfl rfl rfl (gx_sI Bh6.2.2 (gc_i0 _)) dX8_init_30 rfl (fun βh7 Hh7 Lh7 eh7 Bh7 => ?_)
  have Oh7 : co α a0 9 βh7 [452, 451, 450] [(453, 0)] := by rw [eh7]; exact co_sI Oh6 (by decide)
  refine lv_aload_n hx hb dX8_init_33 rfl (lv_at hl 0 rfl) (hp_n (n := 34) rfl ?_)
  refine lv_iconst (v := 0) hx hb dX8_init_34 (by decide) (hp_n (n := 35) rfl ?_)
  refine q_puti (κ := 109) (k := 4) (φ := 454) (pc' := 38) C Bh7 Oh7.1 fl_X8_26 rfl rfl rfl rfl rfl rfl (gx_sI Bh7.2.2 (gc_i0 _)) dX8_init_35 rfl (fun βh8 Hh8 Lh8 eh8 Bh8 => ?_)
  have Oh8 : co α a0 9 βh8 [452, 451, 450] [(454, 0), (453, 0)] := by rw [eh8]; exact co_sI Oh7 (by decide)
  obtain ⟨Bh9, kh9, fh9, -⟩ := co_fin Bh8 Oh8 (by decide) (by decide) (by decide) (fun q => absurd q (by decide))
  refine W.widen (k := 3) (n := 192) (by omega) (by omega) ?_
  exact q_vret C Bh9 hr hlk ⟨Bh9.2.2, kh9, fh9⟩ dX8_init_38
set_option maxRecDepth 100000 in
set_option maxHeartbeats 4000000 in
theorem t_X2_init (Γ : hp_G) (l : Launch) (α : hp_T) (g : GC α) (a0 : Nat) (k0 : hp_K α a0 = 103) (z0 : ∀ φ, hp_I α φ a0 = 0) : Met l yX2_init (hp_ws yX2_init cX2_init 2 none) (hp_rm 2 98 576) (hp_Pc Γ α [.ref a0]) (hp_Qv Γ (fun β => gx a0 α β ∧ hp_K β a0 = 3 ∧ (∀ q ∈ ([(152, 0)] : List (Nat × Int32)), hp_I β q.1 a0 = q.2))) 98 576 (hp_A Γ) := by
  refine hp_start (by decide) ?_
  intro p e s m below meth c C hr hlk B0 hnm
  have C : hp_C Γ p m c cX2_init 2 s ([.ref a0] : List Value).toArray RX2 := C
  have hx := C.1.1
  have hb := C.1.2.1
  have hown := C.1.2.2.2.1
  have hts := C.1.2.2.2.2
  have B : hp_B Γ (gx a0) s α α s.heap [] := ⟨B0.1, B0.2.1, gx_rf g⟩
  have O : co α a0 3 α [] [] := co_0 k0 z0
  have hl := lv_entry ([.ref a0]) (n := 2) (Nat.le_of_ble_eq_true rfl)
  show W p l e (hp_rm 2 98 576) s m ([.ref a0] : List Value).toArray below meth c s.heap [] 0 0 (MQ below (hp_Qv Γ (fun β => gx a0 α β ∧ hp_K β a0 = 3 ∧ (∀ q ∈ ([(152, 0)] : List (Nat × Int32)), hp_I β q.1 a0 = q.2))) ([.ref a0] : List Value).toArray s 98 576 (hp_A Γ)) (entryFrame m ([.ref a0] : List Value).toArray 2)
  rw [lg_entry_eq]
  generalize (lg_sl ([.ref a0]) ++ List.replicate (2 - (lg_sl ([.ref a0])).length) Slot.unset).toArray = ls at hl ⊢
  have hl : lv_has ls 2 [(0, .ref a0)] := hl
  refine lv_aload_n hx hb dX2_init_0 rfl (lv_at hl 0 rfl) (hp_n (n := 1) rfl ?_)
  refine q_obj (pc' := 4) C ol_X2 hl.1 rfl (by decide) dX2_init_1 rfl ?_
  refine lv_aload_n hx hb dX2_init_4 rfl (lv_at hl 0 rfl) (hp_n (n := 5) rfl ?_)
  refine lv_bipush (v := 48) hx hb dX2_init_5 (by decide) (hp_n (n := 7) rfl ?_)
  refine q_anew (κ := 28) (t := 7) (n := 48) (Cn := "ProvenRecord$Word") (pc' := 10) C B cl_X2_9 ao_X9 (by decide) rfl (by decide) rfl (by decide) (by decide +kernel) (Nat.le_of_ble_eq_true rfl) rfl (by omega) (by omega) dX2_init_7 rfl (fun q hq => gx_nw B.2.2 (by decide) hq) (fun βh1 ah1 Hh1 fh1 eh1 Bh1 => ?_)
  have nh1 := gx_new B.2.2 O fh1
  have Oh1 : co α a0 3 βh1 [] [] := by rw [eh1]; exact co_nw O fh1
  have kh1 : hp_K βh1 ah1 = 28 := by rw [eh1]; exact nw_k
  refine W.widen (k := 1) (n := 48) (by omega) (by omega) ?_
  refine q_putnF (κ := 103) (k := 0) (φ := 150) (pc' := 13) C Bh1 Oh1.1 fl_X2_11 rfl rfl rfl hnm rfl rfl rfl rfl (gx_sN Bh1.2.2 Oh1) dX2_init_10 rfl (fun βh2 Hh2 Lh2 eh2 Bh2 => ?_)
  have Oh2 : co α a0 3 βh2 [150] [] := by rw [eh2]; exact co_sN Oh1 ⟨(Or.inl (by rw [kh1]; rfl)), by rw [kh1]; decide, by rw [kh1]; decide, nh1.1, (fun _ j => by rw [eh1]; exact nw_e)⟩
  refine lv_aload_n hx hb dX2_init_13 rfl (lv_at hl 0 rfl) (hp_n (n := 14) rfl ?_)
  refine lv_bipush (v := 48) hx hb dX2_init_14 (by decide) (hp_n (n := 16) rfl ?_)
  refine q_newa (κ := 29) (t := 0) (n := 48) (atype := .int) (ty := .int) (dv := .int 0) (pc' := 18) C Bh2 ac_int rfl (by decide) rfl rfl (fun _ _ q => q) rfl (fun _ cA => nw_cx (by decide) cA) (by decide) (by decide +kernel) (Nat.le_of_ble_eq_true rfl) rfl (by omega) (by omega) dX2_init_16 rfl (fun q hq => gx_nw Bh2.2.2 (by decide) hq) (fun βh3 ah3 Hh3 fh3 eh3 Bh3 => ?_)
  have nh3 := gx_new Bh2.2.2 Oh2 fh3
  have Oh3 : co α a0 3 βh3 [150] [] := by rw [eh3]; exact co_nw Oh2 fh3
  have kh3 : hp_K βh3 ah3 = 29 := by rw [eh3]; exact nw_k
  refine W.widen (k := 2) (n := 96) (by omega) (by omega) ?_
  refine q_putnF (κ := 103) (k := 1) (φ := 151) (pc' := 21) C Bh3 Oh3.1 fl_X2_17 rfl rfl rfl hnm rfl rfl rfl rfl (gx_sN Bh3.2.2 Oh3) dX2_init_18 rfl (fun βh4 Hh4 Lh4 eh4 Bh4 => ?_)
  have Oh4 : co α a0 3 βh4 [151, 150] [] := by rw [eh4]; exact co_sN Oh3 ⟨(Or.inl (by rw [kh3]; rfl)), by rw [kh3]; decide, by rw [kh3]; decide, nh3.1, (fun _ j => by rw [eh3]; exact nw_e)⟩
  refine lv_aload_n hx hb dX2_init_21 rfl (lv_at hl 0 rfl) (hp_n (n := 22) rfl ?_)
  refine lv_iconst (v := 0) hx hb dX2_init_22 (by decide) (hp_n (n := 23) rfl ?_)
  refine q_puti (κ := 103) (k := 2) (φ := 152) (pc' := 26) C Bh4 Oh4.1 fl_X2_21 rfl rfl rfl rfl rfl rfl (gx_sI Bh4.2.2 (gc_i0 _)) dX2_init_23 rfl (fun βh5 Hh5 Lh5 eh5 Bh5 => ?_)
  have Oh5 : co α a0 3 βh5 [151, 150] [(152, 0)] := by rw [eh5]; exact co_sI Oh4 (by decide)
  refine lv_iconst (v := 0) hx hb dX2_init_26 (by decide) (hp_n (n := 27) rfl ?_)
  refine lv_istore_n (lv' := [(1, .int 0), (0, .ref a0)]) hx hb dX2_init_27 rfl hl (by decide) rfl (fun ls hl => hp_n (n := 28) rfl ?_)
  have J28 : ∀ (nq : Nat) (βh6 : hp_T) (Hh6 : Heap) (Lh6 : List Loc) (Bh6 : hp_B Γ (gx a0) s α βh6 Hh6 Lh6) (Oh6 : co α a0 3 βh6 [151, 150] [(152, 0)]) (vh6 : Int32) (j28 : Nat) (hk28 : vh6.toInt = (j28 : Int)) (hj28 : j28 ≤ 48) (hm28 : 48 - j28 = nq) (ls : Array Slot) (hl : lv_has ls 2 [(0, .ref a0), (1, .int vh6)]), W p l e (hp_rm 2 98 576) s m ([.ref a0] : List Value).toArray below meth c Hh6 Lh6 (2 + 2 * j28) (96 + 10 * j28) (MQ below (hp_Qv Γ (fun β => gx a0 α β ∧ hp_K β a0 = 3 ∧ (∀ q ∈ ([(152, 0)] : List (Nat × Int32)), hp_I β q.1 a0 = q.2))) ([.ref a0] : List Value).toArray s 98 576 (hp_A Γ)) (F0 m 28 ls []) := by
    intro nq
    induction nq using Nat.strongRecOn with
    | ind nq ih28 =>
    intro βh6 Hh6 Lh6 Bh6 Oh6 vh6 j28 hk28 hj28 hm28 ls hl
    have litn : (48 : Int32).toInt = 48 := by decide
    obtain ⟨xh6, x1h6, x2h6, x3h6, -, x5h6, -⟩ := Oh6.2.1 150 (by decide)
    have kxh6 : hp_K βh6 xh6 = 28 := by rcases x2h6 with q | q; exact q; exact absurd q.1 (by decide)
    have lth6 : hp_K βh6 xh6 ≠ 0 ∧ True := ⟨x3h6, trivial⟩
    refine lv_iload_n hx hb dX2_init_28 rfl (lv_at hl 1 rfl) (hp_n (n := 29) rfl ?_)
    refine lv_aload_n hx hb dX2_init_29 rfl (lv_at hl 0 rfl) (hp_n (n := 30) rfl ?_)
    refine q_get (v := .ref xh6) (κ := 103) (k := 0) (t := 3) (pc' := 33) C Bh6 Oh6.1 fl_X2_11 rfl rfl (by show va_rf (hp_N βh6 150 a0) = _; rw [x1h6]; rfl) dX2_init_30 rfl ?_
    refine q_alen (κ := 28) (t := 7) (n := 48) (x := 48) (ty := .object "ProvenRecord$Word") (pc' := 34) C Bh6 kxh6 (by decide) rfl rfl rfl dX2_init_33 rfl ?_
    refine lv_icmp_ge (tgt := 56) hx hb dX2_init_34 (by decide) (fun cq => ?_) (fun cq => hp_n (n := 37) rfl ?_)
    · have cq := il_le cq
      rw [litn] at cq
      refine W.widen (k := 98) (n := 576) (by omega) (by omega) ?_
      obtain ⟨Bh7, kh7, fh7, -⟩ := co_fin Bh6 Oh6 (by decide) (by decide) (by decide) (fun q => absurd q (by decide))
      refine W.widen (k := 98) (n := 576) (by omega) (by omega) ?_
      exact q_vret C Bh7 hr hlk ⟨Bh7.2.2, kh7, fh7⟩ dX2_init_56
    have cq := il_nle cq
    rw [litn] at cq
    refine lv_aload_n hx hb dX2_init_37 rfl (lv_at hl 0 rfl) (hp_n (n := 38) rfl ?_)
    refine q_get (v := .ref xh6) (κ := 103) (k := 0) (t := 3) (pc' := 41) C Bh6 Oh6.1 fl_X2_11 rfl rfl (by show va_rf (hp_N βh6 150 a0) = _; rw [x1h6]; rfl) dX2_init_38 rfl ?_
    refine lv_iload_n hx hb dX2_init_41 rfl (lv_at hl 1 rfl) (hp_n (n := 42) rfl ?_)
    refine q_new (κ := 10) (N := 2) (pc' := 45) C Bh6 cl_X2_9 it_X9 iz_X9 rfl in_10 tyX9_ok df_10 (by decide) rfl rfl rfl (by omega) (by omega) dX2_init_42 rfl (fun q hq => gx_nw Bh6.2.2 (by decide) hq) (fun βh8 ah8 Hh8 fh8 eh8 Bh8 => ?_)
    have nh8 := gx_new Bh6.2.2 Oh6 fh8
    have Oh8 : co α a0 3 βh8 [151, 150] [(152, 0)] := by rw [eh8]; exact co_nw Oh6 fh8
    have kh8 : hp_K βh8 ah8 = 110 := by rw [eh8]; exact nw_k
    have zh8 : ∀ φ, hp_I βh8 φ ah8 = 0 := fun φ => by rw [eh8]; exact nw_i
    have sh8 : sa βh6 βh8 xh6 := by rw [eh8]; exact sa_nw (fun q => lth6.1 (by rw [q]; exact fh8))
    refine W.widen (k := 2 + 2 * j28 + 1) (n := 96 + 10 * j28 + 2) (by omega) (by omega) ?_
    refine lv_dup hx hb dX2_init_45 rfl (hp_n (n := 46) rfl ?_)
    refine q_cv (pc' := 49) Bh8 (hp_runI (As := []) (rest := [.ref ah8, .int vh6, .ref xh6]) C Bh8 (t_X9_init Γ l βh8 Bh8.2.2.1 ah8 kh8 zh8) lb_X9_init rfl li_X9_init lk_X2_25 rfl (by decide) rfl hl.1 rfl (Nat.le_of_ble_eq_true rfl) dX2_init_46 ⟨by omega, by omega⟩) (fun q hq => gx_call Bh8.2.2 hq.1 nh8.1) rfl (fun βh9 Hh9 Lh9 ph9 Bh9 => ?_)
    have Oh9 : co α a0 3 βh9 [151, 150] [(152, 0)] := co_call Oh8 ph9.1 nh8.2 (by rw [kh8]; decide)
    have kh9 : hp_K βh9 ah8 = 10 := ph9.2.1
    have sh9 : sa βh8 βh9 xh6 := ph9.1.2 xh6 (fun q => by have := kh8; rw [← q, sh8.1, kxh6] at this; cases this) (by rw [sh8.1]; exact lth6.1)
    have krh9 : hp_K βh9 xh6 = 28 := by rw [sh9.1, sh8.1]; exact kxh6
    refine W.widen (k := 2 + 2 * j28 + 2) (n := 96 + 10 * j28 + 10) (by omega) (by omega) ?_
    refine q_aas (κ := 28) (t := 7) (n := 48) (κv := 10) (r := hp_q 10) (pc' := 50) C Bh9 krh9 (by decide) rfl (by decide) kh9 rfl rfl rfl (vi_of (by omega) (by omega)) rfl (gx_sQ Bh9.2.2 x5h6 (by rw [kh9]; rfl)) dX2_init_49 rfl (fun βh10 Hh10 Lh10 eh10 Bh10 => ?_)
    have Oh10 : co α a0 3 βh10 [151, 150] [(152, 0)] := by rw [eh10]; exact co_sQ Oh9
    obtain ⟨v11, ev11⟩ : ∃ y : Int32, y = vh6 + 1 := ⟨_, rfl⟩
    have qv11 : v11.toInt = vh6.toInt + 1 := by rw [ev11]; exact ii_add (x := vh6) (y := 1) (by rw [show (1 : Int32).toInt = 1 from rfl]; omega) (by rw [show (1 : Int32).toInt = 1 from rfl]; omega)
    refine lv_iinc (v := v11) (lv' := [(1, .int v11), (0, .ref a0)]) hx hb dX2_init_50 hl (k := 1) rfl (by rw [ev11]; rfl) (by decide) rfl (fun ls hl => hp_n (n := 53) rfl ?_)
    refine lv_goto (tgt := 28) hx hb dX2_init_53 (by decide) ?_
    refine W.widen (k := 2 + 2 * (j28 + 1)) (n := 96 + 10 * (j28 + 1)) (by omega) (by omega) ?_
    exact ih28 _ (by omega) βh10 Hh10 Lh10 Bh10 Oh10 v11 (j28 + 1) (by omega) (by omega) rfl ls (lv_sub hl [1, 0] rfl)
  exact J28 _ βh5 Hh5 Lh5 Bh5 Oh5 0 0 rfl (by decide) rfl ls (lv_sub hl [1, 0] rfl)
set_option maxRecDepth 100000 in
set_option maxHeartbeats 4000000 in
theorem t_X1_init (Γ : hp_G) (l : Launch) (α : hp_T) (g : GC α) (a0 : Nat) (k0 : hp_K α a0 = 102) (z0 : ∀ φ, hp_I α φ a0 = 0) : Met l yX1_init (hp_ws yX1_init cX1_init 1 none) (hp_rm 2 2 66) (hp_Pc Γ α [.ref a0]) (hp_Qv Γ (fun β => gx a0 α β ∧ hp_K β a0 = 2 ∧ (∀ q ∈ ([(103, 0), (102, 0), (101, 0), (100, 0)] : List (Nat × Int32)), hp_I β q.1 a0 = q.2))) 2 66 (hp_A Γ) := by
  refine hp_start (by decide) ?_
  intro p e s m below meth c C hr hlk B0 hnm
  have C : hp_C Γ p m c cX1_init 1 s ([.ref a0] : List Value).toArray RX1 := C
  have hx := C.1.1
  have hb := C.1.2.1
  have hown := C.1.2.2.2.1
  have hts := C.1.2.2.2.2
  have B : hp_B Γ (gx a0) s α α s.heap [] := ⟨B0.1, B0.2.1, gx_rf g⟩
  have O : co α a0 2 α [] [] := co_0 k0 z0
  have hl := lv_entry ([.ref a0]) (n := 1) (Nat.le_of_ble_eq_true rfl)
  show W p l e (hp_rm 2 2 66) s m ([.ref a0] : List Value).toArray below meth c s.heap [] 0 0 (MQ below (hp_Qv Γ (fun β => gx a0 α β ∧ hp_K β a0 = 2 ∧ (∀ q ∈ ([(103, 0), (102, 0), (101, 0), (100, 0)] : List (Nat × Int32)), hp_I β q.1 a0 = q.2))) ([.ref a0] : List Value).toArray s 2 66 (hp_A Γ)) (entryFrame m ([.ref a0] : List Value).toArray 1)
  rw [lg_entry_eq]
  generalize (lg_sl ([.ref a0]) ++ List.replicate (1 - (lg_sl ([.ref a0])).length) Slot.unset).toArray = ls at hl ⊢
  have hl : lv_has ls 1 [(0, .ref a0)] := hl
  refine lv_aload_n hx hb dX1_init_0 rfl (lv_at hl 0 rfl) (hp_n (n := 1) rfl ?_)
  refine q_obj (pc' := 4) C ol_X1 hl.1 rfl (by decide) dX1_init_1 rfl ?_
  refine lv_aload_n hx hb dX1_init_4 rfl (lv_at hl 0 rfl) (hp_n (n := 5) rfl ?_)
  refine lv_iconst (v := 0) hx hb dX1_init_5 (by decide) (hp_n (n := 6) rfl ?_)
  refine q_puti (κ := 102) (k := 0) (φ := 100) (pc' := 9) C B O.1 fl_X1_7 rfl rfl rfl rfl rfl rfl (gx_sI B.2.2 (gc_i0 _)) dX1_init_6 rfl (fun βh1 Hh1 Lh1 eh1 Bh1 => ?_)
  have Oh1 : co α a0 2 βh1 [] [(100, 0)] := by rw [eh1]; exact co_sI O (by decide)
  refine lv_aload_n hx hb dX1_init_9 rfl (lv_at hl 0 rfl) (hp_n (n := 10) rfl ?_)
  refine lv_iconst (v := 0) hx hb dX1_init_10 (by decide) (hp_n (n := 11) rfl ?_)
  refine q_puti (κ := 102) (k := 1) (φ := 101) (pc' := 14) C Bh1 Oh1.1 fl_X1_13 rfl rfl rfl rfl rfl rfl (gx_sI Bh1.2.2 (gc_i0 _)) dX1_init_11 rfl (fun βh2 Hh2 Lh2 eh2 Bh2 => ?_)
  have Oh2 : co α a0 2 βh2 [] [(101, 0), (100, 0)] := by rw [eh2]; exact co_sI Oh1 (by decide)
  refine lv_aload_n hx hb dX1_init_14 rfl (lv_at hl 0 rfl) (hp_n (n := 15) rfl ?_)
  refine lv_iconst (v := 0) hx hb dX1_init_15 (by decide) (hp_n (n := 16) rfl ?_)
  refine q_puti (κ := 102) (k := 2) (φ := 102) (pc' := 19) C Bh2 Oh2.1 fl_X1_16 rfl rfl rfl rfl rfl rfl (gx_sI Bh2.2.2 (gc_i0 _)) dX1_init_16 rfl (fun βh3 Hh3 Lh3 eh3 Bh3 => ?_)
  have Oh3 : co α a0 2 βh3 [] [(102, 0), (101, 0), (100, 0)] := by rw [eh3]; exact co_sI Oh2 (by decide)
  refine lv_aload_n hx hb dX1_init_19 rfl (lv_at hl 0 rfl) (hp_n (n := 20) rfl ?_)
  refine lv_iconst (v := 0) hx hb dX1_init_20 (by decide) (hp_n (n := 21) rfl ?_)
  refine q_puti (κ := 102) (k := 3) (φ := 103) (pc' := 24) C Bh3 Oh3.1 fl_X1_19 rfl rfl rfl rfl rfl rfl (gx_sI Bh3.2.2 (gc_i0 _)) dX1_init_21 rfl (fun βh4 Hh4 Lh4 eh4 Bh4 => ?_)
  have Oh4 : co α a0 2 βh4 [] [(103, 0), (102, 0), (101, 0), (100, 0)] := by rw [eh4]; exact co_sI Oh3 (by decide)
  refine lv_aload_n hx hb dX1_init_24 rfl (lv_at hl 0 rfl) (hp_n (n := 25) rfl ?_)
  refine q_new (κ := 6) (N := 2) (pc' := 28) C Bh4 cl_X1_22 it_X5 iz_X5 rfl in_6 tyX5_ok df_6 (by decide) rfl rfl rfl (by omega) (by omega) dX1_init_25 rfl (fun q hq => gx_nw Bh4.2.2 (by decide) hq) (fun βh5 ah5 Hh5 fh5 eh5 Bh5 => ?_)
  have nh5 := gx_new Bh4.2.2 Oh4 fh5
  have Oh5 : co α a0 2 βh5 [] [(103, 0), (102, 0), (101, 0), (100, 0)] := by rw [eh5]; exact co_nw Oh4 fh5
  have kh5 : hp_K βh5 ah5 = 106 := by rw [eh5]; exact nw_k
  have zh5 : ∀ φ, hp_I βh5 φ ah5 = 0 := fun φ => by rw [eh5]; exact nw_i
  refine W.widen (k := 1) (n := 2) (by omega) (by omega) ?_
  refine lv_dup hx hb dX1_init_28 rfl (hp_n (n := 29) rfl ?_)
  refine q_cv (pc' := 32) Bh5 (hp_runI (As := []) (rest := [.ref ah5, .ref a0]) C Bh5 (t_X5_init Γ l βh5 Bh5.2.2.1 ah5 kh5 zh5) lb_X5_init rfl li_X5_init lk_X1_24 rfl (by decide) rfl hl.1 rfl (Nat.le_of_ble_eq_true rfl) dX1_init_29 ⟨by omega, by omega⟩) (fun q hq => gx_call Bh5.2.2 hq.1 nh5.1) rfl (fun βh6 Hh6 Lh6 ph6 Bh6 => ?_)
  have Oh6 : co α a0 2 βh6 [] [(103, 0), (102, 0), (101, 0), (100, 0)] := co_call Oh5 ph6.1 nh5.2 (by rw [kh5]; decide)
  have kh6 : hp_K βh6 ah5 = 6 := ph6.2.1
  refine W.widen (k := 2) (n := 66) (by omega) (by omega) ?_
  refine q_putnF (κ := 102) (k := 4) (φ := 104) (pc' := 35) C Bh6 Oh6.1 fl_X1_25 rfl rfl rfl hnm rfl rfl rfl rfl (gx_sN Bh6.2.2 Oh6) dX1_init_32 rfl (fun βh7 Hh7 Lh7 eh7 Bh7 => ?_)
  have Oh7 : co α a0 2 βh7 [104] [(103, 0), (102, 0), (101, 0), (100, 0)] := by rw [eh7]; exact co_sN Oh6 ⟨(Or.inl (by rw [kh6]; rfl)), by rw [kh6]; decide, by rw [kh6]; decide, nh5.1, (by rw [kh6]; intro q; exact absurd q (by decide))⟩
  obtain ⟨Bh8, kh8, fh8, -⟩ := co_fin Bh7 Oh7 (by decide) (by decide) (by decide) (fun q => absurd q (by decide))
  refine W.widen (k := 2) (n := 66) (by omega) (by omega) ?_
  exact q_vret C Bh8 hr hlk ⟨Bh8.2.2, kh8, fh8⟩ dX1_init_35
set_option maxRecDepth 100000 in
set_option maxHeartbeats 4000000 in
theorem t_X0_init (Γ : hp_G) (l : Launch) (α : hp_T) (g : GC α) (a0 : Nat) (k0 : hp_K α a0 = 101) (z0 : ∀ φ, hp_I α φ a0 = 0) : Met l yX0_init (hp_ws yX0_init cX0_init 1 none) (hp_rm 2 2 66) (hp_Pc Γ α [.ref a0]) (hp_Qv Γ (fun β => gx a0 α β ∧ hp_K β a0 = 1 ∧ (∀ q ∈ ([(54, 0), (53, 0), (52, 0), (50, 101)] : List (Nat × Int32)), hp_I β q.1 a0 = q.2))) 2 66 (hp_A Γ) := by
  refine hp_start (by decide) ?_
  intro p e s m below meth c C hr hlk B0 hnm
  have C : hp_C Γ p m c cX0_init 1 s ([.ref a0] : List Value).toArray RX0 := C
  have hx := C.1.1
  have hb := C.1.2.1
  have hown := C.1.2.2.2.1
  have hts := C.1.2.2.2.2
  have B : hp_B Γ (gx a0) s α α s.heap [] := ⟨B0.1, B0.2.1, gx_rf g⟩
  have O : co α a0 1 α [] [] := co_0 k0 z0
  have hl := lv_entry ([.ref a0]) (n := 1) (Nat.le_of_ble_eq_true rfl)
  show W p l e (hp_rm 2 2 66) s m ([.ref a0] : List Value).toArray below meth c s.heap [] 0 0 (MQ below (hp_Qv Γ (fun β => gx a0 α β ∧ hp_K β a0 = 1 ∧ (∀ q ∈ ([(54, 0), (53, 0), (52, 0), (50, 101)] : List (Nat × Int32)), hp_I β q.1 a0 = q.2))) ([.ref a0] : List Value).toArray s 2 66 (hp_A Γ)) (entryFrame m ([.ref a0] : List Value).toArray 1)
  rw [lg_entry_eq]
  generalize (lg_sl ([.ref a0]) ++ List.replicate (1 - (lg_sl ([.ref a0])).length) Slot.unset).toArray = ls at hl ⊢
  have hl : lv_has ls 1 [(0, .ref a0)] := hl
  refine lv_aload_n hx hb dX0_init_0 rfl (lv_at hl 0 rfl) (hp_n (n := 1) rfl ?_)
  refine q_obj (pc' := 4) C ol_X0 hl.1 rfl (by decide) dX0_init_1 rfl ?_
  refine lv_aload_n hx hb dX0_init_4 rfl (lv_at hl 0 rfl) (hp_n (n := 5) rfl ?_)
  refine lv_bipush (v := 101) hx hb dX0_init_5 (by decide) (hp_n (n := 7) rfl ?_)
  refine q_puti (κ := 101) (k := 0) (φ := 50) (pc' := 10) C B O.1 fl_X0_9 rfl rfl rfl rfl rfl rfl (gx_sI B.2.2 (fun q => absurd q (by decide))) dX0_init_7 rfl (fun βh1 Hh1 Lh1 eh1 Bh1 => ?_)
  have Oh1 : co α a0 1 βh1 [] [(50, 101)] := by rw [eh1]; exact co_sI O (by decide)
  refine lv_aload_n hx hb dX0_init_10 rfl (lv_at hl 0 rfl) (hp_n (n := 11) rfl ?_)
  refine q_new (κ := 6) (N := 2) (pc' := 14) C Bh1 cl_X0_15 it_X5 iz_X5 rfl in_6 tyX5_ok df_6 (by decide) rfl rfl rfl (by omega) (by omega) dX0_init_11 rfl (fun q hq => gx_nw Bh1.2.2 (by decide) hq) (fun βh2 ah2 Hh2 fh2 eh2 Bh2 => ?_)
  have nh2 := gx_new Bh1.2.2 Oh1 fh2
  have Oh2 : co α a0 1 βh2 [] [(50, 101)] := by rw [eh2]; exact co_nw Oh1 fh2
  have kh2 : hp_K βh2 ah2 = 106 := by rw [eh2]; exact nw_k
  have zh2 : ∀ φ, hp_I βh2 φ ah2 = 0 := fun φ => by rw [eh2]; exact nw_i
  refine W.widen (k := 1) (n := 2) (by omega) (by omega) ?_
  refine lv_dup hx hb dX0_init_14 rfl (hp_n (n := 15) rfl ?_)
  refine q_cv (pc' := 18) Bh2 (hp_runI (As := []) (rest := [.ref ah2, .ref a0]) C Bh2 (t_X5_init Γ l βh2 Bh2.2.2.1 ah2 kh2 zh2) lb_X5_init rfl li_X5_init lk_X0_17 rfl (by decide) rfl hl.1 rfl (Nat.le_of_ble_eq_true rfl) dX0_init_15 ⟨by omega, by omega⟩) (fun q hq => gx_call Bh2.2.2 hq.1 nh2.1) rfl (fun βh3 Hh3 Lh3 ph3 Bh3 => ?_)
  have Oh3 : co α a0 1 βh3 [] [(50, 101)] := co_call Oh2 ph3.1 nh2.2 (by rw [kh2]; decide)
  have kh3 : hp_K βh3 ah2 = 6 := ph3.2.1
  refine W.widen (k := 2) (n := 66) (by omega) (by omega) ?_
  refine q_putn (κ := 101) (k := 1) (φ := 51) (pc' := 21) C Bh3 Oh3.1 fl_X0_18 rfl rfl rfl rfl rfl rfl (gx_sN Bh3.2.2 Oh3) dX0_init_18 rfl (fun βh4 Hh4 Lh4 eh4 Bh4 => ?_)
  have Oh4 : co α a0 1 βh4 [51] [(50, 101)] := by rw [eh4]; exact co_sN Oh3 ⟨(Or.inl (by rw [kh3]; rfl)), by rw [kh3]; decide, by rw [kh3]; decide, nh2.1, (by rw [kh3]; intro q; exact absurd q (by decide))⟩
  refine lv_aload_n hx hb dX0_init_21 rfl (lv_at hl 0 rfl) (hp_n (n := 22) rfl ?_)
  refine lv_iconst (v := 0) hx hb dX0_init_22 (by decide) (hp_n (n := 23) rfl ?_)
  refine q_puti (κ := 101) (k := 2) (φ := 52) (pc' := 26) C Bh4 Oh4.1 fl_X0_22 rfl rfl rfl rfl rfl rfl (gx_sI Bh4.2.2 (gc_i0 _)) dX0_init_23 rfl (fun βh5 Hh5 Lh5 eh5 Bh5 => ?_)
  have Oh5 : co α a0 1 βh5 [51] [(52, 0), (50, 101)] := by rw [eh5]; exact co_sI Oh4 (by decide)
  refine lv_aload_n hx hb dX0_init_26 rfl (lv_at hl 0 rfl) (hp_n (n := 27) rfl ?_)
  refine lv_iconst (v := 0) hx hb dX0_init_27 (by decide) (hp_n (n := 28) rfl ?_)
  refine q_puti (κ := 101) (k := 3) (φ := 53) (pc' := 31) C Bh5 Oh5.1 fl_X0_25 rfl rfl rfl rfl rfl rfl (gx_sI Bh5.2.2 (gc_i0 _)) dX0_init_28 rfl (fun βh6 Hh6 Lh6 eh6 Bh6 => ?_)
  have Oh6 : co α a0 1 βh6 [51] [(53, 0), (52, 0), (50, 101)] := by rw [eh6]; exact co_sI Oh5 (by decide)
  refine lv_aload_n hx hb dX0_init_31 rfl (lv_at hl 0 rfl) (hp_n (n := 32) rfl ?_)
  refine lv_iconst (v := 0) hx hb dX0_init_32 (by decide) (hp_n (n := 33) rfl ?_)
  refine q_puti (κ := 101) (k := 4) (φ := 54) (pc' := 36) C Bh6 Oh6.1 fl_X0_28 rfl rfl rfl rfl rfl rfl (gx_sI Bh6.2.2 (gc_i0 _)) dX0_init_33 rfl (fun βh7 Hh7 Lh7 eh7 Bh7 => ?_)
  have Oh7 : co α a0 1 βh7 [51] [(54, 0), (53, 0), (52, 0), (50, 101)] := by rw [eh7]; exact co_sI Oh6 (by decide)
  obtain ⟨Bh8, kh8, fh8, -⟩ := co_fin Bh7 Oh7 (by decide) (by decide) (by decide) (fun q => absurd q (by decide))
  refine W.widen (k := 2) (n := 66) (by omega) (by omega) ?_
  exact q_vret C Bh8 hr hlk ⟨Bh8.2.2, kh8, fh8⟩ dX0_init_36
set_option maxRecDepth 100000 in
set_option maxHeartbeats 4000000 in
theorem t_X6_init (Γ : hp_G) (l : Launch) (α : hp_T) (g : GC α) (a0 : Nat) (k0 : hp_K α a0 = 107) (z0 : ∀ φ, hp_I α φ a0 = 0) : Met l yX6_init (hp_ws yX6_init cX6_init 1 none) (hp_rm 1 1 0) (hp_Pc Γ α [.ref a0]) (hp_Qv Γ (fun β => gx a0 α β ∧ hp_K β a0 = 7 ∧ (∀ q ∈ ([(356, 0), (355, 0), (354, 0), (353, 0), (352, 0), (351, 0)] : List (Nat × Int32)), hp_I β q.1 a0 = q.2))) 1 0 (hp_A Γ) := by
  refine hp_start (by decide) ?_
  intro p e s m below meth c C hr hlk B0 hnm
  have C : hp_C Γ p m c cX6_init 1 s ([.ref a0] : List Value).toArray RX6 := C
  have hx := C.1.1
  have hb := C.1.2.1
  have hown := C.1.2.2.2.1
  have hts := C.1.2.2.2.2
  have B : hp_B Γ (gx a0) s α α s.heap [] := ⟨B0.1, B0.2.1, gx_rf g⟩
  have O : co α a0 7 α [] [] := co_0 k0 z0
  have hl := lv_entry ([.ref a0]) (n := 1) (Nat.le_of_ble_eq_true rfl)
  show W p l e (hp_rm 1 1 0) s m ([.ref a0] : List Value).toArray below meth c s.heap [] 0 0 (MQ below (hp_Qv Γ (fun β => gx a0 α β ∧ hp_K β a0 = 7 ∧ (∀ q ∈ ([(356, 0), (355, 0), (354, 0), (353, 0), (352, 0), (351, 0)] : List (Nat × Int32)), hp_I β q.1 a0 = q.2))) ([.ref a0] : List Value).toArray s 1 0 (hp_A Γ)) (entryFrame m ([.ref a0] : List Value).toArray 1)
  rw [lg_entry_eq]
  generalize (lg_sl ([.ref a0]) ++ List.replicate (1 - (lg_sl ([.ref a0])).length) Slot.unset).toArray = ls at hl ⊢
  have hl : lv_has ls 1 [(0, .ref a0)] := hl
  refine lv_aload_n hx hb dX6_init_0 rfl (lv_at hl 0 rfl) (hp_n (n := 1) rfl ?_)
  refine q_obj (pc' := 4) C ol_X6 hl.1 rfl (by decide) dX6_init_1 rfl ?_
  refine lv_aload_n hx hb dX6_init_4 rfl (lv_at hl 0 rfl) (hp_n (n := 5) rfl ?_)
  refine lv_iconst (v := 0) hx hb dX6_init_5 (by decide) (hp_n (n := 6) rfl ?_)
  refine q_newa (κ := 36) (t := 1) (n := 0) (atype := .byte) (ty := .byte) (dv := .int 0) (pc' := 8) C B ac_byte rfl (by decide) rfl rfl (fun _ _ q => q) rfl (fun _ cA => nw_cx (by decide) cA) (by decide) (by decide +kernel) (Nat.le_of_ble_eq_true rfl) rfl (by omega) (by omega) dX6_init_6 rfl (fun q hq => gx_nw B.2.2 (by decide) hq) (fun βh1 ah1 Hh1 fh1 eh1 Bh1 => ?_)
  have nh1 := gx_new B.2.2 O fh1
  have Oh1 : co α a0 7 βh1 [] [] := by rw [eh1]; exact co_nw O fh1
  have kh1 : hp_K βh1 ah1 = 36 := by rw [eh1]; exact nw_k
  refine W.widen (k := 1) (n := 0) (by omega) (by omega) ?_
  refine q_putn (κ := 107) (k := 0) (φ := 350) (pc' := 11) C Bh1 Oh1.1 fl_X6_9 rfl rfl rfl rfl rfl rfl (gx_sN Bh1.2.2 Oh1) dX6_init_8 rfl (fun βh2 Hh2 Lh2 eh2 Bh2 => ?_)
  have Oh2 : co α a0 7 βh2 [350] [] := by rw [eh2]; exact co_sN Oh1 ⟨(Or.inr ⟨rfl, by rw [kh1]⟩), by rw [kh1]; decide, by rw [kh1]; decide, nh1.1, (fun _ j => by rw [eh1]; exact nw_e)⟩
  refine lv_aload_n hx hb dX6_init_11 rfl (lv_at hl 0 rfl) (hp_n (n := 12) rfl ?_)
  refine lv_iconst (v := 0) hx hb dX6_init_12 (by decide) (hp_n (n := 13) rfl ?_)
  refine q_puti (κ := 107) (k := 1) (φ := 351) (pc' := 16) C Bh2 Oh2.1 fl_X6_15 rfl rfl rfl rfl rfl rfl (gx_sI Bh2.2.2 (gc_i0 _)) dX6_init_13 rfl (fun βh3 Hh3 Lh3 eh3 Bh3 => ?_)
  have Oh3 : co α a0 7 βh3 [350] [(351, 0)] := by rw [eh3]; exact co_sI Oh2 (by decide)
  refine lv_aload_n hx hb dX6_init_16 rfl (lv_at hl 0 rfl) (hp_n (n := 17) rfl ?_)
  refine lv_iconst (v := 0) hx hb dX6_init_17 (by decide) (hp_n (n := 18) rfl ?_)
  refine q_puti (κ := 107) (k := 2) (φ := 352) (pc' := 21) C Bh3 Oh3.1 fl_X6_19 rfl rfl rfl rfl rfl rfl (gx_sI Bh3.2.2 (gc_i0 _)) dX6_init_18 rfl (fun βh4 Hh4 Lh4 eh4 Bh4 => ?_)
  have Oh4 : co α a0 7 βh4 [350] [(352, 0), (351, 0)] := by rw [eh4]; exact co_sI Oh3 (by decide)
  refine lv_aload_n hx hb dX6_init_21 rfl (lv_at hl 0 rfl) (hp_n (n := 22) rfl ?_)
  refine lv_iconst (v := 0) hx hb dX6_init_22 (by decide) (hp_n (n := 23) rfl ?_)
  refine q_puti (κ := 107) (k := 3) (φ := 353) (pc' := 26) C Bh4 Oh4.1 fl_X6_22 rfl rfl rfl rfl rfl rfl (gx_sI Bh4.2.2 (gc_i0 _)) dX6_init_23 rfl (fun βh5 Hh5 Lh5 eh5 Bh5 => ?_)
  have Oh5 : co α a0 7 βh5 [350] [(353, 0), (352, 0), (351, 0)] := by rw [eh5]; exact co_sI Oh4 (by decide)
  refine lv_aload_n hx hb dX6_init_26 rfl (lv_at hl 0 rfl) (hp_n (n := 27) rfl ?_)
  refine lv_iconst (v := 0) hx hb dX6_init_27 (by decide) (hp_n (n := 28) rfl ?_)
  refine q_puti (κ := 107) (k := 4) (φ := 354) (pc' := 31) C Bh5 Oh5.1 fl_X6_25 rfl rfl rfl rfl rfl rfl (gx_sI Bh5.2.2 (gc_i0 _)) dX6_init_28 rfl (fun βh6 Hh6 Lh6 eh6 Bh6 => ?_)
  have Oh6 : co α a0 7 βh6 [350] [(354, 0), (353, 0), (352, 0), (351, 0)] := by rw [eh6]; exact co_sI Oh5 (by decide)
  refine lv_aload_n hx hb dX6_init_31 rfl (lv_at hl 0 rfl) (hp_n (n := 32) rfl ?_)
  refine lv_iconst (v := 0) hx hb dX6_init_32 (by decide) (hp_n (n := 33) rfl ?_)
  refine q_puti (κ := 107) (k := 5) (φ := 355) (pc' := 36) C Bh6 Oh6.1 fl_X6_28 rfl rfl rfl rfl rfl rfl (gx_sI Bh6.2.2 (gc_i0 _)) dX6_init_33 rfl (fun βh7 Hh7 Lh7 eh7 Bh7 => ?_)
  have Oh7 : co α a0 7 βh7 [350] [(355, 0), (354, 0), (353, 0), (352, 0), (351, 0)] := by rw [eh7]; exact co_sI Oh6 (by decide)
  refine lv_aload_n hx hb dX6_init_36 rfl (lv_at hl 0 rfl) (hp_n (n := 37) rfl ?_)
  refine lv_iconst (v := 0) hx hb dX6_init_37 (by decide) (hp_n (n := 38) rfl ?_)
  refine q_puti (κ := 107) (k := 6) (φ := 356) (pc' := 41) C Bh7 Oh7.1 fl_X6_31 rfl rfl rfl rfl rfl rfl (gx_sI Bh7.2.2 (gc_i0 _)) dX6_init_38 rfl (fun βh8 Hh8 Lh8 eh8 Bh8 => ?_)
  have Oh8 : co α a0 7 βh8 [350] [(356, 0), (355, 0), (354, 0), (353, 0), (352, 0), (351, 0)] := by rw [eh8]; exact co_sI Oh7 (by decide)
  obtain ⟨Bh9, kh9, fh9, -⟩ := co_fin Bh8 Oh8 (by decide) (by decide) (by decide) (fun q => absurd q (by decide))
  refine W.widen (k := 1) (n := 0) (by omega) (by omega) ?_
  exact q_vret C Bh9 hr hlk ⟨Bh9.2.2, kh9, fh9⟩ dX6_init_41
set_option maxRecDepth 100000 in
set_option maxHeartbeats 4000000 in
theorem t_X4_init (Γ : hp_G) (l : Launch) (α : hp_T) (g : GC α) (a0 : Nat) (k0 : hp_K α a0 = 105) (z0 : ∀ φ, hp_I α φ a0 = 0) : Met l yX4_init (hp_ws yX4_init cX4_init 1 none) (hp_rm 2 8 131305) (hp_Pc Γ α [.ref a0]) (hp_Qv Γ (fun β => gx a0 α β ∧ hp_K β a0 = 5 ∧ (∀ q ∈ ([(260, 0), (259, 0), (258, (-1)), (257, 0), (256, (-1)), (255, 0), (252, 0)] : List (Nat × Int32)), hp_I β q.1 a0 = q.2))) 8 131305 (hp_A Γ) := by
  refine hp_start (by decide) ?_
  intro p e s m below meth c C hr hlk B0 hnm
  have C : hp_C Γ p m c cX4_init 1 s ([.ref a0] : List Value).toArray RX4 := C
  have hx := C.1.1
  have hb := C.1.2.1
  have hown := C.1.2.2.2.1
  have hts := C.1.2.2.2.2
  have B : hp_B Γ (gx a0) s α α s.heap [] := ⟨B0.1, B0.2.1, gx_rf g⟩
  have O : co α a0 5 α [] [] := co_0 k0 z0
  have hl := lv_entry ([.ref a0]) (n := 1) (Nat.le_of_ble_eq_true rfl)
  show W p l e (hp_rm 2 8 131305) s m ([.ref a0] : List Value).toArray below meth c s.heap [] 0 0 (MQ below (hp_Qv Γ (fun β => gx a0 α β ∧ hp_K β a0 = 5 ∧ (∀ q ∈ ([(260, 0), (259, 0), (258, (-1)), (257, 0), (256, (-1)), (255, 0), (252, 0)] : List (Nat × Int32)), hp_I β q.1 a0 = q.2))) ([.ref a0] : List Value).toArray s 8 131305 (hp_A Γ)) (entryFrame m ([.ref a0] : List Value).toArray 1)
  rw [lg_entry_eq]
  generalize (lg_sl ([.ref a0]) ++ List.replicate (1 - (lg_sl ([.ref a0])).length) Slot.unset).toArray = ls at hl ⊢
  have hl : lv_has ls 1 [(0, .ref a0)] := hl
  refine lv_aload_n hx hb dX4_init_0 rfl (lv_at hl 0 rfl) (hp_n (n := 1) rfl ?_)
  refine q_obj (pc' := 4) C ol_X4 hl.1 rfl (by decide) dX4_init_1 rfl ?_
  refine lv_aload_n hx hb dX4_init_4 rfl (lv_at hl 0 rfl) (hp_n (n := 5) rfl ?_)
  refine lv_ldc hx hb hown (hts _ kc_X4_9) dX4_init_5 (hp_n (n := 7) rfl ?_)
  refine q_newa (κ := 34) (t := 0) (n := 65521) (atype := .int) (ty := .int) (dv := .int 0) (pc' := 9) C B ac_int rfl (by decide) rfl rfl (fun _ _ q => q) rfl (fun _ cA => nw_cx (by decide) cA) (by decide) (by decide +kernel) (Nat.le_of_ble_eq_true rfl) rfl (by omega) (by omega) dX4_init_7 rfl (fun q hq => gx_nw B.2.2 (by decide) hq) (fun βh1 ah1 Hh1 fh1 eh1 Bh1 => ?_)
  have nh1 := gx_new B.2.2 O fh1
  have Oh1 : co α a0 5 βh1 [] [] := by rw [eh1]; exact co_nw O fh1
  have kh1 : hp_K βh1 ah1 = 34 := by rw [eh1]; exact nw_k
  refine W.widen (k := 1) (n := 65521) (by omega) (by omega) ?_
  refine q_putnF (κ := 105) (k := 0) (φ := 250) (pc' := 12) C Bh1 Oh1.1 fl_X4_10 rfl rfl rfl hnm rfl rfl rfl rfl (gx_sN Bh1.2.2 Oh1) dX4_init_9 rfl (fun βh2 Hh2 Lh2 eh2 Bh2 => ?_)
  have Oh2 : co α a0 5 βh2 [250] [] := by rw [eh2]; exact co_sN Oh1 ⟨(Or.inl (by rw [kh1]; rfl)), by rw [kh1]; decide, by rw [kh1]; decide, nh1.1, (fun _ j => by rw [eh1]; exact nw_e)⟩
  refine lv_aload_n hx hb dX4_init_12 rfl (lv_at hl 0 rfl) (hp_n (n := 13) rfl ?_)
  refine lv_ldc hx hb hown (hts _ kc_X4_9) dX4_init_13 (hp_n (n := 15) rfl ?_)
  refine q_newa (κ := 35) (t := 0) (n := 65521) (atype := .int) (ty := .int) (dv := .int 0) (pc' := 17) C Bh2 ac_int rfl (by decide) rfl rfl (fun _ _ q => q) rfl (fun _ cA => nw_cx (by decide) cA) (by decide) (by decide +kernel) (Nat.le_of_ble_eq_true rfl) rfl (by omega) (by omega) dX4_init_15 rfl (fun q hq => gx_nw Bh2.2.2 (by decide) hq) (fun βh3 ah3 Hh3 fh3 eh3 Bh3 => ?_)
  have nh3 := gx_new Bh2.2.2 Oh2 fh3
  have Oh3 : co α a0 5 βh3 [250] [] := by rw [eh3]; exact co_nw Oh2 fh3
  have kh3 : hp_K βh3 ah3 = 35 := by rw [eh3]; exact nw_k
  refine W.widen (k := 2) (n := 131042) (by omega) (by omega) ?_
  refine q_putnF (κ := 105) (k := 1) (φ := 251) (pc' := 20) C Bh3 Oh3.1 fl_X4_16 rfl rfl rfl hnm rfl rfl rfl rfl (gx_sN Bh3.2.2 Oh3) dX4_init_17 rfl (fun βh4 Hh4 Lh4 eh4 Bh4 => ?_)
  have Oh4 : co α a0 5 βh4 [251, 250] [] := by rw [eh4]; exact co_sN Oh3 ⟨(Or.inl (by rw [kh3]; rfl)), by rw [kh3]; decide, by rw [kh3]; decide, nh3.1, (fun _ j => by rw [eh3]; exact nw_e)⟩
  refine lv_aload_n hx hb dX4_init_20 rfl (lv_at hl 0 rfl) (hp_n (n := 21) rfl ?_)
  refine lv_iconst (v := 0) hx hb dX4_init_21 (by decide) (hp_n (n := 22) rfl ?_)
  refine q_puti (κ := 105) (k := 2) (φ := 252) (pc' := 25) C Bh4 Oh4.1 fl_X4_19 rfl rfl rfl rfl rfl rfl (gx_sI Bh4.2.2 (gc_i0 _)) dX4_init_22 rfl (fun βh5 Hh5 Lh5 eh5 Bh5 => ?_)
  have Oh5 : co α a0 5 βh5 [251, 250] [(252, 0)] := by rw [eh5]; exact co_sI Oh4 (by decide)
  refine lv_aload_n hx hb dX4_init_25 rfl (lv_at hl 0 rfl) (hp_n (n := 26) rfl ?_)
  refine q_new (κ := 9) (N := 5) (pc' := 29) C Bh5 cl_X4_23 it_X8 iz_X8 rfl in_9 tyX8_ok df_9 (by decide) rfl rfl rfl (by omega) (by omega) dX4_init_26 rfl (fun q hq => gx_nw Bh5.2.2 (by decide) hq) (fun βh6 ah6 Hh6 fh6 eh6 Bh6 => ?_)
  have nh6 := gx_new Bh5.2.2 Oh5 fh6
  have Oh6 : co α a0 5 βh6 [251, 250] [(252, 0)] := by rw [eh6]; exact co_nw Oh5 fh6
  have kh6 : hp_K βh6 ah6 = 109 := by rw [eh6]; exact nw_k
  have zh6 : ∀ φ, hp_I βh6 φ ah6 = 0 := fun φ => by rw [eh6]; exact nw_i
  refine W.widen (k := 3) (n := 131047) (by omega) (by omega) ?_
  refine lv_dup hx hb dX4_init_29 rfl (hp_n (n := 30) rfl ?_)
  refine q_cv (pc' := 33) Bh6 (hp_runI (As := []) (rest := [.ref ah6, .ref a0]) C Bh6 (t_X8_init Γ l βh6 Bh6.2.2.1 ah6 kh6 zh6) lb_X8_init rfl li_X8_init lk_X4_25 rfl (by decide) rfl hl.1 rfl (Nat.le_of_ble_eq_true rfl) dX4_init_30 ⟨by omega, by omega⟩) (fun q hq => gx_call Bh6.2.2 hq.1 nh6.1) rfl (fun βh7 Hh7 Lh7 ph7 Bh7 => ?_)
  have Oh7 : co α a0 5 βh7 [251, 250] [(252, 0)] := co_call Oh6 ph7.1 nh6.2 (by rw [kh6]; decide)
  have kh7 : hp_K βh7 ah6 = 9 := ph7.2.1
  refine W.widen (k := 6) (n := 131239) (by omega) (by omega) ?_
  refine q_putn (κ := 105) (k := 3) (φ := 253) (pc' := 36) C Bh7 Oh7.1 fl_X4_26 rfl rfl rfl rfl rfl rfl (gx_sN Bh7.2.2 Oh7) dX4_init_33 rfl (fun βh8 Hh8 Lh8 eh8 Bh8 => ?_)
  have Oh8 : co α a0 5 βh8 [253, 251, 250] [(252, 0)] := by rw [eh8]; exact co_sN Oh7 ⟨(Or.inl (by rw [kh7]; rfl)), by rw [kh7]; decide, by rw [kh7]; decide, nh6.1, (by rw [kh7]; intro q; exact absurd q (by decide))⟩
  refine lv_aload_n hx hb dX4_init_36 rfl (lv_at hl 0 rfl) (hp_n (n := 37) rfl ?_)
  refine q_new (κ := 6) (N := 2) (pc' := 40) C Bh8 cl_X4_30 it_X5 iz_X5 rfl in_6 tyX5_ok df_6 (by decide) rfl rfl rfl (by omega) (by omega) dX4_init_37 rfl (fun q hq => gx_nw Bh8.2.2 (by decide) hq) (fun βh9 ah9 Hh9 fh9 eh9 Bh9 => ?_)
  have nh9 := gx_new Bh8.2.2 Oh8 fh9
  have Oh9 : co α a0 5 βh9 [253, 251, 250] [(252, 0)] := by rw [eh9]; exact co_nw Oh8 fh9
  have kh9 : hp_K βh9 ah9 = 106 := by rw [eh9]; exact nw_k
  have zh9 : ∀ φ, hp_I βh9 φ ah9 = 0 := fun φ => by rw [eh9]; exact nw_i
  refine W.widen (k := 7) (n := 131241) (by omega) (by omega) ?_
  refine lv_dup hx hb dX4_init_40 rfl (hp_n (n := 41) rfl ?_)
  refine q_cv (pc' := 44) Bh9 (hp_runI (As := []) (rest := [.ref ah9, .ref a0]) C Bh9 (t_X5_init Γ l βh9 Bh9.2.2.1 ah9 kh9 zh9) lb_X5_init rfl li_X5_init lk_X4_32 rfl (by decide) rfl hl.1 rfl (Nat.le_of_ble_eq_true rfl) dX4_init_41 ⟨by omega, by omega⟩) (fun q hq => gx_call Bh9.2.2 hq.1 nh9.1) rfl (fun βh10 Hh10 Lh10 ph10 Bh10 => ?_)
  have Oh10 : co α a0 5 βh10 [253, 251, 250] [(252, 0)] := co_call Oh9 ph10.1 nh9.2 (by rw [kh9]; decide)
  have kh10 : hp_K βh10 ah9 = 6 := ph10.2.1
  refine W.widen (k := 8) (n := 131305) (by omega) (by omega) ?_
  refine q_putn (κ := 105) (k := 4) (φ := 254) (pc' := 47) C Bh10 Oh10.1 fl_X4_33 rfl rfl rfl rfl rfl rfl (gx_sN Bh10.2.2 Oh10) dX4_init_44 rfl (fun βh11 Hh11 Lh11 eh11 Bh11 => ?_)
  have Oh11 : co α a0 5 βh11 [254, 253, 251, 250] [(252, 0)] := by rw [eh11]; exact co_sN Oh10 ⟨(Or.inl (by rw [kh10]; rfl)), by rw [kh10]; decide, by rw [kh10]; decide, nh9.1, (by rw [kh10]; intro q; exact absurd q (by decide))⟩
  refine lv_aload_n hx hb dX4_init_47 rfl (lv_at hl 0 rfl) (hp_n (n := 48) rfl ?_)
  refine lv_iconst (v := 0) hx hb dX4_init_48 (by decide) (hp_n (n := 49) rfl ?_)
  refine q_puti (κ := 105) (k := 5) (φ := 255) (pc' := 52) C Bh11 Oh11.1 fl_X4_37 rfl rfl rfl rfl rfl rfl (gx_sI Bh11.2.2 (gc_i0 _)) dX4_init_49 rfl (fun βh12 Hh12 Lh12 eh12 Bh12 => ?_)
  have Oh12 : co α a0 5 βh12 [254, 253, 251, 250] [(255, 0), (252, 0)] := by rw [eh12]; exact co_sI Oh11 (by decide)
  refine lv_aload_n hx hb dX4_init_52 rfl (lv_at hl 0 rfl) (hp_n (n := 53) rfl ?_)
  refine lv_iconst (v := (-1)) hx hb dX4_init_53 (by decide) (hp_n (n := 54) rfl ?_)
  refine q_puti (κ := 105) (k := 6) (φ := 256) (pc' := 57) C Bh12 Oh12.1 fl_X4_40 rfl rfl rfl rfl rfl rfl (gx_sI Bh12.2.2 (fun q => absurd q (by decide))) dX4_init_54 rfl (fun βh13 Hh13 Lh13 eh13 Bh13 => ?_)
  have Oh13 : co α a0 5 βh13 [254, 253, 251, 250] [(256, (-1)), (255, 0), (252, 0)] := by rw [eh13]; exact co_sI Oh12 (by decide)
  refine lv_aload_n hx hb dX4_init_57 rfl (lv_at hl 0 rfl) (hp_n (n := 58) rfl ?_)
  refine lv_iconst (v := 0) hx hb dX4_init_58 (by decide) (hp_n (n := 59) rfl ?_)
  refine q_puti (κ := 105) (k := 7) (φ := 257) (pc' := 62) C Bh13 Oh13.1 fl_X4_43 rfl rfl rfl rfl rfl rfl (gx_sI Bh13.2.2 (gc_i0 _)) dX4_init_59 rfl (fun βh14 Hh14 Lh14 eh14 Bh14 => ?_)
  have Oh14 : co α a0 5 βh14 [254, 253, 251, 250] [(257, 0), (256, (-1)), (255, 0), (252, 0)] := by rw [eh14]; exact co_sI Oh13 (by decide)
  refine lv_aload_n hx hb dX4_init_62 rfl (lv_at hl 0 rfl) (hp_n (n := 63) rfl ?_)
  refine lv_iconst (v := (-1)) hx hb dX4_init_63 (by decide) (hp_n (n := 64) rfl ?_)
  refine q_puti (κ := 105) (k := 8) (φ := 258) (pc' := 67) C Bh14 Oh14.1 fl_X4_46 rfl rfl rfl rfl rfl rfl (gx_sI Bh14.2.2 (fun q => absurd q (by decide))) dX4_init_64 rfl (fun βh15 Hh15 Lh15 eh15 Bh15 => ?_)
  have Oh15 : co α a0 5 βh15 [254, 253, 251, 250] [(258, (-1)), (257, 0), (256, (-1)), (255, 0), (252, 0)] := by rw [eh15]; exact co_sI Oh14 (by decide)
  refine lv_aload_n hx hb dX4_init_67 rfl (lv_at hl 0 rfl) (hp_n (n := 68) rfl ?_)
  refine lv_iconst (v := 0) hx hb dX4_init_68 (by decide) (hp_n (n := 69) rfl ?_)
  refine q_puti (κ := 105) (k := 9) (φ := 259) (pc' := 72) C Bh15 Oh15.1 fl_X4_49 rfl rfl rfl rfl rfl rfl (gx_sI Bh15.2.2 (gc_i0 _)) dX4_init_69 rfl (fun βh16 Hh16 Lh16 eh16 Bh16 => ?_)
  have Oh16 : co α a0 5 βh16 [254, 253, 251, 250] [(259, 0), (258, (-1)), (257, 0), (256, (-1)), (255, 0), (252, 0)] := by rw [eh16]; exact co_sI Oh15 (by decide)
  refine lv_aload_n hx hb dX4_init_72 rfl (lv_at hl 0 rfl) (hp_n (n := 73) rfl ?_)
  refine lv_iconst (v := 0) hx hb dX4_init_73 (by decide) (hp_n (n := 74) rfl ?_)
  refine q_puti (κ := 105) (k := 10) (φ := 260) (pc' := 77) C Bh16 Oh16.1 fl_X4_52 rfl rfl rfl rfl rfl rfl (gx_sI Bh16.2.2 (gc_i0 _)) dX4_init_74 rfl (fun βh17 Hh17 Lh17 eh17 Bh17 => ?_)
  have Oh17 : co α a0 5 βh17 [254, 253, 251, 250] [(260, 0), (259, 0), (258, (-1)), (257, 0), (256, (-1)), (255, 0), (252, 0)] := by rw [eh17]; exact co_sI Oh16 (by decide)
  obtain ⟨Bh18, kh18, fh18, -⟩ := co_fin Bh17 Oh17 (by decide) (by decide) (by decide) (fun q => absurd q (by decide))
  refine W.widen (k := 8) (n := 131305) (by omega) (by omega) ?_
  exact q_vret C Bh18 hr hlk ⟨Bh18.2.2, kh18, fh18⟩ dX4_init_77
set_option maxRecDepth 100000 in
set_option maxHeartbeats 4000000 in
theorem t_X3_init (Γ : hp_G) (l : Launch) (α : hp_T) (g : GC α) (a0 : Nat) (k0 : hp_K α a0 = 104) (z0 : ∀ φ, hp_I α φ a0 = 0) : Met l yX3_init (hp_ws yX3_init cX3_init 1 none) (hp_rm 2 10 280) (hp_Pc Γ α [.ref a0]) (hp_Qv Γ (fun β => gx a0 α β ∧ hp_K β a0 = 4 ∧ (∀ q ∈ ([(209, 0), (208, 0), (206, 0), (205, (-1)), (204, (-1)), (203, 65521)] : List (Nat × Int32)), hp_I β q.1 a0 = q.2))) 10 280 (hp_A Γ) := by
  refine hp_start (by decide) ?_
  intro p e s m below meth c C hr hlk B0 hnm
  have C : hp_C Γ p m c cX3_init 1 s ([.ref a0] : List Value).toArray RX3 := C
  have hx := C.1.1
  have hb := C.1.2.1
  have hown := C.1.2.2.2.1
  have hts := C.1.2.2.2.2
  have B : hp_B Γ (gx a0) s α α s.heap [] := ⟨B0.1, B0.2.1, gx_rf g⟩
  have O : co α a0 4 α [] [] := co_0 k0 z0
  have hl := lv_entry ([.ref a0]) (n := 1) (Nat.le_of_ble_eq_true rfl)
  show W p l e (hp_rm 2 10 280) s m ([.ref a0] : List Value).toArray below meth c s.heap [] 0 0 (MQ below (hp_Qv Γ (fun β => gx a0 α β ∧ hp_K β a0 = 4 ∧ (∀ q ∈ ([(209, 0), (208, 0), (206, 0), (205, (-1)), (204, (-1)), (203, 65521)] : List (Nat × Int32)), hp_I β q.1 a0 = q.2))) ([.ref a0] : List Value).toArray s 10 280 (hp_A Γ)) (entryFrame m ([.ref a0] : List Value).toArray 1)
  rw [lg_entry_eq]
  generalize (lg_sl ([.ref a0]) ++ List.replicate (1 - (lg_sl ([.ref a0])).length) Slot.unset).toArray = ls at hl ⊢
  have hl : lv_has ls 1 [(0, .ref a0)] := hl
  refine lv_aload_n hx hb dX3_init_0 rfl (lv_at hl 0 rfl) (hp_n (n := 1) rfl ?_)
  refine q_obj (pc' := 4) C ol_X3 hl.1 rfl (by decide) dX3_init_1 rfl ?_
  refine lv_aload_n hx hb dX3_init_4 rfl (lv_at hl 0 rfl) (hp_n (n := 5) rfl ?_)
  refine q_new (κ := 7) (N := 7) (pc' := 8) C B cl_X3_9 it_X6 iz_X6 rfl in_7 tyX6_ok df_7 (by decide) rfl rfl rfl (by omega) (by omega) dX3_init_5 rfl (fun q hq => gx_nw B.2.2 (by decide) hq) (fun βh1 ah1 Hh1 fh1 eh1 Bh1 => ?_)
  have nh1 := gx_new B.2.2 O fh1
  have Oh1 : co α a0 4 βh1 [] [] := by rw [eh1]; exact co_nw O fh1
  have kh1 : hp_K βh1 ah1 = 107 := by rw [eh1]; exact nw_k
  have zh1 : ∀ φ, hp_I βh1 φ ah1 = 0 := fun φ => by rw [eh1]; exact nw_i
  refine W.widen (k := 1) (n := 7) (by omega) (by omega) ?_
  refine lv_dup hx hb dX3_init_8 rfl (hp_n (n := 9) rfl ?_)
  refine q_cv (pc' := 12) Bh1 (hp_runI (As := []) (rest := [.ref ah1, .ref a0]) C Bh1 (t_X6_init Γ l βh1 Bh1.2.2.1 ah1 kh1 zh1) lb_X6_init rfl li_X6_init lk_X3_11 rfl (by decide) rfl hl.1 rfl (Nat.le_of_ble_eq_true rfl) dX3_init_9 ⟨by omega, by omega⟩) (fun q hq => gx_call Bh1.2.2 hq.1 nh1.1) rfl (fun βh2 Hh2 Lh2 ph2 Bh2 => ?_)
  have Oh2 : co α a0 4 βh2 [] [] := co_call Oh1 ph2.1 nh1.2 (by rw [kh1]; decide)
  have kh2 : hp_K βh2 ah1 = 7 := ph2.2.1
  refine W.widen (k := 2) (n := 7) (by omega) (by omega) ?_
  refine q_putnF (κ := 104) (k := 0) (φ := 200) (pc' := 15) C Bh2 Oh2.1 fl_X3_12 rfl rfl rfl hnm rfl rfl rfl rfl (gx_sN Bh2.2.2 Oh2) dX3_init_12 rfl (fun βh3 Hh3 Lh3 eh3 Bh3 => ?_)
  have Oh3 : co α a0 4 βh3 [200] [] := by rw [eh3]; exact co_sN Oh2 ⟨(Or.inl (by rw [kh2]; rfl)), by rw [kh2]; decide, by rw [kh2]; decide, nh1.1, (by rw [kh2]; intro q; exact absurd q (by decide))⟩
  refine lv_aload_n hx hb dX3_init_15 rfl (lv_at hl 0 rfl) (hp_n (n := 16) rfl ?_)
  refine q_new (κ := 6) (N := 2) (pc' := 19) C Bh3 cl_X3_18 it_X5 iz_X5 rfl in_6 tyX5_ok df_6 (by decide) rfl rfl rfl (by omega) (by omega) dX3_init_16 rfl (fun q hq => gx_nw Bh3.2.2 (by decide) hq) (fun βh4 ah4 Hh4 fh4 eh4 Bh4 => ?_)
  have nh4 := gx_new Bh3.2.2 Oh3 fh4
  have Oh4 : co α a0 4 βh4 [200] [] := by rw [eh4]; exact co_nw Oh3 fh4
  have kh4 : hp_K βh4 ah4 = 106 := by rw [eh4]; exact nw_k
  have zh4 : ∀ φ, hp_I βh4 φ ah4 = 0 := fun φ => by rw [eh4]; exact nw_i
  refine W.widen (k := 3) (n := 9) (by omega) (by omega) ?_
  refine lv_dup hx hb dX3_init_19 rfl (hp_n (n := 20) rfl ?_)
  refine q_cv (pc' := 23) Bh4 (hp_runI (As := []) (rest := [.ref ah4, .ref a0]) C Bh4 (t_X5_init Γ l βh4 Bh4.2.2.1 ah4 kh4 zh4) lb_X5_init rfl li_X5_init lk_X3_20 rfl (by decide) rfl hl.1 rfl (Nat.le_of_ble_eq_true rfl) dX3_init_20 ⟨by omega, by omega⟩) (fun q hq => gx_call Bh4.2.2 hq.1 nh4.1) rfl (fun βh5 Hh5 Lh5 ph5 Bh5 => ?_)
  have Oh5 : co α a0 4 βh5 [200] [] := co_call Oh4 ph5.1 nh4.2 (by rw [kh4]; decide)
  have kh5 : hp_K βh5 ah4 = 6 := ph5.2.1
  refine W.widen (k := 4) (n := 73) (by omega) (by omega) ?_
  refine q_putnF (κ := 104) (k := 1) (φ := 201) (pc' := 26) C Bh5 Oh5.1 fl_X3_21 rfl rfl rfl hnm rfl rfl rfl rfl (gx_sN Bh5.2.2 Oh5) dX3_init_23 rfl (fun βh6 Hh6 Lh6 eh6 Bh6 => ?_)
  have Oh6 : co α a0 4 βh6 [201, 200] [] := by rw [eh6]; exact co_sN Oh5 ⟨(Or.inl (by rw [kh5]; rfl)), by rw [kh5]; decide, by rw [kh5]; decide, nh4.1, (by rw [kh5]; intro q; exact absurd q (by decide))⟩
  refine lv_aload_n hx hb dX3_init_26 rfl (lv_at hl 0 rfl) (hp_n (n := 27) rfl ?_)
  refine q_new (κ := 9) (N := 5) (pc' := 30) C Bh6 cl_X3_25 it_X8 iz_X8 rfl in_9 tyX8_ok df_9 (by decide) rfl rfl rfl (by omega) (by omega) dX3_init_27 rfl (fun q hq => gx_nw Bh6.2.2 (by decide) hq) (fun βh7 ah7 Hh7 fh7 eh7 Bh7 => ?_)
  have nh7 := gx_new Bh6.2.2 Oh6 fh7
  have Oh7 : co α a0 4 βh7 [201, 200] [] := by rw [eh7]; exact co_nw Oh6 fh7
  have kh7 : hp_K βh7 ah7 = 109 := by rw [eh7]; exact nw_k
  have zh7 : ∀ φ, hp_I βh7 φ ah7 = 0 := fun φ => by rw [eh7]; exact nw_i
  refine W.widen (k := 5) (n := 78) (by omega) (by omega) ?_
  refine lv_dup hx hb dX3_init_30 rfl (hp_n (n := 31) rfl ?_)
  refine q_cv (pc' := 34) Bh7 (hp_runI (As := []) (rest := [.ref ah7, .ref a0]) C Bh7 (t_X8_init Γ l βh7 Bh7.2.2.1 ah7 kh7 zh7) lb_X8_init rfl li_X8_init lk_X3_27 rfl (by decide) rfl hl.1 rfl (Nat.le_of_ble_eq_true rfl) dX3_init_31 ⟨by omega, by omega⟩) (fun q hq => gx_call Bh7.2.2 hq.1 nh7.1) rfl (fun βh8 Hh8 Lh8 ph8 Bh8 => ?_)
  have Oh8 : co α a0 4 βh8 [201, 200] [] := co_call Oh7 ph8.1 nh7.2 (by rw [kh7]; decide)
  have kh8 : hp_K βh8 ah7 = 9 := ph8.2.1
  refine W.widen (k := 8) (n := 270) (by omega) (by omega) ?_
  refine q_putnF (κ := 104) (k := 2) (φ := 202) (pc' := 37) C Bh8 Oh8.1 fl_X3_28 rfl rfl rfl hnm rfl rfl rfl rfl (gx_sN Bh8.2.2 Oh8) dX3_init_34 rfl (fun βh9 Hh9 Lh9 eh9 Bh9 => ?_)
  have Oh9 : co α a0 4 βh9 [202, 201, 200] [] := by rw [eh9]; exact co_sN Oh8 ⟨(Or.inl (by rw [kh8]; rfl)), by rw [kh8]; decide, by rw [kh8]; decide, nh7.1, (by rw [kh8]; intro q; exact absurd q (by decide))⟩
  refine lv_aload_n hx hb dX3_init_37 rfl (lv_at hl 0 rfl) (hp_n (n := 38) rfl ?_)
  refine lv_ldc hx hb hown (hts _ kc_X3_32) dX3_init_38 (hp_n (n := 40) rfl ?_)
  refine q_puti (κ := 104) (k := 3) (φ := 203) (pc' := 43) C Bh9 Oh9.1 fl_X3_33 rfl rfl rfl rfl rfl rfl (gx_sI Bh9.2.2 (fun q => absurd q (by decide))) dX3_init_40 rfl (fun βh10 Hh10 Lh10 eh10 Bh10 => ?_)
  have Oh10 : co α a0 4 βh10 [202, 201, 200] [(203, 65521)] := by rw [eh10]; exact co_sI Oh9 (by decide)
  refine lv_aload_n hx hb dX3_init_43 rfl (lv_at hl 0 rfl) (hp_n (n := 44) rfl ?_)
  refine lv_iconst (v := (-1)) hx hb dX3_init_44 (by decide) (hp_n (n := 45) rfl ?_)
  refine q_puti (κ := 104) (k := 4) (φ := 204) (pc' := 48) C Bh10 Oh10.1 fl_X3_37 rfl rfl rfl rfl rfl rfl (gx_sI Bh10.2.2 (fun q => absurd q (by decide))) dX3_init_45 rfl (fun βh11 Hh11 Lh11 eh11 Bh11 => ?_)
  have Oh11 : co α a0 4 βh11 [202, 201, 200] [(204, (-1)), (203, 65521)] := by rw [eh11]; exact co_sI Oh10 (by decide)
  refine lv_aload_n hx hb dX3_init_48 rfl (lv_at hl 0 rfl) (hp_n (n := 49) rfl ?_)
  refine lv_iconst (v := (-1)) hx hb dX3_init_49 (by decide) (hp_n (n := 50) rfl ?_)
  refine q_puti (κ := 104) (k := 5) (φ := 205) (pc' := 53) C Bh11 Oh11.1 fl_X3_40 rfl rfl rfl rfl rfl rfl (gx_sI Bh11.2.2 (fun q => absurd q (by decide))) dX3_init_50 rfl (fun βh12 Hh12 Lh12 eh12 Bh12 => ?_)
  have Oh12 : co α a0 4 βh12 [202, 201, 200] [(205, (-1)), (204, (-1)), (203, 65521)] := by rw [eh12]; exact co_sI Oh11 (by decide)
  refine lv_aload_n hx hb dX3_init_53 rfl (lv_at hl 0 rfl) (hp_n (n := 54) rfl ?_)
  refine lv_iconst (v := 0) hx hb dX3_init_54 (by decide) (hp_n (n := 55) rfl ?_)
  refine q_puti (κ := 104) (k := 6) (φ := 206) (pc' := 58) C Bh12 Oh12.1 fl_X3_43 rfl rfl rfl rfl rfl rfl (gx_sI Bh12.2.2 (gc_i0 _)) dX3_init_55 rfl (fun βh13 Hh13 Lh13 eh13 Bh13 => ?_)
  have Oh13 : co α a0 4 βh13 [202, 201, 200] [(206, 0), (205, (-1)), (204, (-1)), (203, 65521)] := by rw [eh13]; exact co_sI Oh12 (by decide)
  refine lv_aload_n hx hb dX3_init_58 rfl (lv_at hl 0 rfl) (hp_n (n := 59) rfl ?_)
  refine q_new (κ := 10) (N := 2) (pc' := 62) C Bh13 cl_X3_46 it_X9 iz_X9 rfl in_10 tyX9_ok df_10 (by decide) rfl rfl rfl (by omega) (by omega) dX3_init_59 rfl (fun q hq => gx_nw Bh13.2.2 (by decide) hq) (fun βh14 ah14 Hh14 fh14 eh14 Bh14 => ?_)
  have nh14 := gx_new Bh13.2.2 Oh13 fh14
  have Oh14 : co α a0 4 βh14 [202, 201, 200] [(206, 0), (205, (-1)), (204, (-1)), (203, 65521)] := by rw [eh14]; exact co_nw Oh13 fh14
  have kh14 : hp_K βh14 ah14 = 110 := by rw [eh14]; exact nw_k
  have zh14 : ∀ φ, hp_I βh14 φ ah14 = 0 := fun φ => by rw [eh14]; exact nw_i
  refine W.widen (k := 9) (n := 272) (by omega) (by omega) ?_
  refine lv_dup hx hb dX3_init_62 rfl (hp_n (n := 63) rfl ?_)
  refine q_cv (pc' := 66) Bh14 (hp_runI (As := []) (rest := [.ref ah14, .ref a0]) C Bh14 (t_X9_init Γ l βh14 Bh14.2.2.1 ah14 kh14 zh14) lb_X9_init rfl li_X9_init lk_X3_48 rfl (by decide) rfl hl.1 rfl (Nat.le_of_ble_eq_true rfl) dX3_init_63 ⟨by omega, by omega⟩) (fun q hq => gx_call Bh14.2.2 hq.1 nh14.1) rfl (fun βh15 Hh15 Lh15 ph15 Bh15 => ?_)
  have Oh15 : co α a0 4 βh15 [202, 201, 200] [(206, 0), (205, (-1)), (204, (-1)), (203, 65521)] := co_call Oh14 ph15.1 nh14.2 (by rw [kh14]; decide)
  have kh15 : hp_K βh15 ah14 = 10 := ph15.2.1
  refine W.widen (k := 10) (n := 280) (by omega) (by omega) ?_
  refine q_putnF (κ := 104) (k := 7) (φ := 207) (pc' := 69) C Bh15 Oh15.1 fl_X3_49 rfl rfl rfl hnm rfl rfl rfl rfl (gx_sN Bh15.2.2 Oh15) dX3_init_66 rfl (fun βh16 Hh16 Lh16 eh16 Bh16 => ?_)
  have Oh16 : co α a0 4 βh16 [207, 202, 201, 200] [(206, 0), (205, (-1)), (204, (-1)), (203, 65521)] := by rw [eh16]; exact co_sN Oh15 ⟨(Or.inl (by rw [kh15]; rfl)), by rw [kh15]; decide, by rw [kh15]; decide, nh14.1, (by rw [kh15]; intro q; exact absurd q (by decide))⟩
  refine lv_aload_n hx hb dX3_init_69 rfl (lv_at hl 0 rfl) (hp_n (n := 70) rfl ?_)
  refine lv_iconst (v := 0) hx hb dX3_init_70 (by decide) (hp_n (n := 71) rfl ?_)
  refine q_puti (κ := 104) (k := 8) (φ := 208) (pc' := 74) C Bh16 Oh16.1 fl_X3_53 rfl rfl rfl rfl rfl rfl (gx_sI Bh16.2.2 (gc_i0 _)) dX3_init_71 rfl (fun βh17 Hh17 Lh17 eh17 Bh17 => ?_)
  have Oh17 : co α a0 4 βh17 [207, 202, 201, 200] [(208, 0), (206, 0), (205, (-1)), (204, (-1)), (203, 65521)] := by rw [eh17]; exact co_sI Oh16 (by decide)
  refine lv_aload_n hx hb dX3_init_74 rfl (lv_at hl 0 rfl) (hp_n (n := 75) rfl ?_)
  refine lv_iconst (v := 0) hx hb dX3_init_75 (by decide) (hp_n (n := 76) rfl ?_)
  refine q_puti (κ := 104) (k := 9) (φ := 209) (pc' := 79) C Bh17 Oh17.1 fl_X3_56 rfl rfl rfl rfl rfl rfl (gx_sI Bh17.2.2 (gc_i0 _)) dX3_init_76 rfl (fun βh18 Hh18 Lh18 eh18 Bh18 => ?_)
  have Oh18 : co α a0 4 βh18 [207, 202, 201, 200] [(209, 0), (208, 0), (206, 0), (205, (-1)), (204, (-1)), (203, 65521)] := by rw [eh18]; exact co_sI Oh17 (by decide)
  obtain ⟨Bh19, kh19, fh19, -⟩ := co_fin Bh18 Oh18 (by decide) (by decide) (by decide) (fun q => absurd q (by decide))
  refine W.widen (k := 10) (n := 280) (by omega) (by omega) ?_
  exact q_vret C Bh19 hr hlk ⟨Bh19.2.2, kh19, fh19⟩ dX3_init_79
set_option maxRecDepth 100000 in
set_option maxHeartbeats 4000000 in
theorem t_X10_init (Γ : hp_G) (l : Launch) (α : hp_T) (g : GC α) (a0 : Nat) (k0 : hp_K α a0 = 111) (z0 : ∀ φ, hp_I α φ a0 = 0) : Met l yX10_init (hp_ws yX10_init cX10_init 2 none) (hp_rm 3 458 3803) (hp_Pc Γ α [.ref a0]) (hp_Qv Γ (fun β => gx a0 α β ∧ hp_K β a0 = 11 ∧ (∀ q ∈ ([(556, 0), (554, 0), (552, 1), (550, 65521)] : List (Nat × Int32)), hp_I β q.1 a0 = q.2))) 458 3803 (hp_A Γ) := by
  refine hp_start (by decide) ?_
  intro p e s m below meth c C hr hlk B0 hnm
  have C : hp_C Γ p m c cX10_init 2 s ([.ref a0] : List Value).toArray RX10 := C
  have hx := C.1.1
  have hb := C.1.2.1
  have hown := C.1.2.2.2.1
  have hts := C.1.2.2.2.2
  have B : hp_B Γ (gx a0) s α α s.heap [] := ⟨B0.1, B0.2.1, gx_rf g⟩
  have O : co α a0 11 α [] [] := co_0 k0 z0
  have hl := lv_entry ([.ref a0]) (n := 2) (Nat.le_of_ble_eq_true rfl)
  show W p l e (hp_rm 3 458 3803) s m ([.ref a0] : List Value).toArray below meth c s.heap [] 0 0 (MQ below (hp_Qv Γ (fun β => gx a0 α β ∧ hp_K β a0 = 11 ∧ (∀ q ∈ ([(556, 0), (554, 0), (552, 1), (550, 65521)] : List (Nat × Int32)), hp_I β q.1 a0 = q.2))) ([.ref a0] : List Value).toArray s 458 3803 (hp_A Γ)) (entryFrame m ([.ref a0] : List Value).toArray 2)
  rw [lg_entry_eq]
  generalize (lg_sl ([.ref a0]) ++ List.replicate (2 - (lg_sl ([.ref a0])).length) Slot.unset).toArray = ls at hl ⊢
  have hl : lv_has ls 2 [(0, .ref a0)] := hl
  refine lv_aload_n hx hb dX10_init_0 rfl (lv_at hl 0 rfl) (hp_n (n := 1) rfl ?_)
  refine q_obj (pc' := 4) C ol_X10 hl.1 rfl (by decide) dX10_init_1 rfl ?_
  refine lv_aload_n hx hb dX10_init_4 rfl (lv_at hl 0 rfl) (hp_n (n := 5) rfl ?_)
  refine lv_ldc hx hb hown (hts _ kc_X10_9) dX10_init_5 (hp_n (n := 7) rfl ?_)
  refine q_puti (κ := 111) (k := 0) (φ := 550) (pc' := 10) C B O.1 fl_X10_10 rfl rfl rfl rfl rfl rfl (gx_sI B.2.2 (fun q => absurd q (by decide))) dX10_init_7 rfl (fun βh1 Hh1 Lh1 eh1 Bh1 => ?_)
  have Oh1 : co α a0 11 βh1 [] [(550, 65521)] := by rw [eh1]; exact co_sI O (by decide)
  refine lv_aload_n hx hb dX10_init_10 rfl (lv_at hl 0 rfl) (hp_n (n := 11) rfl ?_)
  refine lv_iconst (v := 4) hx hb dX10_init_11 (by decide) (hp_n (n := 12) rfl ?_)
  refine q_anew (κ := 30) (t := 4) (n := 4) (Cn := "ProvenRecord$Log") (pc' := 15) C Bh1 cl_X10_16 ao_X2 (by decide) rfl (by decide) rfl (by decide) (by decide +kernel) (Nat.le_of_ble_eq_true rfl) rfl (by omega) (by omega) dX10_init_12 rfl (fun q hq => gx_nw Bh1.2.2 (by decide) hq) (fun βh2 ah2 Hh2 fh2 eh2 Bh2 => ?_)
  have nh2 := gx_new Bh1.2.2 Oh1 fh2
  have Oh2 : co α a0 11 βh2 [] [(550, 65521)] := by rw [eh2]; exact co_nw Oh1 fh2
  have kh2 : hp_K βh2 ah2 = 30 := by rw [eh2]; exact nw_k
  refine W.widen (k := 1) (n := 4) (by omega) (by omega) ?_
  refine q_putnF (κ := 111) (k := 1) (φ := 551) (pc' := 18) C Bh2 Oh2.1 fl_X10_18 rfl rfl rfl hnm rfl rfl rfl rfl (gx_sN Bh2.2.2 Oh2) dX10_init_15 rfl (fun βh3 Hh3 Lh3 eh3 Bh3 => ?_)
  have Oh3 : co α a0 11 βh3 [551] [(550, 65521)] := by rw [eh3]; exact co_sN Oh2 ⟨(Or.inl (by rw [kh2]; rfl)), by rw [kh2]; decide, by rw [kh2]; decide, nh2.1, (fun _ j => by rw [eh2]; exact nw_e)⟩
  refine lv_aload_n hx hb dX10_init_18 rfl (lv_at hl 0 rfl) (hp_n (n := 19) rfl ?_)
  refine lv_iconst (v := 1) hx hb dX10_init_19 (by decide) (hp_n (n := 20) rfl ?_)
  refine q_puti (κ := 111) (k := 2) (φ := 552) (pc' := 23) C Bh3 Oh3.1 fl_X10_22 rfl rfl rfl rfl rfl rfl (gx_sI Bh3.2.2 (fun q => absurd q (by decide))) dX10_init_20 rfl (fun βh4 Hh4 Lh4 eh4 Bh4 => ?_)
  have Oh4 : co α a0 11 βh4 [551] [(552, 1), (550, 65521)] := by rw [eh4]; exact co_sI Oh3 (by decide)
  refine lv_aload_n hx hb dX10_init_23 rfl (lv_at hl 0 rfl) (hp_n (n := 24) rfl ?_)
  refine lv_bipush (v := 16) hx hb dX10_init_24 (by decide) (hp_n (n := 26) rfl ?_)
  refine q_anew (κ := 31) (t := 5) (n := 16) (Cn := "ProvenRecord$Frozen") (pc' := 29) C Bh4 cl_X10_25 ao_X1 (by decide) rfl (by decide) rfl (by decide) (by decide +kernel) (Nat.le_of_ble_eq_true rfl) rfl (by omega) (by omega) dX10_init_26 rfl (fun q hq => gx_nw Bh4.2.2 (by decide) hq) (fun βh5 ah5 Hh5 fh5 eh5 Bh5 => ?_)
  have nh5 := gx_new Bh4.2.2 Oh4 fh5
  have Oh5 : co α a0 11 βh5 [551] [(552, 1), (550, 65521)] := by rw [eh5]; exact co_nw Oh4 fh5
  have kh5 : hp_K βh5 ah5 = 31 := by rw [eh5]; exact nw_k
  refine W.widen (k := 2) (n := 20) (by omega) (by omega) ?_
  refine q_putnF (κ := 111) (k := 3) (φ := 553) (pc' := 32) C Bh5 Oh5.1 fl_X10_27 rfl rfl rfl hnm rfl rfl rfl rfl (gx_sN Bh5.2.2 Oh5) dX10_init_29 rfl (fun βh6 Hh6 Lh6 eh6 Bh6 => ?_)
  have Oh6 : co α a0 11 βh6 [553, 551] [(552, 1), (550, 65521)] := by rw [eh6]; exact co_sN Oh5 ⟨(Or.inl (by rw [kh5]; rfl)), by rw [kh5]; decide, by rw [kh5]; decide, nh5.1, (fun _ j => by rw [eh5]; exact nw_e)⟩
  refine lv_aload_n hx hb dX10_init_32 rfl (lv_at hl 0 rfl) (hp_n (n := 33) rfl ?_)
  refine lv_iconst (v := 0) hx hb dX10_init_33 (by decide) (hp_n (n := 34) rfl ?_)
  refine q_puti (κ := 111) (k := 4) (φ := 554) (pc' := 37) C Bh6 Oh6.1 fl_X10_31 rfl rfl rfl rfl rfl rfl (gx_sI Bh6.2.2 (gc_i0 _)) dX10_init_34 rfl (fun βh7 Hh7 Lh7 eh7 Bh7 => ?_)
  have Oh7 : co α a0 11 βh7 [553, 551] [(554, 0), (552, 1), (550, 65521)] := by rw [eh7]; exact co_sI Oh6 (by decide)
  refine lv_aload_n hx hb dX10_init_37 rfl (lv_at hl 0 rfl) (hp_n (n := 38) rfl ?_)
  refine lv_iconst (v := 4) hx hb dX10_init_38 (by decide) (hp_n (n := 39) rfl ?_)
  refine q_anew (κ := 32) (t := 6) (n := 4) (Cn := "ProvenRecord$Watcher") (pc' := 42) C Bh7 cl_X10_34 ao_X7 (by decide) rfl (by decide) rfl (by decide) (by decide +kernel) (Nat.le_of_ble_eq_true rfl) rfl (by omega) (by omega) dX10_init_39 rfl (fun q hq => gx_nw Bh7.2.2 (by decide) hq) (fun βh8 ah8 Hh8 fh8 eh8 Bh8 => ?_)
  have nh8 := gx_new Bh7.2.2 Oh7 fh8
  have Oh8 : co α a0 11 βh8 [553, 551] [(554, 0), (552, 1), (550, 65521)] := by rw [eh8]; exact co_nw Oh7 fh8
  have kh8 : hp_K βh8 ah8 = 32 := by rw [eh8]; exact nw_k
  refine W.widen (k := 3) (n := 24) (by omega) (by omega) ?_
  refine q_putnF (κ := 111) (k := 5) (φ := 555) (pc' := 45) C Bh8 Oh8.1 fl_X10_36 rfl rfl rfl hnm rfl rfl rfl rfl (gx_sN Bh8.2.2 Oh8) dX10_init_42 rfl (fun βh9 Hh9 Lh9 eh9 Bh9 => ?_)
  have Oh9 : co α a0 11 βh9 [555, 553, 551] [(554, 0), (552, 1), (550, 65521)] := by rw [eh9]; exact co_sN Oh8 ⟨(Or.inl (by rw [kh8]; rfl)), by rw [kh8]; decide, by rw [kh8]; decide, nh8.1, (fun _ j => by rw [eh8]; exact nw_e)⟩
  refine lv_aload_n hx hb dX10_init_45 rfl (lv_at hl 0 rfl) (hp_n (n := 46) rfl ?_)
  refine lv_iconst (v := 0) hx hb dX10_init_46 (by decide) (hp_n (n := 47) rfl ?_)
  refine q_puti (κ := 111) (k := 6) (φ := 556) (pc' := 50) C Bh9 Oh9.1 fl_X10_40 rfl rfl rfl rfl rfl rfl (gx_sI Bh9.2.2 (gc_i0 _)) dX10_init_47 rfl (fun βh10 Hh10 Lh10 eh10 Bh10 => ?_)
  have Oh10 : co α a0 11 βh10 [555, 553, 551] [(556, 0), (554, 0), (552, 1), (550, 65521)] := by rw [eh10]; exact co_sI Oh9 (by decide)
  refine lv_aload_n hx hb dX10_init_50 rfl (lv_at hl 0 rfl) (hp_n (n := 51) rfl ?_)
  refine lv_bipush (v := 48) hx hb dX10_init_51 (by decide) (hp_n (n := 53) rfl ?_)
  refine q_newa (κ := 33) (t := 0) (n := 48) (atype := .int) (ty := .int) (dv := .int 0) (pc' := 55) C Bh10 ac_int rfl (by decide) rfl rfl (fun _ _ q => q) rfl (fun _ cA => nw_cx (by decide) cA) (by decide) (by decide +kernel) (Nat.le_of_ble_eq_true rfl) rfl (by omega) (by omega) dX10_init_53 rfl (fun q hq => gx_nw Bh10.2.2 (by decide) hq) (fun βh11 ah11 Hh11 fh11 eh11 Bh11 => ?_)
  have nh11 := gx_new Bh10.2.2 Oh10 fh11
  have Oh11 : co α a0 11 βh11 [555, 553, 551] [(556, 0), (554, 0), (552, 1), (550, 65521)] := by rw [eh11]; exact co_nw Oh10 fh11
  have kh11 : hp_K βh11 ah11 = 33 := by rw [eh11]; exact nw_k
  refine W.widen (k := 4) (n := 72) (by omega) (by omega) ?_
  refine q_putnF (κ := 111) (k := 7) (φ := 557) (pc' := 58) C Bh11 Oh11.1 fl_X10_43 rfl rfl rfl hnm rfl rfl rfl rfl (gx_sN Bh11.2.2 Oh11) dX10_init_55 rfl (fun βh12 Hh12 Lh12 eh12 Bh12 => ?_)
  have Oh12 : co α a0 11 βh12 [557, 555, 553, 551] [(556, 0), (554, 0), (552, 1), (550, 65521)] := by rw [eh12]; exact co_sN Oh11 ⟨(Or.inl (by rw [kh11]; rfl)), by rw [kh11]; decide, by rw [kh11]; decide, nh11.1, (fun _ j => by rw [eh11]; exact nw_e)⟩
  refine lv_aload_n hx hb dX10_init_58 rfl (lv_at hl 0 rfl) (hp_n (n := 59) rfl ?_)
  refine q_new (κ := 6) (N := 2) (pc' := 62) C Bh12 cl_X10_47 it_X5 iz_X5 rfl in_6 tyX5_ok df_6 (by decide) rfl rfl rfl (by omega) (by omega) dX10_init_59 rfl (fun q hq => gx_nw Bh12.2.2 (by decide) hq) (fun βh13 ah13 Hh13 fh13 eh13 Bh13 => ?_)
  have nh13 := gx_new Bh12.2.2 Oh12 fh13
  have Oh13 : co α a0 11 βh13 [557, 555, 553, 551] [(556, 0), (554, 0), (552, 1), (550, 65521)] := by rw [eh13]; exact co_nw Oh12 fh13
  have kh13 : hp_K βh13 ah13 = 106 := by rw [eh13]; exact nw_k
  have zh13 : ∀ φ, hp_I βh13 φ ah13 = 0 := fun φ => by rw [eh13]; exact nw_i
  refine W.widen (k := 5) (n := 74) (by omega) (by omega) ?_
  refine lv_dup hx hb dX10_init_62 rfl (hp_n (n := 63) rfl ?_)
  refine q_cv (pc' := 66) Bh13 (hp_runI (As := []) (rest := [.ref ah13, .ref a0]) C Bh13 (t_X5_init Γ l βh13 Bh13.2.2.1 ah13 kh13 zh13) lb_X5_init rfl li_X5_init lk_X10_49 rfl (by decide) rfl hl.1 rfl (Nat.le_of_ble_eq_true rfl) dX10_init_63 ⟨by omega, by omega⟩) (fun q hq => gx_call Bh13.2.2 hq.1 nh13.1) rfl (fun βh14 Hh14 Lh14 ph14 Bh14 => ?_)
  have Oh14 : co α a0 11 βh14 [557, 555, 553, 551] [(556, 0), (554, 0), (552, 1), (550, 65521)] := co_call Oh13 ph14.1 nh13.2 (by rw [kh13]; decide)
  have kh14 : hp_K βh14 ah13 = 6 := ph14.2.1
  refine W.widen (k := 6) (n := 138) (by omega) (by omega) ?_
  refine q_putnF (κ := 111) (k := 8) (φ := 558) (pc' := 69) C Bh14 Oh14.1 fl_X10_50 rfl rfl rfl hnm rfl rfl rfl rfl (gx_sN Bh14.2.2 Oh14) dX10_init_66 rfl (fun βh15 Hh15 Lh15 eh15 Bh15 => ?_)
  have Oh15 : co α a0 11 βh15 [558, 557, 555, 553, 551] [(556, 0), (554, 0), (552, 1), (550, 65521)] := by rw [eh15]; exact co_sN Oh14 ⟨(Or.inl (by rw [kh14]; rfl)), by rw [kh14]; decide, by rw [kh14]; decide, nh13.1, (by rw [kh14]; intro q; exact absurd q (by decide))⟩
  refine lv_aload_n hx hb dX10_init_69 rfl (lv_at hl 0 rfl) (hp_n (n := 70) rfl ?_)
  refine q_new (κ := 9) (N := 5) (pc' := 73) C Bh15 cl_X10_54 it_X8 iz_X8 rfl in_9 tyX8_ok df_9 (by decide) rfl rfl rfl (by omega) (by omega) dX10_init_70 rfl (fun q hq => gx_nw Bh15.2.2 (by decide) hq) (fun βh16 ah16 Hh16 fh16 eh16 Bh16 => ?_)
  have nh16 := gx_new Bh15.2.2 Oh15 fh16
  have Oh16 : co α a0 11 βh16 [558, 557, 555, 553, 551] [(556, 0), (554, 0), (552, 1), (550, 65521)] := by rw [eh16]; exact co_nw Oh15 fh16
  have kh16 : hp_K βh16 ah16 = 109 := by rw [eh16]; exact nw_k
  have zh16 : ∀ φ, hp_I βh16 φ ah16 = 0 := fun φ => by rw [eh16]; exact nw_i
  refine W.widen (k := 7) (n := 143) (by omega) (by omega) ?_
  refine lv_dup hx hb dX10_init_73 rfl (hp_n (n := 74) rfl ?_)
  refine q_cv (pc' := 77) Bh16 (hp_runI (As := []) (rest := [.ref ah16, .ref a0]) C Bh16 (t_X8_init Γ l βh16 Bh16.2.2.1 ah16 kh16 zh16) lb_X8_init rfl li_X8_init lk_X10_56 rfl (by decide) rfl hl.1 rfl (Nat.le_of_ble_eq_true rfl) dX10_init_74 ⟨by omega, by omega⟩) (fun q hq => gx_call Bh16.2.2 hq.1 nh16.1) rfl (fun βh17 Hh17 Lh17 ph17 Bh17 => ?_)
  have Oh17 : co α a0 11 βh17 [558, 557, 555, 553, 551] [(556, 0), (554, 0), (552, 1), (550, 65521)] := co_call Oh16 ph17.1 nh16.2 (by rw [kh16]; decide)
  have kh17 : hp_K βh17 ah16 = 9 := ph17.2.1
  refine W.widen (k := 10) (n := 335) (by omega) (by omega) ?_
  refine q_putnF (κ := 111) (k := 9) (φ := 559) (pc' := 80) C Bh17 Oh17.1 fl_X10_57 rfl rfl rfl hnm rfl rfl rfl rfl (gx_sN Bh17.2.2 Oh17) dX10_init_77 rfl (fun βh18 Hh18 Lh18 eh18 Bh18 => ?_)
  have Oh18 : co α a0 11 βh18 [559, 558, 557, 555, 553, 551] [(556, 0), (554, 0), (552, 1), (550, 65521)] := by rw [eh18]; exact co_sN Oh17 ⟨(Or.inl (by rw [kh17]; rfl)), by rw [kh17]; decide, by rw [kh17]; decide, nh16.1, (by rw [kh17]; intro q; exact absurd q (by decide))⟩
  refine lv_iconst (v := 0) hx hb dX10_init_80 (by decide) (hp_n (n := 81) rfl ?_)
  refine lv_istore_n (lv' := [(1, .int 0), (0, .ref a0)]) hx hb dX10_init_81 rfl hl (by decide) rfl (fun ls hl => hp_n (n := 82) rfl ?_)
  have J82 : ∀ (nq : Nat) (βh19 : hp_T) (Hh19 : Heap) (Lh19 : List Loc) (Bh19 : hp_B Γ (gx a0) s α βh19 Hh19 Lh19) (Oh19 : co α a0 11 βh19 [559, 558, 557, 555, 553, 551] [(556, 0), (554, 0), (552, 1), (550, 65521)]) (vh19 : Int32) (j82 : Nat) (hk82 : vh19.toInt = (j82 : Int)) (hj82 : j82 ≤ 4) (hm82 : 4 - j82 = nq) (ls : Array Slot) (hl : lv_has ls 2 [(0, .ref a0), (1, .int vh19)]), W p l e (hp_rm 3 458 3803) s m ([.ref a0] : List Value).toArray below meth c Hh19 Lh19 (10 + 99 * j82) (335 + 579 * j82) (MQ below (hp_Qv Γ (fun β => gx a0 α β ∧ hp_K β a0 = 11 ∧ (∀ q ∈ ([(556, 0), (554, 0), (552, 1), (550, 65521)] : List (Nat × Int32)), hp_I β q.1 a0 = q.2))) ([.ref a0] : List Value).toArray s 458 3803 (hp_A Γ)) (F0 m 82 ls []) := by
    intro nq
    induction nq using Nat.strongRecOn with
    | ind nq ih82 =>
    intro βh19 Hh19 Lh19 Bh19 Oh19 vh19 j82 hk82 hj82 hm82 ls hl
    have litn : (4 : Int32).toInt = 4 := by decide
    obtain ⟨xh19, x1h19, x2h19, x3h19, -, x5h19, -⟩ := Oh19.2.1 551 (by decide)
    have kxh19 : hp_K βh19 xh19 = 30 := by rcases x2h19 with q | q; exact q; exact absurd q.1 (by decide)
    have lth19 : hp_K βh19 xh19 ≠ 0 ∧ True := ⟨x3h19, trivial⟩
    refine lv_iload_n hx hb dX10_init_82 rfl (lv_at hl 1 rfl) (hp_n (n := 83) rfl ?_)
    refine lv_aload_n hx hb dX10_init_83 rfl (lv_at hl 0 rfl) (hp_n (n := 84) rfl ?_)
    refine q_get (v := .ref xh19) (κ := 111) (k := 1) (t := 3) (pc' := 87) C Bh19 Oh19.1 fl_X10_18 rfl rfl (by show va_rf (hp_N βh19 551 a0) = _; rw [x1h19]; rfl) dX10_init_84 rfl ?_
    refine q_alen (κ := 30) (t := 4) (n := 4) (x := 4) (ty := .object "ProvenRecord$Log") (pc' := 88) C Bh19 kxh19 (by decide) rfl rfl rfl dX10_init_87 rfl ?_
    refine lv_icmp_ge (tgt := 110) hx hb dX10_init_88 (by decide) (fun cq => ?_) (fun cq => hp_n (n := 91) rfl ?_)
    · have cq := il_le cq
      rw [litn] at cq
      refine W.widen (k := 406) (n := 2651) (by omega) (by omega) ?_
      refine lv_iconst (v := 0) hx hb dX10_init_110 (by decide) (hp_n (n := 111) rfl ?_)
      refine lv_istore_n (lv' := [(1, .int 0), (0, .ref a0)]) hx hb dX10_init_111 rfl hl (by decide) rfl (fun ls hl => hp_n (n := 112) rfl ?_)
      have J112 : ∀ (nq : Nat) (βh20 : hp_T) (Hh20 : Heap) (Lh20 : List Loc) (Bh20 : hp_B Γ (gx a0) s α βh20 Hh20 Lh20) (Oh20 : co α a0 11 βh20 [559, 558, 557, 555, 553, 551] [(556, 0), (554, 0), (552, 1), (550, 65521)]) (vh20 : Int32) (j112 : Nat) (hk112 : vh20.toInt = (j112 : Int)) (hj112 : j112 ≤ 16) (hm112 : 16 - j112 = nq) (ls : Array Slot) (hl : lv_has ls 2 [(0, .ref a0), (1, .int vh20)]), W p l e (hp_rm 3 458 3803) s m ([.ref a0] : List Value).toArray below meth c Hh20 Lh20 (406 + 3 * j112) (2651 + 71 * j112) (MQ below (hp_Qv Γ (fun β => gx a0 α β ∧ hp_K β a0 = 11 ∧ (∀ q ∈ ([(556, 0), (554, 0), (552, 1), (550, 65521)] : List (Nat × Int32)), hp_I β q.1 a0 = q.2))) ([.ref a0] : List Value).toArray s 458 3803 (hp_A Γ)) (F0 m 112 ls []) := by
        intro nq
        induction nq using Nat.strongRecOn with
        | ind nq ih112 =>
        intro βh20 Hh20 Lh20 Bh20 Oh20 vh20 j112 hk112 hj112 hm112 ls hl
        have litn : (16 : Int32).toInt = 16 := by decide
        obtain ⟨xh20, x1h20, x2h20, x3h20, -, x5h20, -⟩ := Oh20.2.1 553 (by decide)
        have kxh20 : hp_K βh20 xh20 = 31 := by rcases x2h20 with q | q; exact q; exact absurd q.1 (by decide)
        have lth20 : hp_K βh20 xh20 ≠ 0 ∧ True := ⟨x3h20, trivial⟩
        refine lv_iload_n hx hb dX10_init_112 rfl (lv_at hl 1 rfl) (hp_n (n := 113) rfl ?_)
        refine lv_aload_n hx hb dX10_init_113 rfl (lv_at hl 0 rfl) (hp_n (n := 114) rfl ?_)
        refine q_get (v := .ref xh20) (κ := 111) (k := 3) (t := 3) (pc' := 117) C Bh20 Oh20.1 fl_X10_27 rfl rfl (by show va_rf (hp_N βh20 553 a0) = _; rw [x1h20]; rfl) dX10_init_114 rfl ?_
        refine q_alen (κ := 31) (t := 5) (n := 16) (x := 16) (ty := .object "ProvenRecord$Frozen") (pc' := 118) C Bh20 kxh20 (by decide) rfl rfl rfl dX10_init_117 rfl ?_
        refine lv_icmp_ge (tgt := 140) hx hb dX10_init_118 (by decide) (fun cq => ?_) (fun cq => hp_n (n := 121) rfl ?_)
        · have cq := il_le cq
          rw [litn] at cq
          refine W.widen (k := 454) (n := 3787) (by omega) (by omega) ?_
          refine lv_iconst (v := 0) hx hb dX10_init_140 (by decide) (hp_n (n := 141) rfl ?_)
          refine lv_istore_n (lv' := [(1, .int 0), (0, .ref a0)]) hx hb dX10_init_141 rfl hl (by decide) rfl (fun ls hl => hp_n (n := 142) rfl ?_)
          have J142 : ∀ (nq : Nat) (βh21 : hp_T) (Hh21 : Heap) (Lh21 : List Loc) (Bh21 : hp_B Γ (gx a0) s α βh21 Hh21 Lh21) (Oh21 : co α a0 11 βh21 [559, 558, 557, 555, 553, 551] [(556, 0), (554, 0), (552, 1), (550, 65521)]) (vh21 : Int32) (j142 : Nat) (hk142 : vh21.toInt = (j142 : Int)) (hj142 : j142 ≤ 4) (hm142 : 4 - j142 = nq) (ls : Array Slot) (hl : lv_has ls 2 [(0, .ref a0), (1, .int vh21)]), W p l e (hp_rm 3 458 3803) s m ([.ref a0] : List Value).toArray below meth c Hh21 Lh21 (454 + 1 * j142) (3787 + 4 * j142) (MQ below (hp_Qv Γ (fun β => gx a0 α β ∧ hp_K β a0 = 11 ∧ (∀ q ∈ ([(556, 0), (554, 0), (552, 1), (550, 65521)] : List (Nat × Int32)), hp_I β q.1 a0 = q.2))) ([.ref a0] : List Value).toArray s 458 3803 (hp_A Γ)) (F0 m 142 ls []) := by
            intro nq
            induction nq using Nat.strongRecOn with
            | ind nq ih142 =>
            intro βh21 Hh21 Lh21 Bh21 Oh21 vh21 j142 hk142 hj142 hm142 ls hl
            have litn : (4 : Int32).toInt = 4 := by decide
            obtain ⟨xh21, x1h21, x2h21, x3h21, -, x5h21, -⟩ := Oh21.2.1 555 (by decide)
            have kxh21 : hp_K βh21 xh21 = 32 := by rcases x2h21 with q | q; exact q; exact absurd q.1 (by decide)
            have lth21 : hp_K βh21 xh21 ≠ 0 ∧ True := ⟨x3h21, trivial⟩
            refine lv_iload_n hx hb dX10_init_142 rfl (lv_at hl 1 rfl) (hp_n (n := 143) rfl ?_)
            refine lv_aload_n hx hb dX10_init_143 rfl (lv_at hl 0 rfl) (hp_n (n := 144) rfl ?_)
            refine q_get (v := .ref xh21) (κ := 111) (k := 5) (t := 3) (pc' := 147) C Bh21 Oh21.1 fl_X10_36 rfl rfl (by show va_rf (hp_N βh21 555 a0) = _; rw [x1h21]; rfl) dX10_init_144 rfl ?_
            refine q_alen (κ := 32) (t := 6) (n := 4) (x := 4) (ty := .object "ProvenRecord$Watcher") (pc' := 148) C Bh21 kxh21 (by decide) rfl rfl rfl dX10_init_147 rfl ?_
            refine lv_icmp_ge (tgt := 170) hx hb dX10_init_148 (by decide) (fun cq => ?_) (fun cq => hp_n (n := 151) rfl ?_)
            · have cq := il_le cq
              rw [litn] at cq
              refine W.widen (k := 458) (n := 3803) (by omega) (by omega) ?_
              obtain ⟨Bh22, kh22, fh22, -⟩ := co_fin Bh21 Oh21 (by decide) (by decide) (by decide) (fun q => absurd q (by decide))
              refine W.widen (k := 458) (n := 3803) (by omega) (by omega) ?_
              exact q_vret C Bh22 hr hlk ⟨Bh22.2.2, kh22, fh22⟩ dX10_init_170
            have cq := il_nle cq
            rw [litn] at cq
            refine lv_aload_n hx hb dX10_init_151 rfl (lv_at hl 0 rfl) (hp_n (n := 152) rfl ?_)
            refine q_get (v := .ref xh21) (κ := 111) (k := 5) (t := 3) (pc' := 155) C Bh21 Oh21.1 fl_X10_36 rfl rfl (by show va_rf (hp_N βh21 555 a0) = _; rw [x1h21]; rfl) dX10_init_152 rfl ?_
            refine lv_iload_n hx hb dX10_init_155 rfl (lv_at hl 1 rfl) (hp_n (n := 156) rfl ?_)
            refine q_new (κ := 8) (N := 4) (pc' := 159) C Bh21 cl_X10_34 it_X7 iz_X7 rfl in_8 tyX7_ok df_8 (by decide) rfl rfl rfl (by omega) (by omega) dX10_init_156 rfl (fun q hq => gx_nw Bh21.2.2 (by decide) hq) (fun βh23 ah23 Hh23 fh23 eh23 Bh23 => ?_)
            have nh23 := gx_new Bh21.2.2 Oh21 fh23
            have Oh23 : co α a0 11 βh23 [559, 558, 557, 555, 553, 551] [(556, 0), (554, 0), (552, 1), (550, 65521)] := by rw [eh23]; exact co_nw Oh21 fh23
            have kh23 : hp_K βh23 ah23 = 108 := by rw [eh23]; exact nw_k
            have zh23 : ∀ φ, hp_I βh23 φ ah23 = 0 := fun φ => by rw [eh23]; exact nw_i
            have sh23 : sa βh21 βh23 xh21 := by rw [eh23]; exact sa_nw (fun q => lth21.1 (by rw [q]; exact fh23))
            refine W.widen (k := 454 + 1 * j142 + 1) (n := 3787 + 4 * j142 + 4) (by omega) (by omega) ?_
            refine lv_dup hx hb dX10_init_159 rfl (hp_n (n := 160) rfl ?_)
            refine q_cv (pc' := 163) Bh23 (hp_runI (As := []) (rest := [.ref ah23, .int vh21, .ref xh21]) C Bh23 (t_X7_init Γ l βh23 Bh23.2.2.1 ah23 kh23 zh23) lb_X7_init rfl li_X7_init lk_X10_63 rfl (by decide) rfl hl.1 rfl (Nat.le_of_ble_eq_true rfl) dX10_init_160 ⟨by omega, by omega⟩) (fun q hq => gx_call Bh23.2.2 hq.1 nh23.1) rfl (fun βh24 Hh24 Lh24 ph24 Bh24 => ?_)
            have Oh24 : co α a0 11 βh24 [559, 558, 557, 555, 553, 551] [(556, 0), (554, 0), (552, 1), (550, 65521)] := co_call Oh23 ph24.1 nh23.2 (by rw [kh23]; decide)
            have kh24 : hp_K βh24 ah23 = 8 := ph24.2.1
            have sh24 : sa βh23 βh24 xh21 := ph24.1.2 xh21 (fun q => by have := kh23; rw [← q, sh23.1, kxh21] at this; cases this) (by rw [sh23.1]; exact lth21.1)
            have krh24 : hp_K βh24 xh21 = 32 := by rw [sh24.1, sh23.1]; exact kxh21
            refine W.widen (k := 454 + 1 * j142 + 1) (n := 3787 + 4 * j142 + 4) (by omega) (by omega) ?_
            refine q_aas (κ := 32) (t := 6) (n := 4) (κv := 8) (r := hp_q 8) (pc' := 164) C Bh24 krh24 (by decide) rfl (by decide) kh24 rfl rfl rfl (vi_of (by omega) (by omega)) rfl (gx_sQ Bh24.2.2 x5h21 (by rw [kh24]; rfl)) dX10_init_163 rfl (fun βh25 Hh25 Lh25 eh25 Bh25 => ?_)
            have Oh25 : co α a0 11 βh25 [559, 558, 557, 555, 553, 551] [(556, 0), (554, 0), (552, 1), (550, 65521)] := by rw [eh25]; exact co_sQ Oh24
            obtain ⟨v26, ev26⟩ : ∃ y : Int32, y = vh21 + 1 := ⟨_, rfl⟩
            have qv26 : v26.toInt = vh21.toInt + 1 := by rw [ev26]; exact ii_add (x := vh21) (y := 1) (by rw [show (1 : Int32).toInt = 1 from rfl]; omega) (by rw [show (1 : Int32).toInt = 1 from rfl]; omega)
            refine lv_iinc (v := v26) (lv' := [(1, .int v26), (0, .ref a0)]) hx hb dX10_init_164 hl (k := 1) rfl (by rw [ev26]; rfl) (by decide) rfl (fun ls hl => hp_n (n := 167) rfl ?_)
            refine lv_goto (tgt := 142) hx hb dX10_init_167 (by decide) ?_
            refine W.widen (k := 454 + 1 * (j142 + 1)) (n := 3787 + 4 * (j142 + 1)) (by omega) (by omega) ?_
            exact ih142 _ (by omega) βh25 Hh25 Lh25 Bh25 Oh25 v26 (j142 + 1) (by omega) (by omega) rfl ls (lv_sub hl [1, 0] rfl)
          exact J142 _ βh20 Hh20 Lh20 Bh20 Oh20 0 0 rfl (by decide) rfl ls (lv_sub hl [1, 0] rfl)
        have cq := il_nle cq
        rw [litn] at cq
        refine lv_aload_n hx hb dX10_init_121 rfl (lv_at hl 0 rfl) (hp_n (n := 122) rfl ?_)
        refine q_get (v := .ref xh20) (κ := 111) (k := 3) (t := 3) (pc' := 125) C Bh20 Oh20.1 fl_X10_27 rfl rfl (by show va_rf (hp_N βh20 553 a0) = _; rw [x1h20]; rfl) dX10_init_122 rfl ?_
        refine lv_iload_n hx hb dX10_init_125 rfl (lv_at hl 1 rfl) (hp_n (n := 126) rfl ?_)
        refine q_new (κ := 2) (N := 5) (pc' := 129) C Bh20 cl_X10_25 it_X1 iz_X1 rfl in_2 tyX1_ok df_2 (by decide) rfl rfl rfl (by omega) (by omega) dX10_init_126 rfl (fun q hq => gx_nw Bh20.2.2 (by decide) hq) (fun βh27 ah27 Hh27 fh27 eh27 Bh27 => ?_)
        have nh27 := gx_new Bh20.2.2 Oh20 fh27
        have Oh27 : co α a0 11 βh27 [559, 558, 557, 555, 553, 551] [(556, 0), (554, 0), (552, 1), (550, 65521)] := by rw [eh27]; exact co_nw Oh20 fh27
        have kh27 : hp_K βh27 ah27 = 102 := by rw [eh27]; exact nw_k
        have zh27 : ∀ φ, hp_I βh27 φ ah27 = 0 := fun φ => by rw [eh27]; exact nw_i
        have sh27 : sa βh20 βh27 xh20 := by rw [eh27]; exact sa_nw (fun q => lth20.1 (by rw [q]; exact fh27))
        refine W.widen (k := 406 + 3 * j112 + 1) (n := 2651 + 71 * j112 + 5) (by omega) (by omega) ?_
        refine lv_dup hx hb dX10_init_129 rfl (hp_n (n := 130) rfl ?_)
        refine q_cv (pc' := 133) Bh27 (hp_runI (As := []) (rest := [.ref ah27, .int vh20, .ref xh20]) C Bh27 (t_X1_init Γ l βh27 Bh27.2.2.1 ah27 kh27 zh27) lb_X1_init rfl li_X1_init lk_X10_62 rfl (by decide) rfl hl.1 rfl (Nat.le_of_ble_eq_true rfl) dX10_init_130 ⟨by omega, by omega⟩) (fun q hq => gx_call Bh27.2.2 hq.1 nh27.1) rfl (fun βh28 Hh28 Lh28 ph28 Bh28 => ?_)
        have Oh28 : co α a0 11 βh28 [559, 558, 557, 555, 553, 551] [(556, 0), (554, 0), (552, 1), (550, 65521)] := co_call Oh27 ph28.1 nh27.2 (by rw [kh27]; decide)
        have kh28 : hp_K βh28 ah27 = 2 := ph28.2.1
        have sh28 : sa βh27 βh28 xh20 := ph28.1.2 xh20 (fun q => by have := kh27; rw [← q, sh27.1, kxh20] at this; cases this) (by rw [sh27.1]; exact lth20.1)
        have krh28 : hp_K βh28 xh20 = 31 := by rw [sh28.1, sh27.1]; exact kxh20
        refine W.widen (k := 406 + 3 * j112 + 3) (n := 2651 + 71 * j112 + 71) (by omega) (by omega) ?_
        refine q_aas (κ := 31) (t := 5) (n := 16) (κv := 2) (r := hp_q 2) (pc' := 134) C Bh28 krh28 (by decide) rfl (by decide) kh28 rfl rfl rfl (vi_of (by omega) (by omega)) rfl (gx_sQ Bh28.2.2 x5h20 (by rw [kh28]; rfl)) dX10_init_133 rfl (fun βh29 Hh29 Lh29 eh29 Bh29 => ?_)
        have Oh29 : co α a0 11 βh29 [559, 558, 557, 555, 553, 551] [(556, 0), (554, 0), (552, 1), (550, 65521)] := by rw [eh29]; exact co_sQ Oh28
        obtain ⟨v30, ev30⟩ : ∃ y : Int32, y = vh20 + 1 := ⟨_, rfl⟩
        have qv30 : v30.toInt = vh20.toInt + 1 := by rw [ev30]; exact ii_add (x := vh20) (y := 1) (by rw [show (1 : Int32).toInt = 1 from rfl]; omega) (by rw [show (1 : Int32).toInt = 1 from rfl]; omega)
        refine lv_iinc (v := v30) (lv' := [(1, .int v30), (0, .ref a0)]) hx hb dX10_init_134 hl (k := 1) rfl (by rw [ev30]; rfl) (by decide) rfl (fun ls hl => hp_n (n := 137) rfl ?_)
        refine lv_goto (tgt := 112) hx hb dX10_init_137 (by decide) ?_
        refine W.widen (k := 406 + 3 * (j112 + 1)) (n := 2651 + 71 * (j112 + 1)) (by omega) (by omega) ?_
        exact ih112 _ (by omega) βh29 Hh29 Lh29 Bh29 Oh29 v30 (j112 + 1) (by omega) (by omega) rfl ls (lv_sub hl [1, 0] rfl)
      exact J112 _ βh19 Hh19 Lh19 Bh19 Oh19 0 0 rfl (by decide) rfl ls (lv_sub hl [1, 0] rfl)
    have cq := il_nle cq
    rw [litn] at cq
    refine lv_aload_n hx hb dX10_init_91 rfl (lv_at hl 0 rfl) (hp_n (n := 92) rfl ?_)
    refine q_get (v := .ref xh19) (κ := 111) (k := 1) (t := 3) (pc' := 95) C Bh19 Oh19.1 fl_X10_18 rfl rfl (by show va_rf (hp_N βh19 551 a0) = _; rw [x1h19]; rfl) dX10_init_92 rfl ?_
    refine lv_iload_n hx hb dX10_init_95 rfl (lv_at hl 1 rfl) (hp_n (n := 96) rfl ?_)
    refine q_new (κ := 3) (N := 3) (pc' := 99) C Bh19 cl_X10_16 it_X2 iz_X2 rfl in_3 tyX2_ok df_3 (by decide) rfl rfl rfl (by omega) (by omega) dX10_init_96 rfl (fun q hq => gx_nw Bh19.2.2 (by decide) hq) (fun βh31 ah31 Hh31 fh31 eh31 Bh31 => ?_)
    have nh31 := gx_new Bh19.2.2 Oh19 fh31
    have Oh31 : co α a0 11 βh31 [559, 558, 557, 555, 553, 551] [(556, 0), (554, 0), (552, 1), (550, 65521)] := by rw [eh31]; exact co_nw Oh19 fh31
    have kh31 : hp_K βh31 ah31 = 103 := by rw [eh31]; exact nw_k
    have zh31 : ∀ φ, hp_I βh31 φ ah31 = 0 := fun φ => by rw [eh31]; exact nw_i
    have sh31 : sa βh19 βh31 xh19 := by rw [eh31]; exact sa_nw (fun q => lth19.1 (by rw [q]; exact fh31))
    refine W.widen (k := 10 + 99 * j82 + 1) (n := 335 + 579 * j82 + 3) (by omega) (by omega) ?_
    refine lv_dup hx hb dX10_init_99 rfl (hp_n (n := 100) rfl ?_)
    refine q_cv (pc' := 103) Bh31 (hp_runI (As := []) (rest := [.ref ah31, .int vh19, .ref xh19]) C Bh31 (t_X2_init Γ l βh31 Bh31.2.2.1 ah31 kh31 zh31) lb_X2_init rfl li_X2_init lk_X10_61 rfl (by decide) rfl hl.1 rfl (Nat.le_of_ble_eq_true rfl) dX10_init_100 ⟨by omega, by omega⟩) (fun q hq => gx_call Bh31.2.2 hq.1 nh31.1) rfl (fun βh32 Hh32 Lh32 ph32 Bh32 => ?_)
    have Oh32 : co α a0 11 βh32 [559, 558, 557, 555, 553, 551] [(556, 0), (554, 0), (552, 1), (550, 65521)] := co_call Oh31 ph32.1 nh31.2 (by rw [kh31]; decide)
    have kh32 : hp_K βh32 ah31 = 3 := ph32.2.1
    have sh32 : sa βh31 βh32 xh19 := ph32.1.2 xh19 (fun q => by have := kh31; rw [← q, sh31.1, kxh19] at this; cases this) (by rw [sh31.1]; exact lth19.1)
    have krh32 : hp_K βh32 xh19 = 30 := by rw [sh32.1, sh31.1]; exact kxh19
    refine W.widen (k := 10 + 99 * j82 + 99) (n := 335 + 579 * j82 + 579) (by omega) (by omega) ?_
    refine q_aas (κ := 30) (t := 4) (n := 4) (κv := 3) (r := hp_q 3) (pc' := 104) C Bh32 krh32 (by decide) rfl (by decide) kh32 rfl rfl rfl (vi_of (by omega) (by omega)) rfl (gx_sQ Bh32.2.2 x5h19 (by rw [kh32]; rfl)) dX10_init_103 rfl (fun βh33 Hh33 Lh33 eh33 Bh33 => ?_)
    have Oh33 : co α a0 11 βh33 [559, 558, 557, 555, 553, 551] [(556, 0), (554, 0), (552, 1), (550, 65521)] := by rw [eh33]; exact co_sQ Oh32
    obtain ⟨v34, ev34⟩ : ∃ y : Int32, y = vh19 + 1 := ⟨_, rfl⟩
    have qv34 : v34.toInt = vh19.toInt + 1 := by rw [ev34]; exact ii_add (x := vh19) (y := 1) (by rw [show (1 : Int32).toInt = 1 from rfl]; omega) (by rw [show (1 : Int32).toInt = 1 from rfl]; omega)
    refine lv_iinc (v := v34) (lv' := [(1, .int v34), (0, .ref a0)]) hx hb dX10_init_104 hl (k := 1) rfl (by rw [ev34]; rfl) (by decide) rfl (fun ls hl => hp_n (n := 107) rfl ?_)
    refine lv_goto (tgt := 82) hx hb dX10_init_107 (by decide) ?_
    refine W.widen (k := 10 + 99 * (j82 + 1)) (n := 335 + 579 * (j82 + 1)) (by omega) (by omega) ?_
    exact ih82 _ (by omega) βh33 Hh33 Lh33 Bh33 Oh33 v34 (j82 + 1) (by omega) (by omega) rfl ls (lv_sub hl [1, 0] rfl)
  exact J82 _ βh18 Hh18 Lh18 Bh18 Oh18 0 0 rfl (by decide) rfl ls (lv_sub hl [1, 0] rfl)
set_option maxRecDepth 100000 in
set_option maxHeartbeats 4000000 in
theorem t_X11_init (Γ : hp_G) (l : Launch) (α : hp_T) (g : GC α) (a0 : Nat) (k0 : hp_K α a0 = 112) (z0 : ∀ φ, hp_I α φ a0 = 0) : Met l yX11_init (hp_ws yX11_init cX11_init 1 none) (hp_rm 4 955 10077) (hp_Pc Γ α [.ref a0]) (hp_Qv Γ (fun β => gx a0 α β ∧ hp_K β a0 = 12 ∧ (∀ q ∈ ([(611, 0), (605, 0), (600, 0)] : List (Nat × Int32)), hp_I β q.1 a0 = q.2) ∧ hp_N β 618 a0 = none)) 955 10077 (hp_A Γ) := by
  refine hp_start (by decide) ?_
  intro p e s m below meth c C hr hlk B0 hnm
  have C : hp_C Γ p m c cX11_init 1 s ([.ref a0] : List Value).toArray RX11 := C
  have hx := C.1.1
  have hb := C.1.2.1
  have hown := C.1.2.2.2.1
  have hts := C.1.2.2.2.2
  have B : hp_B Γ (gx a0) s α α s.heap [] := ⟨B0.1, B0.2.1, gx_rf g⟩
  have O : co α a0 12 α [] [] := co_0 k0 z0
  have hl := lv_entry ([.ref a0]) (n := 1) (Nat.le_of_ble_eq_true rfl)
  show W p l e (hp_rm 4 955 10077) s m ([.ref a0] : List Value).toArray below meth c s.heap [] 0 0 (MQ below (hp_Qv Γ (fun β => gx a0 α β ∧ hp_K β a0 = 12 ∧ (∀ q ∈ ([(611, 0), (605, 0), (600, 0)] : List (Nat × Int32)), hp_I β q.1 a0 = q.2) ∧ hp_N β 618 a0 = none)) ([.ref a0] : List Value).toArray s 955 10077 (hp_A Γ)) (entryFrame m ([.ref a0] : List Value).toArray 1)
  rw [lg_entry_eq]
  generalize (lg_sl ([.ref a0]) ++ List.replicate (1 - (lg_sl ([.ref a0])).length) Slot.unset).toArray = ls at hl ⊢
  have hl : lv_has ls 1 [(0, .ref a0)] := hl
  refine lv_aload_n hx hb dX11_init_0 rfl (lv_at hl 0 rfl) (hp_n (n := 1) rfl ?_)
  refine q_obj (pc' := 4) C ol_X11 hl.1 rfl (by decide) dX11_init_1 rfl ?_
  refine lv_aload_n hx hb dX11_init_4 rfl (lv_at hl 0 rfl) (hp_n (n := 5) rfl ?_)
  refine lv_iconst (v := 0) hx hb dX11_init_5 (by decide) (hp_n (n := 6) rfl ?_)
  refine q_puti (κ := 112) (k := 0) (φ := 600) (pc' := 9) C B O.1 fl_X11_9 rfl rfl rfl rfl rfl rfl (gx_sI B.2.2 (gc_i0 _)) dX11_init_6 rfl (fun βh1 Hh1 Lh1 eh1 Bh1 => ?_)
  have Oh1 : co α a0 12 βh1 [] [(600, 0)] := by rw [eh1]; exact co_sI O (by decide)
  refine lv_aload_n hx hb dX11_init_9 rfl (lv_at hl 0 rfl) (hp_n (n := 10) rfl ?_)
  refine q_new (κ := 11) (N := 10) (pc' := 13) C Bh1 cl_X11_13 it_X10 iz_X10 rfl in_11 tyX10_ok df_11 (by decide) rfl rfl rfl (by omega) (by omega) dX11_init_10 rfl (fun q hq => gx_nw Bh1.2.2 (by decide) hq) (fun βh2 ah2 Hh2 fh2 eh2 Bh2 => ?_)
  have nh2 := gx_new Bh1.2.2 Oh1 fh2
  have Oh2 : co α a0 12 βh2 [] [(600, 0)] := by rw [eh2]; exact co_nw Oh1 fh2
  have kh2 : hp_K βh2 ah2 = 111 := by rw [eh2]; exact nw_k
  have zh2 : ∀ φ, hp_I βh2 φ ah2 = 0 := fun φ => by rw [eh2]; exact nw_i
  refine W.widen (k := 1) (n := 10) (by omega) (by omega) ?_
  refine lv_dup hx hb dX11_init_13 rfl (hp_n (n := 14) rfl ?_)
  refine q_cv (pc' := 17) Bh2 (hp_runI (As := []) (rest := [.ref ah2, .ref a0]) C Bh2 (t_X10_init Γ l βh2 Bh2.2.2.1 ah2 kh2 zh2) lb_X10_init rfl li_X10_init lk_X11_15 rfl (by decide) rfl hl.1 rfl (Nat.le_of_ble_eq_true rfl) dX11_init_14 ⟨by omega, by omega⟩) (fun q hq => gx_call Bh2.2.2 hq.1 nh2.1) rfl (fun βh3 Hh3 Lh3 ph3 Bh3 => ?_)
  have Oh3 : co α a0 12 βh3 [] [(600, 0)] := co_call Oh2 ph3.1 nh2.2 (by rw [kh2]; decide)
  have kh3 : hp_K βh3 ah2 = 11 := ph3.2.1
  refine W.widen (k := 459) (n := 3813) (by omega) (by omega) ?_
  refine q_putn (κ := 112) (k := 1) (φ := 601) (pc' := 20) C Bh3 Oh3.1 fl_X11_16 rfl rfl rfl rfl rfl rfl (gx_sN Bh3.2.2 Oh3) dX11_init_17 rfl (fun βh4 Hh4 Lh4 eh4 Bh4 => ?_)
  have Oh4 : co α a0 12 βh4 [601] [(600, 0)] := by rw [eh4]; exact co_sN Oh3 ⟨(Or.inl (by rw [kh3]; rfl)), by rw [kh3]; decide, by rw [kh3]; decide, nh2.1, (by rw [kh3]; intro q; exact absurd q (by decide))⟩
  refine lv_aload_n hx hb dX11_init_20 rfl (lv_at hl 0 rfl) (hp_n (n := 21) rfl ?_)
  refine q_new (κ := 11) (N := 10) (pc' := 24) C Bh4 cl_X11_13 it_X10 iz_X10 rfl in_11 tyX10_ok df_11 (by decide) rfl rfl rfl (by omega) (by omega) dX11_init_21 rfl (fun q hq => gx_nw Bh4.2.2 (by decide) hq) (fun βh5 ah5 Hh5 fh5 eh5 Bh5 => ?_)
  have nh5 := gx_new Bh4.2.2 Oh4 fh5
  have Oh5 : co α a0 12 βh5 [601] [(600, 0)] := by rw [eh5]; exact co_nw Oh4 fh5
  have kh5 : hp_K βh5 ah5 = 111 := by rw [eh5]; exact nw_k
  have zh5 : ∀ φ, hp_I βh5 φ ah5 = 0 := fun φ => by rw [eh5]; exact nw_i
  refine W.widen (k := 460) (n := 3823) (by omega) (by omega) ?_
  refine lv_dup hx hb dX11_init_24 rfl (hp_n (n := 25) rfl ?_)
  refine q_cv (pc' := 28) Bh5 (hp_runI (As := []) (rest := [.ref ah5, .ref a0]) C Bh5 (t_X10_init Γ l βh5 Bh5.2.2.1 ah5 kh5 zh5) lb_X10_init rfl li_X10_init lk_X11_15 rfl (by decide) rfl hl.1 rfl (Nat.le_of_ble_eq_true rfl) dX11_init_25 ⟨by omega, by omega⟩) (fun q hq => gx_call Bh5.2.2 hq.1 nh5.1) rfl (fun βh6 Hh6 Lh6 ph6 Bh6 => ?_)
  have Oh6 : co α a0 12 βh6 [601] [(600, 0)] := co_call Oh5 ph6.1 nh5.2 (by rw [kh5]; decide)
  have kh6 : hp_K βh6 ah5 = 11 := ph6.2.1
  refine W.widen (k := 918) (n := 7626) (by omega) (by omega) ?_
  refine q_putn (κ := 112) (k := 2) (φ := 602) (pc' := 31) C Bh6 Oh6.1 fl_X11_20 rfl rfl rfl rfl rfl rfl (gx_sN Bh6.2.2 Oh6) dX11_init_28 rfl (fun βh7 Hh7 Lh7 eh7 Bh7 => ?_)
  have Oh7 : co α a0 12 βh7 [602, 601] [(600, 0)] := by rw [eh7]; exact co_sN Oh6 ⟨(Or.inl (by rw [kh6]; rfl)), by rw [kh6]; decide, by rw [kh6]; decide, nh5.1, (by rw [kh6]; intro q; exact absurd q (by decide))⟩
  refine lv_aload_n hx hb dX11_init_31 rfl (lv_at hl 0 rfl) (hp_n (n := 32) rfl ?_)
  refine q_new (κ := 6) (N := 2) (pc' := 35) C Bh7 cl_X11_23 it_X5 iz_X5 rfl in_6 tyX5_ok df_6 (by decide) rfl rfl rfl (by omega) (by omega) dX11_init_32 rfl (fun q hq => gx_nw Bh7.2.2 (by decide) hq) (fun βh8 ah8 Hh8 fh8 eh8 Bh8 => ?_)
  have nh8 := gx_new Bh7.2.2 Oh7 fh8
  have Oh8 : co α a0 12 βh8 [602, 601] [(600, 0)] := by rw [eh8]; exact co_nw Oh7 fh8
  have kh8 : hp_K βh8 ah8 = 106 := by rw [eh8]; exact nw_k
  have zh8 : ∀ φ, hp_I βh8 φ ah8 = 0 := fun φ => by rw [eh8]; exact nw_i
  refine W.widen (k := 919) (n := 7628) (by omega) (by omega) ?_
  refine lv_dup hx hb dX11_init_35 rfl (hp_n (n := 36) rfl ?_)
  refine q_cv (pc' := 39) Bh8 (hp_runI (As := []) (rest := [.ref ah8, .ref a0]) C Bh8 (t_X5_init Γ l βh8 Bh8.2.2.1 ah8 kh8 zh8) lb_X5_init rfl li_X5_init lk_X11_25 rfl (by decide) rfl hl.1 rfl (Nat.le_of_ble_eq_true rfl) dX11_init_36 ⟨by omega, by omega⟩) (fun q hq => gx_call Bh8.2.2 hq.1 nh8.1) rfl (fun βh9 Hh9 Lh9 ph9 Bh9 => ?_)
  have Oh9 : co α a0 12 βh9 [602, 601] [(600, 0)] := co_call Oh8 ph9.1 nh8.2 (by rw [kh8]; decide)
  have kh9 : hp_K βh9 ah8 = 6 := ph9.2.1
  refine W.widen (k := 920) (n := 7692) (by omega) (by omega) ?_
  refine q_putnF (κ := 112) (k := 3) (φ := 603) (pc' := 42) C Bh9 Oh9.1 fl_X11_26 rfl rfl rfl hnm rfl rfl rfl rfl (gx_sN Bh9.2.2 Oh9) dX11_init_39 rfl (fun βh10 Hh10 Lh10 eh10 Bh10 => ?_)
  have Oh10 : co α a0 12 βh10 [603, 602, 601] [(600, 0)] := by rw [eh10]; exact co_sN Oh9 ⟨(Or.inl (by rw [kh9]; rfl)), by rw [kh9]; decide, by rw [kh9]; decide, nh8.1, (by rw [kh9]; intro q; exact absurd q (by decide))⟩
  refine lv_aload_n hx hb dX11_init_42 rfl (lv_at hl 0 rfl) (hp_n (n := 43) rfl ?_)
  refine lv_sipush (v := 900) hx hb dX11_init_43 (by decide) (hp_n (n := 46) rfl ?_)
  refine q_newa (κ := 24) (t := 1) (n := 900) (atype := .byte) (ty := .byte) (dv := .int 0) (pc' := 48) C Bh10 ac_byte rfl (by decide) rfl rfl (fun _ _ q => q) rfl (fun _ cA => nw_cx (by decide) cA) (by decide) (by decide +kernel) (Nat.le_of_ble_eq_true rfl) rfl (by omega) (by omega) dX11_init_46 rfl (fun q hq => gx_nw Bh10.2.2 (by decide) hq) (fun βh11 ah11 Hh11 fh11 eh11 Bh11 => ?_)
  have nh11 := gx_new Bh10.2.2 Oh10 fh11
  have Oh11 : co α a0 12 βh11 [603, 602, 601] [(600, 0)] := by rw [eh11]; exact co_nw Oh10 fh11
  have kh11 : hp_K βh11 ah11 = 24 := by rw [eh11]; exact nw_k
  refine W.widen (k := 921) (n := 8592) (by omega) (by omega) ?_
  refine q_putnF (κ := 112) (k := 4) (φ := 604) (pc' := 51) C Bh11 Oh11.1 fl_X11_30 rfl rfl rfl hnm rfl rfl rfl rfl (gx_sN Bh11.2.2 Oh11) dX11_init_48 rfl (fun βh12 Hh12 Lh12 eh12 Bh12 => ?_)
  have Oh12 : co α a0 12 βh12 [604, 603, 602, 601] [(600, 0)] := by rw [eh12]; exact co_sN Oh11 ⟨(Or.inl (by rw [kh11]; rfl)), by rw [kh11]; decide, by rw [kh11]; decide, nh11.1, (fun _ j => by rw [eh11]; exact nw_e)⟩
  refine lv_aload_n hx hb dX11_init_51 rfl (lv_at hl 0 rfl) (hp_n (n := 52) rfl ?_)
  refine lv_iconst (v := 0) hx hb dX11_init_52 (by decide) (hp_n (n := 53) rfl ?_)
  refine q_puti (κ := 112) (k := 5) (φ := 605) (pc' := 56) C Bh12 Oh12.1 fl_X11_34 rfl rfl rfl rfl rfl rfl (gx_sI Bh12.2.2 (gc_i0 _)) dX11_init_53 rfl (fun βh13 Hh13 Lh13 eh13 Bh13 => ?_)
  have Oh13 : co α a0 12 βh13 [604, 603, 602, 601] [(605, 0), (600, 0)] := by rw [eh13]; exact co_sI Oh12 (by decide)
  refine lv_aload_n hx hb dX11_init_56 rfl (lv_at hl 0 rfl) (hp_n (n := 57) rfl ?_)
  refine q_new (κ := 10) (N := 2) (pc' := 60) C Bh13 cl_X11_37 it_X9 iz_X9 rfl in_10 tyX9_ok df_10 (by decide) rfl rfl rfl (by omega) (by omega) dX11_init_57 rfl (fun q hq => gx_nw Bh13.2.2 (by decide) hq) (fun βh14 ah14 Hh14 fh14 eh14 Bh14 => ?_)
  have nh14 := gx_new Bh13.2.2 Oh13 fh14
  have Oh14 : co α a0 12 βh14 [604, 603, 602, 601] [(605, 0), (600, 0)] := by rw [eh14]; exact co_nw Oh13 fh14
  have kh14 : hp_K βh14 ah14 = 110 := by rw [eh14]; exact nw_k
  have zh14 : ∀ φ, hp_I βh14 φ ah14 = 0 := fun φ => by rw [eh14]; exact nw_i
  refine W.widen (k := 922) (n := 8594) (by omega) (by omega) ?_
  refine lv_dup hx hb dX11_init_60 rfl (hp_n (n := 61) rfl ?_)
  refine q_cv (pc' := 64) Bh14 (hp_runI (As := []) (rest := [.ref ah14, .ref a0]) C Bh14 (t_X9_init Γ l βh14 Bh14.2.2.1 ah14 kh14 zh14) lb_X9_init rfl li_X9_init lk_X11_39 rfl (by decide) rfl hl.1 rfl (Nat.le_of_ble_eq_true rfl) dX11_init_61 ⟨by omega, by omega⟩) (fun q hq => gx_call Bh14.2.2 hq.1 nh14.1) rfl (fun βh15 Hh15 Lh15 ph15 Bh15 => ?_)
  have Oh15 : co α a0 12 βh15 [604, 603, 602, 601] [(605, 0), (600, 0)] := co_call Oh14 ph15.1 nh14.2 (by rw [kh14]; decide)
  have kh15 : hp_K βh15 ah14 = 10 := ph15.2.1
  refine W.widen (k := 923) (n := 8602) (by omega) (by omega) ?_
  refine q_putn (κ := 112) (k := 6) (φ := 606) (pc' := 67) C Bh15 Oh15.1 fl_X11_40 rfl rfl rfl rfl rfl rfl (gx_sN Bh15.2.2 Oh15) dX11_init_64 rfl (fun βh16 Hh16 Lh16 eh16 Bh16 => ?_)
  have Oh16 : co α a0 12 βh16 [606, 604, 603, 602, 601] [(605, 0), (600, 0)] := by rw [eh16]; exact co_sN Oh15 ⟨(Or.inl (by rw [kh15]; rfl)), by rw [kh15]; decide, by rw [kh15]; decide, nh14.1, (by rw [kh15]; intro q; exact absurd q (by decide))⟩
  refine lv_aload_n hx hb dX11_init_67 rfl (lv_at hl 0 rfl) (hp_n (n := 68) rfl ?_)
  refine q_new (κ := 10) (N := 2) (pc' := 71) C Bh16 cl_X11_37 it_X9 iz_X9 rfl in_10 tyX9_ok df_10 (by decide) rfl rfl rfl (by omega) (by omega) dX11_init_68 rfl (fun q hq => gx_nw Bh16.2.2 (by decide) hq) (fun βh17 ah17 Hh17 fh17 eh17 Bh17 => ?_)
  have nh17 := gx_new Bh16.2.2 Oh16 fh17
  have Oh17 : co α a0 12 βh17 [606, 604, 603, 602, 601] [(605, 0), (600, 0)] := by rw [eh17]; exact co_nw Oh16 fh17
  have kh17 : hp_K βh17 ah17 = 110 := by rw [eh17]; exact nw_k
  have zh17 : ∀ φ, hp_I βh17 φ ah17 = 0 := fun φ => by rw [eh17]; exact nw_i
  refine W.widen (k := 924) (n := 8604) (by omega) (by omega) ?_
  refine lv_dup hx hb dX11_init_71 rfl (hp_n (n := 72) rfl ?_)
  refine q_cv (pc' := 75) Bh17 (hp_runI (As := []) (rest := [.ref ah17, .ref a0]) C Bh17 (t_X9_init Γ l βh17 Bh17.2.2.1 ah17 kh17 zh17) lb_X9_init rfl li_X9_init lk_X11_39 rfl (by decide) rfl hl.1 rfl (Nat.le_of_ble_eq_true rfl) dX11_init_72 ⟨by omega, by omega⟩) (fun q hq => gx_call Bh17.2.2 hq.1 nh17.1) rfl (fun βh18 Hh18 Lh18 ph18 Bh18 => ?_)
  have Oh18 : co α a0 12 βh18 [606, 604, 603, 602, 601] [(605, 0), (600, 0)] := co_call Oh17 ph18.1 nh17.2 (by rw [kh17]; decide)
  have kh18 : hp_K βh18 ah17 = 10 := ph18.2.1
  refine W.widen (k := 925) (n := 8612) (by omega) (by omega) ?_
  refine q_putn (κ := 112) (k := 7) (φ := 607) (pc' := 78) C Bh18 Oh18.1 fl_X11_44 rfl rfl rfl rfl rfl rfl (gx_sN Bh18.2.2 Oh18) dX11_init_75 rfl (fun βh19 Hh19 Lh19 eh19 Bh19 => ?_)
  have Oh19 : co α a0 12 βh19 [607, 606, 604, 603, 602, 601] [(605, 0), (600, 0)] := by rw [eh19]; exact co_sN Oh18 ⟨(Or.inl (by rw [kh18]; rfl)), by rw [kh18]; decide, by rw [kh18]; decide, nh17.1, (by rw [kh18]; intro q; exact absurd q (by decide))⟩
  refine lv_aload_n hx hb dX11_init_78 rfl (lv_at hl 0 rfl) (hp_n (n := 79) rfl ?_)
  refine q_new (κ := 6) (N := 2) (pc' := 82) C Bh19 cl_X11_23 it_X5 iz_X5 rfl in_6 tyX5_ok df_6 (by decide) rfl rfl rfl (by omega) (by omega) dX11_init_79 rfl (fun q hq => gx_nw Bh19.2.2 (by decide) hq) (fun βh20 ah20 Hh20 fh20 eh20 Bh20 => ?_)
  have nh20 := gx_new Bh19.2.2 Oh19 fh20
  have Oh20 : co α a0 12 βh20 [607, 606, 604, 603, 602, 601] [(605, 0), (600, 0)] := by rw [eh20]; exact co_nw Oh19 fh20
  have kh20 : hp_K βh20 ah20 = 106 := by rw [eh20]; exact nw_k
  have zh20 : ∀ φ, hp_I βh20 φ ah20 = 0 := fun φ => by rw [eh20]; exact nw_i
  refine W.widen (k := 926) (n := 8614) (by omega) (by omega) ?_
  refine lv_dup hx hb dX11_init_82 rfl (hp_n (n := 83) rfl ?_)
  refine q_cv (pc' := 86) Bh20 (hp_runI (As := []) (rest := [.ref ah20, .ref a0]) C Bh20 (t_X5_init Γ l βh20 Bh20.2.2.1 ah20 kh20 zh20) lb_X5_init rfl li_X5_init lk_X11_25 rfl (by decide) rfl hl.1 rfl (Nat.le_of_ble_eq_true rfl) dX11_init_83 ⟨by omega, by omega⟩) (fun q hq => gx_call Bh20.2.2 hq.1 nh20.1) rfl (fun βh21 Hh21 Lh21 ph21 Bh21 => ?_)
  have Oh21 : co α a0 12 βh21 [607, 606, 604, 603, 602, 601] [(605, 0), (600, 0)] := co_call Oh20 ph21.1 nh20.2 (by rw [kh20]; decide)
  have kh21 : hp_K βh21 ah20 = 6 := ph21.2.1
  refine W.widen (k := 927) (n := 8678) (by omega) (by omega) ?_
  refine q_putn (κ := 112) (k := 8) (φ := 608) (pc' := 89) C Bh21 Oh21.1 fl_X11_47 rfl rfl rfl rfl rfl rfl (gx_sN Bh21.2.2 Oh21) dX11_init_86 rfl (fun βh22 Hh22 Lh22 eh22 Bh22 => ?_)
  have Oh22 : co α a0 12 βh22 [608, 607, 606, 604, 603, 602, 601] [(605, 0), (600, 0)] := by rw [eh22]; exact co_sN Oh21 ⟨(Or.inl (by rw [kh21]; rfl)), by rw [kh21]; decide, by rw [kh21]; decide, nh20.1, (by rw [kh21]; intro q; exact absurd q (by decide))⟩
  refine lv_aload_n hx hb dX11_init_89 rfl (lv_at hl 0 rfl) (hp_n (n := 90) rfl ?_)
  refine q_new (κ := 6) (N := 2) (pc' := 93) C Bh22 cl_X11_23 it_X5 iz_X5 rfl in_6 tyX5_ok df_6 (by decide) rfl rfl rfl (by omega) (by omega) dX11_init_90 rfl (fun q hq => gx_nw Bh22.2.2 (by decide) hq) (fun βh23 ah23 Hh23 fh23 eh23 Bh23 => ?_)
  have nh23 := gx_new Bh22.2.2 Oh22 fh23
  have Oh23 : co α a0 12 βh23 [608, 607, 606, 604, 603, 602, 601] [(605, 0), (600, 0)] := by rw [eh23]; exact co_nw Oh22 fh23
  have kh23 : hp_K βh23 ah23 = 106 := by rw [eh23]; exact nw_k
  have zh23 : ∀ φ, hp_I βh23 φ ah23 = 0 := fun φ => by rw [eh23]; exact nw_i
  refine W.widen (k := 928) (n := 8680) (by omega) (by omega) ?_
  refine lv_dup hx hb dX11_init_93 rfl (hp_n (n := 94) rfl ?_)
  refine q_cv (pc' := 97) Bh23 (hp_runI (As := []) (rest := [.ref ah23, .ref a0]) C Bh23 (t_X5_init Γ l βh23 Bh23.2.2.1 ah23 kh23 zh23) lb_X5_init rfl li_X5_init lk_X11_25 rfl (by decide) rfl hl.1 rfl (Nat.le_of_ble_eq_true rfl) dX11_init_94 ⟨by omega, by omega⟩) (fun q hq => gx_call Bh23.2.2 hq.1 nh23.1) rfl (fun βh24 Hh24 Lh24 ph24 Bh24 => ?_)
  have Oh24 : co α a0 12 βh24 [608, 607, 606, 604, 603, 602, 601] [(605, 0), (600, 0)] := co_call Oh23 ph24.1 nh23.2 (by rw [kh23]; decide)
  have kh24 : hp_K βh24 ah23 = 6 := ph24.2.1
  refine W.widen (k := 929) (n := 8744) (by omega) (by omega) ?_
  refine q_putn (κ := 112) (k := 9) (φ := 609) (pc' := 100) C Bh24 Oh24.1 fl_X11_50 rfl rfl rfl rfl rfl rfl (gx_sN Bh24.2.2 Oh24) dX11_init_97 rfl (fun βh25 Hh25 Lh25 eh25 Bh25 => ?_)
  have Oh25 : co α a0 12 βh25 [609, 608, 607, 606, 604, 603, 602, 601] [(605, 0), (600, 0)] := by rw [eh25]; exact co_sN Oh24 ⟨(Or.inl (by rw [kh24]; rfl)), by rw [kh24]; decide, by rw [kh24]; decide, nh23.1, (by rw [kh24]; intro q; exact absurd q (by decide))⟩
  refine lv_aload_n hx hb dX11_init_100 rfl (lv_at hl 0 rfl) (hp_n (n := 101) rfl ?_)
  refine lv_sipush (v := 256) hx hb dX11_init_101 (by decide) (hp_n (n := 104) rfl ?_)
  refine q_newa (κ := 25) (t := 1) (n := 256) (atype := .byte) (ty := .byte) (dv := .int 0) (pc' := 106) C Bh25 ac_byte rfl (by decide) rfl rfl (fun _ _ q => q) rfl (fun _ cA => nw_cx (by decide) cA) (by decide) (by decide +kernel) (Nat.le_of_ble_eq_true rfl) rfl (by omega) (by omega) dX11_init_104 rfl (fun q hq => gx_nw Bh25.2.2 (by decide) hq) (fun βh26 ah26 Hh26 fh26 eh26 Bh26 => ?_)
  have nh26 := gx_new Bh25.2.2 Oh25 fh26
  have Oh26 : co α a0 12 βh26 [609, 608, 607, 606, 604, 603, 602, 601] [(605, 0), (600, 0)] := by rw [eh26]; exact co_nw Oh25 fh26
  have kh26 : hp_K βh26 ah26 = 25 := by rw [eh26]; exact nw_k
  refine W.widen (k := 930) (n := 9000) (by omega) (by omega) ?_
  refine q_putnF (κ := 112) (k := 10) (φ := 610) (pc' := 109) C Bh26 Oh26.1 fl_X11_53 rfl rfl rfl hnm rfl rfl rfl rfl (gx_sN Bh26.2.2 Oh26) dX11_init_106 rfl (fun βh27 Hh27 Lh27 eh27 Bh27 => ?_)
  have Oh27 : co α a0 12 βh27 [610, 609, 608, 607, 606, 604, 603, 602, 601] [(605, 0), (600, 0)] := by rw [eh27]; exact co_sN Oh26 ⟨(Or.inl (by rw [kh26]; rfl)), by rw [kh26]; decide, by rw [kh26]; decide, nh26.1, (fun _ j => by rw [eh26]; exact nw_e)⟩
  refine lv_aload_n hx hb dX11_init_109 rfl (lv_at hl 0 rfl) (hp_n (n := 110) rfl ?_)
  refine lv_iconst (v := 0) hx hb dX11_init_110 (by decide) (hp_n (n := 111) rfl ?_)
  refine q_puti (κ := 112) (k := 11) (φ := 611) (pc' := 114) C Bh27 Oh27.1 fl_X11_56 rfl rfl rfl rfl rfl rfl (gx_sI Bh27.2.2 (gc_i0 _)) dX11_init_111 rfl (fun βh28 Hh28 Lh28 eh28 Bh28 => ?_)
  have Oh28 : co α a0 12 βh28 [610, 609, 608, 607, 606, 604, 603, 602, 601] [(611, 0), (605, 0), (600, 0)] := by rw [eh28]; exact co_sI Oh27 (by decide)
  refine lv_aload_n hx hb dX11_init_114 rfl (lv_at hl 0 rfl) (hp_n (n := 115) rfl ?_)
  refine q_new (κ := 9) (N := 5) (pc' := 118) C Bh28 cl_X11_59 it_X8 iz_X8 rfl in_9 tyX8_ok df_9 (by decide) rfl rfl rfl (by omega) (by omega) dX11_init_115 rfl (fun q hq => gx_nw Bh28.2.2 (by decide) hq) (fun βh29 ah29 Hh29 fh29 eh29 Bh29 => ?_)
  have nh29 := gx_new Bh28.2.2 Oh28 fh29
  have Oh29 : co α a0 12 βh29 [610, 609, 608, 607, 606, 604, 603, 602, 601] [(611, 0), (605, 0), (600, 0)] := by rw [eh29]; exact co_nw Oh28 fh29
  have kh29 : hp_K βh29 ah29 = 109 := by rw [eh29]; exact nw_k
  have zh29 : ∀ φ, hp_I βh29 φ ah29 = 0 := fun φ => by rw [eh29]; exact nw_i
  refine W.widen (k := 931) (n := 9005) (by omega) (by omega) ?_
  refine lv_dup hx hb dX11_init_118 rfl (hp_n (n := 119) rfl ?_)
  refine q_cv (pc' := 122) Bh29 (hp_runI (As := []) (rest := [.ref ah29, .ref a0]) C Bh29 (t_X8_init Γ l βh29 Bh29.2.2.1 ah29 kh29 zh29) lb_X8_init rfl li_X8_init lk_X11_61 rfl (by decide) rfl hl.1 rfl (Nat.le_of_ble_eq_true rfl) dX11_init_119 ⟨by omega, by omega⟩) (fun q hq => gx_call Bh29.2.2 hq.1 nh29.1) rfl (fun βh30 Hh30 Lh30 ph30 Bh30 => ?_)
  have Oh30 : co α a0 12 βh30 [610, 609, 608, 607, 606, 604, 603, 602, 601] [(611, 0), (605, 0), (600, 0)] := co_call Oh29 ph30.1 nh29.2 (by rw [kh29]; decide)
  have kh30 : hp_K βh30 ah29 = 9 := ph30.2.1
  refine W.widen (k := 934) (n := 9197) (by omega) (by omega) ?_
  refine q_putnF (κ := 112) (k := 12) (φ := 612) (pc' := 125) C Bh30 Oh30.1 fl_X11_62 rfl rfl rfl hnm rfl rfl rfl rfl (gx_sN Bh30.2.2 Oh30) dX11_init_122 rfl (fun βh31 Hh31 Lh31 eh31 Bh31 => ?_)
  have Oh31 : co α a0 12 βh31 [612, 610, 609, 608, 607, 606, 604, 603, 602, 601] [(611, 0), (605, 0), (600, 0)] := by rw [eh31]; exact co_sN Oh30 ⟨(Or.inl (by rw [kh30]; rfl)), by rw [kh30]; decide, by rw [kh30]; decide, nh29.1, (by rw [kh30]; intro q; exact absurd q (by decide))⟩
  refine lv_aload_n hx hb dX11_init_125 rfl (lv_at hl 0 rfl) (hp_n (n := 126) rfl ?_)
  refine q_new (κ := 9) (N := 5) (pc' := 129) C Bh31 cl_X11_59 it_X8 iz_X8 rfl in_9 tyX8_ok df_9 (by decide) rfl rfl rfl (by omega) (by omega) dX11_init_126 rfl (fun q hq => gx_nw Bh31.2.2 (by decide) hq) (fun βh32 ah32 Hh32 fh32 eh32 Bh32 => ?_)
  have nh32 := gx_new Bh31.2.2 Oh31 fh32
  have Oh32 : co α a0 12 βh32 [612, 610, 609, 608, 607, 606, 604, 603, 602, 601] [(611, 0), (605, 0), (600, 0)] := by rw [eh32]; exact co_nw Oh31 fh32
  have kh32 : hp_K βh32 ah32 = 109 := by rw [eh32]; exact nw_k
  have zh32 : ∀ φ, hp_I βh32 φ ah32 = 0 := fun φ => by rw [eh32]; exact nw_i
  refine W.widen (k := 935) (n := 9202) (by omega) (by omega) ?_
  refine lv_dup hx hb dX11_init_129 rfl (hp_n (n := 130) rfl ?_)
  refine q_cv (pc' := 133) Bh32 (hp_runI (As := []) (rest := [.ref ah32, .ref a0]) C Bh32 (t_X8_init Γ l βh32 Bh32.2.2.1 ah32 kh32 zh32) lb_X8_init rfl li_X8_init lk_X11_61 rfl (by decide) rfl hl.1 rfl (Nat.le_of_ble_eq_true rfl) dX11_init_130 ⟨by omega, by omega⟩) (fun q hq => gx_call Bh32.2.2 hq.1 nh32.1) rfl (fun βh33 Hh33 Lh33 ph33 Bh33 => ?_)
  have Oh33 : co α a0 12 βh33 [612, 610, 609, 608, 607, 606, 604, 603, 602, 601] [(611, 0), (605, 0), (600, 0)] := co_call Oh32 ph33.1 nh32.2 (by rw [kh32]; decide)
  have kh33 : hp_K βh33 ah32 = 9 := ph33.2.1
  refine W.widen (k := 938) (n := 9394) (by omega) (by omega) ?_
  refine q_putnF (κ := 112) (k := 13) (φ := 613) (pc' := 136) C Bh33 Oh33.1 fl_X11_66 rfl rfl rfl hnm rfl rfl rfl rfl (gx_sN Bh33.2.2 Oh33) dX11_init_133 rfl (fun βh34 Hh34 Lh34 eh34 Bh34 => ?_)
  have Oh34 : co α a0 12 βh34 [613, 612, 610, 609, 608, 607, 606, 604, 603, 602, 601] [(611, 0), (605, 0), (600, 0)] := by rw [eh34]; exact co_sN Oh33 ⟨(Or.inl (by rw [kh33]; rfl)), by rw [kh33]; decide, by rw [kh33]; decide, nh32.1, (by rw [kh33]; intro q; exact absurd q (by decide))⟩
  refine lv_aload_n hx hb dX11_init_136 rfl (lv_at hl 0 rfl) (hp_n (n := 137) rfl ?_)
  refine q_new (κ := 6) (N := 2) (pc' := 140) C Bh34 cl_X11_23 it_X5 iz_X5 rfl in_6 tyX5_ok df_6 (by decide) rfl rfl rfl (by omega) (by omega) dX11_init_137 rfl (fun q hq => gx_nw Bh34.2.2 (by decide) hq) (fun βh35 ah35 Hh35 fh35 eh35 Bh35 => ?_)
  have nh35 := gx_new Bh34.2.2 Oh34 fh35
  have Oh35 : co α a0 12 βh35 [613, 612, 610, 609, 608, 607, 606, 604, 603, 602, 601] [(611, 0), (605, 0), (600, 0)] := by rw [eh35]; exact co_nw Oh34 fh35
  have kh35 : hp_K βh35 ah35 = 106 := by rw [eh35]; exact nw_k
  have zh35 : ∀ φ, hp_I βh35 φ ah35 = 0 := fun φ => by rw [eh35]; exact nw_i
  refine W.widen (k := 939) (n := 9396) (by omega) (by omega) ?_
  refine lv_dup hx hb dX11_init_140 rfl (hp_n (n := 141) rfl ?_)
  refine q_cv (pc' := 144) Bh35 (hp_runI (As := []) (rest := [.ref ah35, .ref a0]) C Bh35 (t_X5_init Γ l βh35 Bh35.2.2.1 ah35 kh35 zh35) lb_X5_init rfl li_X5_init lk_X11_25 rfl (by decide) rfl hl.1 rfl (Nat.le_of_ble_eq_true rfl) dX11_init_141 ⟨by omega, by omega⟩) (fun q hq => gx_call Bh35.2.2 hq.1 nh35.1) rfl (fun βh36 Hh36 Lh36 ph36 Bh36 => ?_)
  have Oh36 : co α a0 12 βh36 [613, 612, 610, 609, 608, 607, 606, 604, 603, 602, 601] [(611, 0), (605, 0), (600, 0)] := co_call Oh35 ph36.1 nh35.2 (by rw [kh35]; decide)
  have kh36 : hp_K βh36 ah35 = 6 := ph36.2.1
  refine W.widen (k := 940) (n := 9460) (by omega) (by omega) ?_
  refine q_putnF (κ := 112) (k := 14) (φ := 614) (pc' := 147) C Bh36 Oh36.1 fl_X11_69 rfl rfl rfl hnm rfl rfl rfl rfl (gx_sN Bh36.2.2 Oh36) dX11_init_144 rfl (fun βh37 Hh37 Lh37 eh37 Bh37 => ?_)
  have Oh37 : co α a0 12 βh37 [614, 613, 612, 610, 609, 608, 607, 606, 604, 603, 602, 601] [(611, 0), (605, 0), (600, 0)] := by rw [eh37]; exact co_sN Oh36 ⟨(Or.inl (by rw [kh36]; rfl)), by rw [kh36]; decide, by rw [kh36]; decide, nh35.1, (by rw [kh36]; intro q; exact absurd q (by decide))⟩
  refine lv_aload_n hx hb dX11_init_147 rfl (lv_at hl 0 rfl) (hp_n (n := 148) rfl ?_)
  refine q_new (κ := 1) (N := 5) (pc' := 151) C Bh37 cl_X11_72 it_X0 iz_X0 rfl in_1 tyX0_ok df_1 (by decide) rfl rfl rfl (by omega) (by omega) dX11_init_148 rfl (fun q hq => gx_nw Bh37.2.2 (by decide) hq) (fun βh38 ah38 Hh38 fh38 eh38 Bh38 => ?_)
  have nh38 := gx_new Bh37.2.2 Oh37 fh38
  have Oh38 : co α a0 12 βh38 [614, 613, 612, 610, 609, 608, 607, 606, 604, 603, 602, 601] [(611, 0), (605, 0), (600, 0)] := by rw [eh38]; exact co_nw Oh37 fh38
  have kh38 : hp_K βh38 ah38 = 101 := by rw [eh38]; exact nw_k
  have zh38 : ∀ φ, hp_I βh38 φ ah38 = 0 := fun φ => by rw [eh38]; exact nw_i
  refine W.widen (k := 941) (n := 9465) (by omega) (by omega) ?_
  refine lv_dup hx hb dX11_init_151 rfl (hp_n (n := 152) rfl ?_)
  refine q_cv (pc' := 155) Bh38 (hp_runI (As := []) (rest := [.ref ah38, .ref a0]) C Bh38 (t_X0_init Γ l βh38 Bh38.2.2.1 ah38 kh38 zh38) lb_X0_init rfl li_X0_init lk_X11_74 rfl (by decide) rfl hl.1 rfl (Nat.le_of_ble_eq_true rfl) dX11_init_152 ⟨by omega, by omega⟩) (fun q hq => gx_call Bh38.2.2 hq.1 nh38.1) rfl (fun βh39 Hh39 Lh39 ph39 Bh39 => ?_)
  have Oh39 : co α a0 12 βh39 [614, 613, 612, 610, 609, 608, 607, 606, 604, 603, 602, 601] [(611, 0), (605, 0), (600, 0)] := co_call Oh38 ph39.1 nh38.2 (by rw [kh38]; decide)
  have kh39 : hp_K βh39 ah38 = 1 := ph39.2.1
  refine W.widen (k := 943) (n := 9531) (by omega) (by omega) ?_
  refine q_putnF (κ := 112) (k := 15) (φ := 615) (pc' := 158) C Bh39 Oh39.1 fl_X11_75 rfl rfl rfl hnm rfl rfl rfl rfl (gx_sN Bh39.2.2 Oh39) dX11_init_155 rfl (fun βh40 Hh40 Lh40 eh40 Bh40 => ?_)
  have Oh40 : co α a0 12 βh40 [615, 614, 613, 612, 610, 609, 608, 607, 606, 604, 603, 602, 601] [(611, 0), (605, 0), (600, 0)] := by rw [eh40]; exact co_sN Oh39 ⟨(Or.inl (by rw [kh39]; rfl)), by rw [kh39]; decide, by rw [kh39]; decide, nh38.1, (by rw [kh39]; intro q; exact absurd q (by decide))⟩
  refine lv_aload_n hx hb dX11_init_158 rfl (lv_at hl 0 rfl) (hp_n (n := 159) rfl ?_)
  refine q_new (κ := 4) (N := 10) (pc' := 162) C Bh40 cl_X11_79 it_X3 iz_X3 rfl in_4 tyX3_ok df_4 (by decide) rfl rfl rfl (by omega) (by omega) dX11_init_159 rfl (fun q hq => gx_nw Bh40.2.2 (by decide) hq) (fun βh41 ah41 Hh41 fh41 eh41 Bh41 => ?_)
  have nh41 := gx_new Bh40.2.2 Oh40 fh41
  have Oh41 : co α a0 12 βh41 [615, 614, 613, 612, 610, 609, 608, 607, 606, 604, 603, 602, 601] [(611, 0), (605, 0), (600, 0)] := by rw [eh41]; exact co_nw Oh40 fh41
  have kh41 : hp_K βh41 ah41 = 104 := by rw [eh41]; exact nw_k
  have zh41 : ∀ φ, hp_I βh41 φ ah41 = 0 := fun φ => by rw [eh41]; exact nw_i
  refine W.widen (k := 944) (n := 9541) (by omega) (by omega) ?_
  refine lv_dup hx hb dX11_init_162 rfl (hp_n (n := 163) rfl ?_)
  refine q_cv (pc' := 166) Bh41 (hp_runI (As := []) (rest := [.ref ah41, .ref a0]) C Bh41 (t_X3_init Γ l βh41 Bh41.2.2.1 ah41 kh41 zh41) lb_X3_init rfl li_X3_init lk_X11_81 rfl (by decide) rfl hl.1 rfl (Nat.le_of_ble_eq_true rfl) dX11_init_163 ⟨by omega, by omega⟩) (fun q hq => gx_call Bh41.2.2 hq.1 nh41.1) rfl (fun βh42 Hh42 Lh42 ph42 Bh42 => ?_)
  have Oh42 : co α a0 12 βh42 [615, 614, 613, 612, 610, 609, 608, 607, 606, 604, 603, 602, 601] [(611, 0), (605, 0), (600, 0)] := co_call Oh41 ph42.1 nh41.2 (by rw [kh41]; decide)
  have kh42 : hp_K βh42 ah41 = 4 := ph42.2.1
  refine W.widen (k := 954) (n := 9821) (by omega) (by omega) ?_
  refine q_putnF (κ := 112) (k := 16) (φ := 616) (pc' := 169) C Bh42 Oh42.1 fl_X11_82 rfl rfl rfl hnm rfl rfl rfl rfl (gx_sN Bh42.2.2 Oh42) dX11_init_166 rfl (fun βh43 Hh43 Lh43 eh43 Bh43 => ?_)
  have Oh43 : co α a0 12 βh43 [616, 615, 614, 613, 612, 610, 609, 608, 607, 606, 604, 603, 602, 601] [(611, 0), (605, 0), (600, 0)] := by rw [eh43]; exact co_sN Oh42 ⟨(Or.inl (by rw [kh42]; rfl)), by rw [kh42]; decide, by rw [kh42]; decide, nh41.1, (by rw [kh42]; intro q; exact absurd q (by decide))⟩
  refine lv_aload_n hx hb dX11_init_169 rfl (lv_at hl 0 rfl) (hp_n (n := 170) rfl ?_)
  refine lv_sipush (v := 256) hx hb dX11_init_170 (by decide) (hp_n (n := 173) rfl ?_)
  refine q_newa (κ := 26) (t := 0) (n := 256) (atype := .int) (ty := .int) (dv := .int 0) (pc' := 175) C Bh43 ac_int rfl (by decide) rfl rfl (fun _ _ q => q) rfl (fun _ cA => nw_cx (by decide) cA) (by decide) (by decide +kernel) (Nat.le_of_ble_eq_true rfl) rfl (by omega) (by omega) dX11_init_173 rfl (fun q hq => gx_nw Bh43.2.2 (by decide) hq) (fun βh44 ah44 Hh44 fh44 eh44 Bh44 => ?_)
  have nh44 := gx_new Bh43.2.2 Oh43 fh44
  have Oh44 : co α a0 12 βh44 [616, 615, 614, 613, 612, 610, 609, 608, 607, 606, 604, 603, 602, 601] [(611, 0), (605, 0), (600, 0)] := by rw [eh44]; exact co_nw Oh43 fh44
  have kh44 : hp_K βh44 ah44 = 26 := by rw [eh44]; exact nw_k
  refine W.widen (k := 955) (n := 10077) (by omega) (by omega) ?_
  refine q_putnF (κ := 112) (k := 17) (φ := 617) (pc' := 178) C Bh44 Oh44.1 fl_X11_86 rfl rfl rfl hnm rfl rfl rfl rfl (gx_sN Bh44.2.2 Oh44) dX11_init_175 rfl (fun βh45 Hh45 Lh45 eh45 Bh45 => ?_)
  have Oh45 : co α a0 12 βh45 [617, 616, 615, 614, 613, 612, 610, 609, 608, 607, 606, 604, 603, 602, 601] [(611, 0), (605, 0), (600, 0)] := by rw [eh45]; exact co_sN Oh44 ⟨(Or.inl (by rw [kh44]; rfl)), by rw [kh44]; decide, by rw [kh44]; decide, nh44.1, (fun _ j => by rw [eh44]; exact nw_e)⟩
  refine lv_aload_n hx hb dX11_init_178 rfl (lv_at hl 0 rfl) (hp_n (n := 179) rfl ?_)
  refine lv_null hx hb dX11_init_179 (hp_n (n := 180) rfl ?_)
  refine q_put0 (κ := 112) (k := 18) (φ := 618) (pc' := 183) C Bh45 Oh45.1 fl_X11_90 rfl rfl rfl rfl rfl rfl (gx_sN Bh45.2.2 Oh45) dX11_init_180 rfl (fun βh46 Hh46 Lh46 eh46 Bh46 => ?_)
  have Oh46 : co α a0 12 βh46 [617, 616, 615, 614, 613, 612, 610, 609, 608, 607, 606, 604, 603, 602, 601] [(611, 0), (605, 0), (600, 0)] := by rw [eh46]; exact co_s0 Oh45 (by decide)
  have N618 : hp_N βh46 618 a0 = none := by rw [eh46]; exact sN_at
  obtain ⟨Bh47, kh47, fh47, -⟩ := co_fin Bh46 Oh46 (by decide) (by decide) (by decide) (fun _ => N618)
  refine W.widen (k := 955) (n := 10077) (by omega) (by omega) ?_
  exact q_vret C Bh47 hr hlk ⟨Bh47.2.2, kh47, fh47, N618⟩ dX11_init_183
