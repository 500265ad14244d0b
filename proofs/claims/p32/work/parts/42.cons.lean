theorem df_1 : ∀ j, j < (hp_q 1).2.2 → defaultValue (hp_ty 1 j) = vp_V ((hp_tg (100 + 1)).map hp_dv) j := fun j hj => by
  have hj : j < 5 := hj
  match j, hj with
  | 0, _ => rfl
  | 1, _ => rfl
  | 2, _ => rfl
  | 3, _ => rfl
  | 4, _ => rfl
  | j + 5, h => exact absurd h (by omega)
theorem df_2 : ∀ j, j < (hp_q 2).2.2 → defaultValue (hp_ty 2 j) = vp_V ((hp_tg (100 + 2)).map hp_dv) j := fun j hj => by
  have hj : j < 5 := hj
  match j, hj with
  | 0, _ => rfl
  | 1, _ => rfl
  | 2, _ => rfl
  | 3, _ => rfl
  | 4, _ => rfl
  | j + 5, h => exact absurd h (by omega)
theorem df_3 : ∀ j, j < (hp_q 3).2.2 → defaultValue (hp_ty 3 j) = vp_V ((hp_tg (100 + 3)).map hp_dv) j := fun j hj => by
  have hj : j < 3 := hj
  match j, hj with
  | 0, _ => rfl
  | 1, _ => rfl
  | 2, _ => rfl
  | j + 3, h => exact absurd h (by omega)
theorem df_4 : ∀ j, j < (hp_q 4).2.2 → defaultValue (hp_ty 4 j) = vp_V ((hp_tg (100 + 4)).map hp_dv) j := fun j hj => by
  have hj : j < 10 := hj
  match j, hj with
  | 0, _ => rfl
  | 1, _ => rfl
  | 2, _ => rfl
  | 3, _ => rfl
  | 4, _ => rfl
  | 5, _ => rfl
  | 6, _ => rfl
  | 7, _ => rfl
  | 8, _ => rfl
  | 9, _ => rfl
  | j + 10, h => exact absurd h (by omega)
theorem df_5 : ∀ j, j < (hp_q 5).2.2 → defaultValue (hp_ty 5 j) = vp_V ((hp_tg (100 + 5)).map hp_dv) j := fun j hj => by
  have hj : j < 11 := hj
  match j, hj with
  | 0, _ => rfl
  | 1, _ => rfl
  | 2, _ => rfl
  | 3, _ => rfl
  | 4, _ => rfl
  | 5, _ => rfl
  | 6, _ => rfl
  | 7, _ => rfl
  | 8, _ => rfl
  | 9, _ => rfl
  | 10, _ => rfl
  | j + 11, h => exact absurd h (by omega)
theorem df_6 : ∀ j, j < (hp_q 6).2.2 → defaultValue (hp_ty 6 j) = vp_V ((hp_tg (100 + 6)).map hp_dv) j := fun j hj => by
  have hj : j < 2 := hj
  match j, hj with
  | 0, _ => rfl
  | 1, _ => rfl
  | j + 2, h => exact absurd h (by omega)
theorem df_7 : ∀ j, j < (hp_q 7).2.2 → defaultValue (hp_ty 7 j) = vp_V ((hp_tg (100 + 7)).map hp_dv) j := fun j hj => by
  have hj : j < 7 := hj
  match j, hj with
  | 0, _ => rfl
  | 1, _ => rfl
  | 2, _ => rfl
  | 3, _ => rfl
  | 4, _ => rfl
  | 5, _ => rfl
  | 6, _ => rfl
  | j + 7, h => exact absurd h (by omega)
theorem df_8 : ∀ j, j < (hp_q 8).2.2 → defaultValue (hp_ty 8 j) = vp_V ((hp_tg (100 + 8)).map hp_dv) j := fun j hj => by
  have hj : j < 4 := hj
  match j, hj with
  | 0, _ => rfl
  | 1, _ => rfl
  | 2, _ => rfl
  | 3, _ => rfl
  | j + 4, h => exact absurd h (by omega)
theorem df_9 : ∀ j, j < (hp_q 9).2.2 → defaultValue (hp_ty 9 j) = vp_V ((hp_tg (100 + 9)).map hp_dv) j := fun j hj => by
  have hj : j < 5 := hj
  match j, hj with
  | 0, _ => rfl
  | 1, _ => rfl
  | 2, _ => rfl
  | 3, _ => rfl
  | 4, _ => rfl
  | j + 5, h => exact absurd h (by omega)
theorem df_10 : ∀ j, j < (hp_q 10).2.2 → defaultValue (hp_ty 10 j) = vp_V ((hp_tg (100 + 10)).map hp_dv) j := fun j hj => by
  have hj : j < 2 := hj
  match j, hj with
  | 0, _ => rfl
  | 1, _ => rfl
  | j + 2, h => exact absurd h (by omega)
theorem df_11 : ∀ j, j < (hp_q 11).2.2 → defaultValue (hp_ty 11 j) = vp_V ((hp_tg (100 + 11)).map hp_dv) j := fun j hj => by
  have hj : j < 10 := hj
  match j, hj with
  | 0, _ => rfl
  | 1, _ => rfl
  | 2, _ => rfl
  | 3, _ => rfl
  | 4, _ => rfl
  | 5, _ => rfl
  | 6, _ => rfl
  | 7, _ => rfl
  | 8, _ => rfl
  | 9, _ => rfl
  | j + 10, h => exact absurd h (by omega)
theorem df_12 : ∀ j, j < (hp_q 12).2.2 → defaultValue (hp_ty 12 j) = vp_V ((hp_tg (100 + 12)).map hp_dv) j := fun j hj => by
  have hj : j < 19 := hj
  match j, hj with
  | 0, _ => rfl
  | 1, _ => rfl
  | 2, _ => rfl
  | 3, _ => rfl
  | 4, _ => rfl
  | 5, _ => rfl
  | 6, _ => rfl
  | 7, _ => rfl
  | 8, _ => rfl
  | 9, _ => rfl
  | 10, _ => rfl
  | 11, _ => rfl
  | 12, _ => rfl
  | 13, _ => rfl
  | 14, _ => rfl
  | 15, _ => rfl
  | 16, _ => rfl
  | 17, _ => rfl
  | 18, _ => rfl
  | j + 19, h => exact absurd h (by omega)
theorem df_13 : ∀ j, j < (hp_q 13).2.2 → defaultValue (hp_ty 13 j) = vp_V ((hp_tg (100 + 13)).map hp_dv) j := fun j hj => by
  have hj : j < 48 := hj
  match j, hj with
  | 0, _ => rfl
  | 1, _ => rfl
  | 2, _ => rfl
  | 3, _ => rfl
  | 4, _ => rfl
  | 5, _ => rfl
  | 6, _ => rfl
  | 7, _ => rfl
  | 8, _ => rfl
  | 9, _ => rfl
  | 10, _ => rfl
  | 11, _ => rfl
  | 12, _ => rfl
  | 13, _ => rfl
  | 14, _ => rfl
  | 15, _ => rfl
  | 16, _ => rfl
  | 17, _ => rfl
  | 18, _ => rfl
  | 19, _ => rfl
  | 20, _ => rfl
  | 21, _ => rfl
  | 22, _ => rfl
  | 23, _ => rfl
  | 24, _ => rfl
  | 25, _ => rfl
  | 26, _ => rfl
  | 27, _ => rfl
  | 28, _ => rfl
  | 29, _ => rfl
  | 30, _ => rfl
  | 31, _ => rfl
  | 32, _ => rfl
  | 33, _ => rfl
  | 34, _ => rfl
  | 35, _ => rfl
  | 36, _ => rfl
  | 37, _ => rfl
  | 38, _ => rfl
  | 39, _ => rfl
  | 40, _ => rfl
  | 41, _ => rfl
  | 42, _ => rfl
  | 43, _ => rfl
  | 44, _ => rfl
  | 45, _ => rfl
  | 46, _ => rfl
  | 47, _ => rfl
  | j + 48, h => exact absurd h (by omega)
set_option maxRecDepth 100000 in
set_option maxHeartbeats 4000000 in
theorem t_X5_init (Γ : hp_G) (l : Launch) (α : hp_T) (g : GC α) (a0 : Nat) (k0 : hp_K α a0 = 106) (z0 : ∀ φ, hp_I α φ a0 = 0) : Met l yX5_init (hp_ws yX5_init cX5_init 1 none) (hp_rm 1 1 64) (hp_Pc Γ α [.ref a0]) (hp_Qv Γ (fun β => gx a0 α β ∧ hp_K β a0 = 6 ∧ (∀ q ∈ ([(301, 0)] : List (Nat × Int32)), hp_I β q.1 a0 = q.2))) 1 64 (hp_A Γ) := by
  refine hp_start (by decide) ?_
  intro p e s m below meth c C hr hlk B0 hnm
  have C : hp_C Γ p m c cX5_init 1 s ([.ref a0] : List Value).toArray RX5 := C
  have hx := C.1.1
  have hb := C.1.2.1
  have hown := C.1.2.2.2.1
  have hts := C.1.2.2.2.2
  have B : hp_B Γ (gx a0) s α α s.heap [] := ⟨B0.1, B0.2.1, gx_rf g⟩
  have O : co α a0 6 α [] [] := co_0 k0 z0
  have hl := lv_entry ([.ref a0]) (n := 1) (Nat.le_of_ble_eq_true rfl)
  show W p l e (hp_rm 1 1 64) s m ([.ref a0] : List Value).toArray below meth c s.heap [] 0 0 (MQ below (hp_Qv Γ (fun β => gx a0 α β ∧ hp_K β a0 = 6 ∧ (∀ q ∈ ([(301, 0)] : List (Nat × Int32)), hp_I β q.1 a0 = q.2))) ([.ref a0] : List Value).toArray s 1 64 (hp_A Γ)) (entryFrame m ([.ref a0] : List Value).toArray 1)
  rw [lg_entry_eq]
  generalize (lg_sl ([.ref a0]) ++ List.replicate (1 - (lg_sl ([.ref a0])).length) Slot.unset).toArray = ls at hl ⊢
  have hl : lv_has ls 1 [(0, .ref a0)] := hl
  refine lv_aload_n hx hb dX5_init_0 rfl (lv_at hl 0 rfl) (hp_n (n := 1) rfl ?_)
  refine q_obj (pc' := 4) C ol_X5 hl.1 rfl (by decide) dX5_init_1 rfl ?_
  refine lv_aload_n hx hb dX5_init_4 rfl (lv_at hl 0 rfl) (hp_n (n := 5) rfl ?_)
  refine lv_bipush (v := 64) hx hb dX5_init_5 (by decide) (hp_n (n := 7) rfl ?_)
  refine q_newa (κ := 20) (t := 0) (n := 64) (atype := .int) (ty := .int) (dv := .int 0) (pc' := 9) C B ac_int rfl (by decide) rfl rfl (fun _ _ q => q) rfl (fun _ cA => nw_cx (by decide) cA) (by decide) (by decide +kernel) (Nat.le_of_ble_eq_true rfl) rfl (by omega) (by omega) dX5_init_7 rfl (fun q hq => gx_nw B.2.2 (by decide) hq) (fun βh1 ah1 Hh1 fh1 eh1 Bh1 => ?_)
  have nh1 := gx_new B.2.2 O fh1
  have Oh1 : co α a0 6 βh1 [] [] := by rw [eh1]; exact co_nw O fh1
  have kh1 : hp_K βh1 ah1 = 20 := by rw [eh1]; exact nw_k
  refine W.widen (k := 1) (n := 64) (by omega) (by omega) ?_
  refine q_putnF (κ := 106) (k := 0) (φ := 300) (pc' := 12) C Bh1 Oh1.1 fl_X5_9 rfl rfl rfl hnm rfl rfl rfl rfl (gx_sN Bh1.2.2 Oh1) dX5_init_9 rfl (fun βh2 Hh2 Lh2 eh2 Bh2 => ?_)
  have Oh2 : co α a0 6 βh2 [300] [] := by rw [eh2]; exact co_sN Oh1 ⟨(Or.inl (by rw [kh1]; rfl)), by rw [kh1]; decide, by rw [kh1]; decide, nh1.1, (fun _ j => by rw [eh1]; exact nw_e)⟩
  refine lv_aload_n hx hb dX5_init_12 rfl (lv_at hl 0 rfl) (hp_n (n := 13) rfl ?_)
  refine lv_iconst (v := 0) hx hb dX5_init_13 (by decide) (hp_n (n := 14) rfl ?_)
  refine q_puti (κ := 106) (k := 1) (φ := 301) (pc' := 17) C Bh2 Oh2.1 fl_X5_15 rfl rfl rfl rfl rfl rfl (gx_sI Bh2.2.2 (gc_i0 _)) dX5_init_14 rfl (fun βh3 Hh3 Lh3 eh3 Bh3 => ?_)
  have Oh3 : co α a0 6 βh3 [300] [(301, 0)] := by rw [eh3]; exact co_sI Oh2 (by decide)
  obtain ⟨Bh4, kh4, fh4, -⟩ := co_fin Bh3 Oh3 (by decide) (by decide) (by decide) (fun q => absurd q (by decide))
  refine W.widen (k := 1) (n := 64) (by omega) (by omega) ?_
  exact q_vret C Bh4 hr hlk ⟨Bh4.2.2, kh4, fh4⟩ dX5_init_17
set_option maxRecDepth 100000 in
set_option maxHeartbeats 4000000 in
theorem t_X8_init (Γ : hp_G) (l : Launch) (α : hp_T) (g : GC α) (a0 : Nat) (k0 : hp_K α a0 = 109) (z0 : ∀ φ, hp_I α φ a0 = 0) : Met l yX8_init (hp_ws yX8_init cX8_init 1 none) (hp_rm 1 3 192) (hp_Pc Γ α [.ref a0]) (hp_Qv Γ (fun β => gx a0 α β ∧ hp_K β a0 = 9 ∧ (∀ q ∈ ([(454, 0), (453, 0)] : List (Nat × Int32)), hp_I β q.1 a0 = q.2))) 3 192 (hp_A Γ) := by
  refine hp_start (by decide) ?_
  intro p e s m below meth c C hr hlk B0 hnm
  have C : hp_C Γ p m c cX8_init 1 s ([.ref a0] : List Value).toArray RX8 := C
  have hx := C.1.1
  have hb := C.1.2.1
  have hown := C.1.2.2.2.1
  have hts := C.1.2.2.2.2
  have B : hp_B Γ (gx a0) s α α s.heap [] := ⟨B0.1, B0.2.1, gx_rf g⟩
  have O : co α a0 9 α [] [] := co_0 k0 z0
  have hl := lv_entry ([.ref a0]) (n := 1) (Nat.le_of_ble_eq_true rfl)
  show W p l e (hp_rm 1 3 192) s m ([.ref a0] : List Value).toArray below meth c s.heap [] 0 0 (MQ below (hp_Qv Γ (fun β => gx a0 α β ∧ hp_K β a0 = 9 ∧ (∀ q ∈ ([(454, 0), (453, 0)] : List (Nat × Int32)), hp_I β q.1 a0 = q.2))) ([.ref a0] : List Value).toArray s 3 192 (hp_A Γ)) (entryFrame m ([.ref a0] : List Value).toArray 1)
  rw [lg_entry_eq]
  generalize (lg_sl ([.ref a0]) ++ List.replicate (1 - (lg_sl ([.ref a0])).length) Slot.unset).toArray = ls at hl ⊢
  have hl : lv_has ls 1 [(0, .ref a0)] := hl
  refine lv_aload_n hx hb dX8_init_0 rfl (lv_at hl 0 rfl) (hp_n (n := 1) rfl ?_)
  refine q_obj (pc' := 4) C ol_X8 hl.1 rfl (by decide) dX8_init_1 rfl ?_
  refine lv_aload_n hx hb dX8_init_4 rfl (lv_at hl 0 rfl) (hp_n (n := 5) rfl ?_)
  refine lv_bipush (v := 64) hx hb dX8_init_5 (by decide) (hp_n (n := 7) rfl ?_)
  refine q_newa (κ := 21) (t := 0) (n := 64) (atype := .int) (ty := .int) (dv := .int 0) (pc' := 9) C B ac_int rfl (by decide) rfl rfl (fun _ _ q => q) rfl (fun _ cA => nw_cx (by decide) cA) (by decide) (by decide +kernel) (Nat.le_of_ble_eq_true rfl) rfl (by omega) (by omega) dX8_init_7 rfl (fun q hq => gx_nw B.2.2 (by decide) hq) (fun βh1 ah1 Hh1 fh1 eh1 Bh1 => ?_)
  have nh1 := gx_new B.2.2 O fh1
  have Oh1 : co α a0 9 βh1 [] [] := by rw [eh1]; exact co_nw O fh1
  have kh1 : hp_K βh1 ah1 = 21 := by rw [eh1]; exact nw_k
  refine W.widen (k := 1) (n := 64) (by omega) (by omega) ?_
  refine q_putnF (κ := 109) (k := 0) (φ := 450) (pc' := 12) C Bh1 Oh1.1 fl_X8_9 rfl rfl rfl hnm rfl rfl rfl rfl (gx_sN Bh1.2.2 Oh1) dX8_init_9 rfl (fun βh2 Hh2 Lh2 eh2 Bh2 => ?_)
  have Oh2 : co α a0 9 βh2 [450] [] := by rw [eh2]; exact co_sN Oh1 ⟨(Or.inl (by rw [kh1]; rfl)), by rw [kh1]; decide, by rw [kh1]; decide, nh1.1, (fun _ j => by rw [eh1]; exact nw_e)⟩
  refine lv_aload_n hx hb dX8_init_12 rfl (lv_at hl 0 rfl) (hp_n (n := 13) rfl ?_)
  refine lv_bipush (v := 64) hx hb dX8_init_13 (by decide) (hp_n (n := 15) rfl ?_)
  refine q_newa (κ := 22) (t := 0) (n := 64) (atype := .int) (ty := .int) (dv := .int 0) (pc' := 17) C Bh2 ac_int rfl (by decide) rfl rfl (fun _ _ q => q) rfl (fun _ cA => nw_cx (by decide) cA) (by decide) (by decide +kernel) (Nat.le_of_ble_eq_true rfl) rfl (by omega) (by omega) dX8_init_15 rfl (fun q hq => gx_nw Bh2.2.2 (by decide) hq) (fun βh3 ah3 Hh3 fh3 eh3 Bh3 => ?_)
  have nh3 := gx_new Bh2.2.2 Oh2 fh3
  have Oh3 : co α a0 9 βh3 [450] [] := by rw [eh3]; exact co_nw Oh2 fh3
  have kh3 : hp_K βh3 ah3 = 22 := by rw [eh3]; exact nw_k
  refine W.widen (k := 2) (n := 128) (by omega) (by omega) ?_
  refine q_putnF (κ := 109) (k := 1) (φ := 451) (pc' := 20) C Bh3 Oh3.1 fl_X8_15 rfl rfl rfl hnm rfl rfl rfl rfl (gx_sN Bh3.2.2 Oh3) dX8_init_17 rfl (fun βh4 Hh4 Lh4 eh4 Bh4 => ?_)
  have Oh4 : co α a0 9 βh4 [451, 450] [] := by rw [eh4]; exact co_sN Oh3 ⟨(Or.inl (by rw [kh3]; rfl)), by rw [kh3]; decide, by rw [kh3]; decide, nh3.1, (fun _ j => by rw [eh3]; exact nw_e)⟩
  refine lv_aload_n hx hb dX8_init_20 rfl (lv_at hl 0 rfl) (hp_n (n := 21) rfl ?_)
  refine lv_bipush (v := 64) hx hb dX8_init_21 (by decide) (hp_n (n := 23) rfl ?_)
  refine q_newa (κ := 23) (t := 2) (n := 64) (atype := .boolean) (ty := .boolean) (dv := .int 0) (pc' := 25) C Bh4 ac_boolean rfl (by decide) rfl rfl (fun _ _ q => q) rfl (fun _ cA => nw_cx (by decide) cA) (by decide) (by decide +kernel) (Nat.le_of_ble_eq_true rfl) rfl (by omega) (by omega) dX8_init_23 rfl (fun q hq => gx_nw Bh4.2.2 (by decide) hq) (fun βh5 ah5 Hh5 fh5 eh5 Bh5 => ?_)
  have nh5 := gx_new Bh4.2.2 Oh4 fh5
  have Oh5 : co α a0 9 βh5 [451, 450] [] := by rw [eh5]; exact co_nw Oh4 fh5
  have kh5 : hp_K βh5 ah5 = 23 := by rw [eh5]; exact nw_k
  refine W.widen (k := 3) (n := 192) (by omega) (by omega) ?_
  refine q_putnF (κ := 109) (k := 2) (φ := 452) (pc' := 28) C Bh5 Oh5.1 fl_X8_18 rfl rfl rfl hnm rfl rfl rfl rfl (gx_sN Bh5.2.2 Oh5) dX8_init_25 rfl (fun βh6 Hh6 Lh6 eh6 Bh6 => ?_)
  have Oh6 : co α a0 9 βh6 [452, 451, 450] [] := by rw [eh6]; exact co_sN Oh5 ⟨(Or.inl (by rw [kh5]; rfl)), by rw [kh5]; decide, by rw [kh5]; decide, nh5.1, (fun _ j => by rw [eh5]; exact nw_e)⟩
  refine lv_aload_n hx hb dX8_init_28 rfl (lv_at hl 0 rfl) (hp_n (n := 29) rfl ?_)
  refine lv_iconst (v := 0) hx hb dX8_init_29 (by decide) (hp_n (n := 30) rfl ?_)
  refine q_puti (κ := 109) (k := 3) (φ := 453) (pc' := 33) C Bh6 Oh6.1 fl_X8_22 rfl rfl rfl rfl rfl rfl (gx_sI Bh6.2.2 (gc_i0 _)) dX8_init_30 rfl (fun βh7 Hh7 Lh7 eh7 Bh7 => ?_)
  have Oh7 : co α a0 9 βh7 [452, 451, 450] [(453, 0)] := by rw [eh7]; exact co_sI Oh6 (by decide)
  refine lv_aload_n hx hb dX8_init_33 rfl (lv_at hl 0 rfl) (hp_n (n := 34) rfl ?_)
  refine lv_iconst (v := 0) hx hb dX8_init_34 (by decide) (hp_n (n := 35) rfl ?_)
  refine q_puti (κ := 109) (k := 4) (φ := 454) (pc' := 38) C Bh7 Oh7.1 fl_X8_26 rfl rfl rfl rfl rfl rfl (gx_sI Bh7.2.2 (gc_i0 _)) dX8_init_35 rfl (fun βh8 Hh8 Lh8 eh8 Bh8 => ?_)
  have Oh8 : co α a0 9 βh8 [452, 451, 450] [(454, 0), (453, 0)] := by rw [eh8]; exact co_sI Oh7 (by decide)
  obtain ⟨Bh9, kh9, fh9, -⟩ := co_fin Bh8 Oh8 (by decide) (by decide) (by decide) (fun q => absurd q (by decide))
  refine W.widen (k := 3) (n := 192) (by omega) (by omega) ?_
  exact q_vret C Bh9 hr hlk ⟨Bh9.2.2, kh9, fh9⟩ dX8_init_38
set_option maxRecDepth 100000 in
set_option maxHeartbeats 4000000 in
theorem t_X4_init (Γ : hp_G) (l : Launch) (α : hp_T) (g : GC α) (a0 : Nat) (k0 : hp_K α a0 = 105) (z0 : ∀ φ, hp_I α φ a0 = 0) : Met l yX4_init (hp_ws yX4_init cX4_init 1 none) (hp_rm 2 8 131305) (hp_Pc Γ α [.ref a0]) (hp_Qv Γ (fun β => gx a0 α β ∧ hp_K β a0 = 5 ∧ (∀ q ∈ ([(260, 0), (259, 0), (258, (-1)), (257, 0), (256, (-1)), (255, 0), (252, 0)] : List (Nat × Int32)), hp_I β q.1 a0 = q.2))) 8 131305 (hp_A Γ) := by
  refine hp_start (by decide) ?_
  intro p e s m below meth c C hr hlk B0 hnm
  have C : hp_C Γ p m c cX4_init 1 s ([.ref a0] : List Value).toArray RX4 := C
  have hx := C.1.1
  have hb := C.1.2.1
  have hown := C.1.2.2.2.1
  have hts := C.1.2.2.2.2
  have B : hp_B Γ (gx a0) s α α s.heap [] := ⟨B0.1, B0.2.1, gx_rf g⟩
  have O : co α a0 5 α [] [] := co_0 k0 z0
  have hl := lv_entry ([.ref a0]) (n := 1) (Nat.le_of_ble_eq_true rfl)
  show W p l e (hp_rm 2 8 131305) s m ([.ref a0] : List Value).toArray below meth c s.heap [] 0 0 (MQ below (hp_Qv Γ (fun β => gx a0 α β ∧ hp_K β a0 = 5 ∧ (∀ q ∈ ([(260, 0), (259, 0), (258, (-1)), (257, 0), (256, (-1)), (255, 0), (252, 0)] : List (Nat × Int32)), hp_I β q.1 a0 = q.2))) ([.ref a0] : List Value).toArray s 8 131305 (hp_A Γ)) (entryFrame m ([.ref a0] : List Value).toArray 1)
  rw [lg_entry_eq]
  generalize (lg_sl ([.ref a0]) ++ List.replicate (1 - (lg_sl ([.ref a0])).length) Slot.unset).toArray = ls at hl ⊢
  have hl : lv_has ls 1 [(0, .ref a0)] := hl
  refine lv_aload_n hx hb dX4_init_0 rfl (lv_at hl 0 rfl) (hp_n (n := 1) rfl ?_)
  refine q_obj (pc' := 4) C ol_X4 hl.1 rfl (by decide) dX4_init_1 rfl ?_
  refine lv_aload_n hx hb dX4_init_4 rfl (lv_at hl 0 rfl) (hp_n (n := 5) rfl ?_)
  refine lv_ldc hx hb hown (hts _ kc_X4_9) dX4_init_5 (hp_n (n := 7) rfl ?_)
  refine q_newa (κ := 34) (t := 0) (n := 65521) (atype := .int) (ty := .int) (dv := .int 0) (pc' := 9) C B ac_int rfl (by decide) rfl rfl (fun _ _ q => q) rfl (fun _ cA => nw_cx (by decide) cA) (by decide) (by decide +kernel) (Nat.le_of_ble_eq_true rfl) rfl (by omega) (by omega) dX4_init_7 rfl (fun q hq => gx_nw B.2.2 (by decide) hq) (fun βh1 ah1 Hh1 fh1 eh1 Bh1 => ?_)
  have nh1 := gx_new B.2.2 O fh1
  have Oh1 : co α a0 5 βh1 [] [] := by rw [eh1]; exact co_nw O fh1
  have kh1 : hp_K βh1 ah1 = 34 := by rw [eh1]; exact nw_k
  refine W.widen (k := 1) (n := 65521) (by omega) (by omega) ?_
  refine q_putnF (κ := 105) (k := 0) (φ := 250) (pc' := 12) C Bh1 Oh1.1 fl_X4_10 rfl rfl rfl hnm rfl rfl rfl rfl (gx_sN Bh1.2.2 Oh1) dX4_init_9 rfl (fun βh2 Hh2 Lh2 eh2 Bh2 => ?_)
  have Oh2 : co α a0 5 βh2 [250] [] := by rw [eh2]; exact co_sN Oh1 ⟨(Or.inl (by rw [kh1]; rfl)), by rw [kh1]; decide, by rw [kh1]; decide, nh1.1, (fun _ j => by rw [eh1]; exact nw_e)⟩
  refine lv_aload_n hx hb dX4_init_12 rfl (lv_at hl 0 rfl) (hp_n (n := 13) rfl ?_)
  refine lv_ldc hx hb hown (hts _ kc_X4_9) dX4_init_13 (hp_n (n := 15) rfl ?_)
  refine q_newa (κ := 35) (t := 0) (n := 65521) (atype := .int) (ty := .int) (dv := .int 0) (pc' := 17) C Bh2 ac_int rfl (by decide) rfl rfl (fun _ _ q => q) rfl (fun _ cA => nw_cx (by decide) cA) (by decide) (by decide +kernel) (Nat.le_of_ble_eq_true rfl) rfl (by omega) (by omega) dX4_init_15 rfl (fun q hq => gx_nw Bh2.2.2 (by decide) hq) (fun βh3 ah3 Hh3 fh3 eh3 Bh3 => ?_)
  have nh3 := gx_new Bh2.2.2 Oh2 fh3
  have Oh3 : co α a0 5 βh3 [250] [] := by rw [eh3]; exact co_nw Oh2 fh3
  have kh3 : hp_K βh3 ah3 = 35 := by rw [eh3]; exact nw_k
  refine W.widen (k := 2) (n := 131042) (by omega) (by omega) ?_
  refine q_putnF (κ := 105) (k := 1) (φ := 251) (pc' := 20) C Bh3 Oh3.1 fl_X4_16 rfl rfl rfl hnm rfl rfl rfl rfl (gx_sN Bh3.2.2 Oh3) dX4_init_17 rfl (fun βh4 Hh4 Lh4 eh4 Bh4 => ?_)
  have Oh4 : co α a0 5 βh4 [251, 250] [] := by rw [eh4]; exact co_sN Oh3 ⟨(Or.inl (by rw [kh3]; rfl)), by rw [kh3]; decide, by rw [kh3]; decide, nh3.1, (fun _ j => by rw [eh3]; exact nw_e)⟩
  refine lv_aload_n hx hb dX4_init_20 rfl (lv_at hl 0 rfl) (hp_n (n := 21) rfl ?_)
  refine lv_iconst (v := 0) hx hb dX4_init_21 (by decide) (hp_n (n := 22) rfl ?_)
  refine q_puti (κ := 105) (k := 2) (φ := 252) (pc' := 25) C Bh4 Oh4.1 fl_X4_19 rfl rfl rfl rfl rfl rfl (gx_sI Bh4.2.2 (gc_i0 _)) dX4_init_22 rfl (fun βh5 Hh5 Lh5 eh5 Bh5 => ?_)
  have Oh5 : co α a0 5 βh5 [251, 250] [(252, 0)] := by rw [eh5]; exact co_sI Oh4 (by decide)
  refine lv_aload_n hx hb dX4_init_25 rfl (lv_at hl 0 rfl) (hp_n (n := 26) rfl ?_)
  refine q_new (κ := 9) (N := 5) (pc' := 29) C Bh5 cl_X4_23 it_X8 iz_X8 rfl in_9 tyX8_ok df_9 (by decide) rfl rfl rfl (by omega) (by omega) dX4_init_26 rfl (fun q hq => gx_nw Bh5.2.2 (by decide) hq) (fun βh6 ah6 Hh6 fh6 eh6 Bh6 => ?_)
  have nh6 := gx_new Bh5.2.2 Oh5 fh6
  have Oh6 : co α a0 5 βh6 [251, 250] [(252, 0)] := by rw [eh6]; exact co_nw Oh5 fh6
  have kh6 : hp_K βh6 ah6 = 109 := by rw [eh6]; exact nw_k
  have zh6 : ∀ φ, hp_I βh6 φ ah6 = 0 := fun φ => by rw [eh6]; exact nw_i
  refine W.widen (k := 3) (n := 131047) (by omega) (by omega) ?_
  refine lv_dup hx hb dX4_init_29 rfl (hp_n (n := 30) rfl ?_)
  refine q_cv (pc' := 33) Bh6 (hp_runI (As := []) (rest := [.ref ah6, .ref a0]) C Bh6 (t_X8_init Γ l βh6 Bh6.2.2.1 ah6 kh6 zh6) lb_X8_init rfl li_X8_init lk_X4_25 rfl (by decide) rfl hl.1 rfl (Nat.le_of_ble_eq_true rfl) dX4_init_30 ⟨by omega, by omega⟩) (fun q hq => gx_call Bh6.2.2 hq.1 nh6.1) rfl (fun βh7 Hh7 Lh7 ph7 Bh7 => ?_)
  have Oh7 : co α a0 5 βh7 [251, 250] [(252, 0)] := co_call Oh6 ph7.1 nh6.2 (by rw [kh6]; decide)
  have kh7 : hp_K βh7 ah6 = 9 := ph7.2.1
  refine W.widen (k := 6) (n := 131239) (by omega) (by omega) ?_
  refine q_putn (κ := 105) (k := 3) (φ := 253) (pc' := 36) C Bh7 Oh7.1 fl_X4_26 rfl rfl rfl rfl rfl rfl (gx_sN Bh7.2.2 Oh7) dX4_init_33 rfl (fun βh8 Hh8 Lh8 eh8 Bh8 => ?_)
  have Oh8 : co α a0 5 βh8 [253, 251, 250] [(252, 0)] := by rw [eh8]; exact co_sN Oh7 ⟨(Or.inl (by rw [kh7]; rfl)), by rw [kh7]; decide, by rw [kh7]; decide, nh6.1, (by rw [kh7]; intro q; exact absurd q (by decide))⟩
  refine lv_aload_n hx hb dX4_init_36 rfl (lv_at hl 0 rfl) (hp_n (n := 37) rfl ?_)
  refine q_new (κ := 6) (N := 2) (pc' := 40) C Bh8 cl_X4_30 it_X5 iz_X5 rfl in_6 tyX5_ok df_6 (by decide) rfl rfl rfl (by omega) (by omega) dX4_init_37 rfl (fun q hq => gx_nw Bh8.2.2 (by decide) hq) (fun βh9 ah9 Hh9 fh9 eh9 Bh9 => ?_)
  have nh9 := gx_new Bh8.2.2 Oh8 fh9
  have Oh9 : co α a0 5 βh9 [253, 251, 250] [(252, 0)] := by rw [eh9]; exact co_nw Oh8 fh9
  have kh9 : hp_K βh9 ah9 = 106 := by rw [eh9]; exact nw_k
  have zh9 : ∀ φ, hp_I βh9 φ ah9 = 0 := fun φ => by rw [eh9]; exact nw_i
  refine W.widen (k := 7) (n := 131241) (by omega) (by omega) ?_
  refine lv_dup hx hb dX4_init_40 rfl (hp_n (n := 41) rfl ?_)
  refine q_cv (pc' := 44) Bh9 (hp_runI (As := []) (rest := [.ref ah9, .ref a0]) C Bh9 (t_X5_init Γ l βh9 Bh9.2.2.1 ah9 kh9 zh9) lb_X5_init rfl li_X5_init lk_X4_32 rfl (by decide) rfl hl.1 rfl (Nat.le_of_ble_eq_true rfl) dX4_init_41 ⟨by omega, by omega⟩) (fun q hq => gx_call Bh9.2.2 hq.1 nh9.1) rfl (fun βh10 Hh10 Lh10 ph10 Bh10 => ?_)
  have Oh10 : co α a0 5 βh10 [253, 251, 250] [(252, 0)] := co_call Oh9 ph10.1 nh9.2 (by rw [kh9]; decide)
  have kh10 : hp_K βh10 ah9 = 6 := ph10.2.1
  refine W.widen (k := 8) (n := 131305) (by omega) (by omega) ?_
  refine q_putn (κ := 105) (k := 4) (φ := 254) (pc' := 47) C Bh10 Oh10.1 fl_X4_33 rfl rfl rfl rfl rfl rfl (gx_sN Bh10.2.2 Oh10) dX4_init_44 rfl (fun βh11 Hh11 Lh11 eh11 Bh11 => ?_)
  have Oh11 : co α a0 5 βh11 [254, 253, 251, 250] [(252, 0)] := by rw [eh11]; exact co_sN Oh10 ⟨(Or.inl (by rw [kh10]; rfl)), by rw [kh10]; decide, by rw [kh10]; decide, nh9.1, (by rw [kh10]; intro q; exact absurd q (by decide))⟩
  refine lv_aload_n hx hb dX4_init_47 rfl (lv_at hl 0 rfl) (hp_n (n := 48) rfl ?_)
  refine lv_iconst (v := 0) hx hb dX4_init_48 (by decide) (hp_n (n := 49) rfl ?_)
  refine q_puti (κ := 105) (k := 5) (φ := 255) (pc' := 52) C Bh11 Oh11.1 fl_X4_37 rfl rfl rfl rfl rfl rfl (gx_sI Bh11.2.2 (gc_i0 _)) dX4_init_49 rfl (fun βh12 Hh12 Lh12 eh12 Bh12 => ?_)
  have Oh12 : co α a0 5 βh12 [254, 253, 251, 250] [(255, 0), (252, 0)] := by rw [eh12]; exact co_sI Oh11 (by decide)
  refine lv_aload_n hx hb dX4_init_52 rfl (lv_at hl 0 rfl) (hp_n (n := 53) rfl ?_)
  refine lv_iconst (v := (-1)) hx hb dX4_init_53 (by decide) (hp_n (n := 54) rfl ?_)
  refine q_puti (κ := 105) (k := 6) (φ := 256) (pc' := 57) C Bh12 Oh12.1 fl_X4_40 rfl rfl rfl rfl rfl rfl (gx_sI Bh12.2.2 (fun q => absurd q (by decide))) dX4_init_54 rfl (fun βh13 Hh13 Lh13 eh13 Bh13 => ?_)
  have Oh13 : co α a0 5 βh13 [254, 253, 251, 250] [(256, (-1)), (255, 0), (252, 0)] := by rw [eh13]; exact co_sI Oh12 (by decide)
  refine lv_aload_n hx hb dX4_init_57 rfl (lv_at hl 0 rfl) (hp_n (n := 58) rfl ?_)
  refine lv_iconst (v := 0) hx hb dX4_init_58 (by decide) (hp_n (n := 59) rfl ?_)
  refine q_puti (κ := 105) (k := 7) (φ := 257) (pc' := 62) C Bh13 Oh13.1 fl_X4_43 rfl rfl rfl rfl rfl rfl (gx_sI Bh13.2.2 (gc_i0 _)) dX4_init_59 rfl (fun βh14 Hh14 Lh14 eh14 Bh14 => ?_)
  have Oh14 : co α a0 5 βh14 [254, 253, 251, 250] [(257, 0), (256, (-1)), (255, 0), (252, 0)] := by rw [eh14]; exact co_sI Oh13 (by decide)
  refine lv_aload_n hx hb dX4_init_62 rfl (lv_at hl 0 rfl) (hp_n (n := 63) rfl ?_)
  refine lv_iconst (v := (-1)) hx hb dX4_init_63 (by decide) (hp_n (n := 64) rfl ?_)
  refine q_puti (κ := 105) (k := 8) (φ := 258) (pc' := 67) C Bh14 Oh14.1 fl_X4_46 rfl rfl rfl rfl rfl rfl (gx_sI Bh14.2.2 (fun q => absurd q (by decide))) dX4_init_64 rfl (fun βh15 Hh15 Lh15 eh15 Bh15 => ?_)
  have Oh15 : co α a0 5 βh15 [254, 253, 251, 250] [(258, (-1)), (257, 0), (256, (-1)), (255, 0), (252, 0)] := by rw [eh15]; exact co_sI Oh14 (by decide)
  refine lv_aload_n hx hb dX4_init_67 rfl (lv_at hl 0 rfl) (hp_n (n := 68) rfl ?_)
  refine lv_iconst (v := 0) hx hb dX4_init_68 (by decide) (hp_n (n := 69) rfl ?_)
  refine q_puti (κ := 105) (k := 9) (φ := 259) (pc' := 72) C Bh15 Oh15.1 fl_X4_49 rfl rfl rfl rfl rfl rfl (gx_sI Bh15.2.2 (gc_i0 _)) dX4_init_69 rfl (fun βh16 Hh16 Lh16 eh16 Bh16 => ?_)
  have Oh16 : co α a0 5 βh16 [254, 253, 251, 250] [(259, 0), (258, (-1)), (257, 0), (256, (-1)), (255, 0), (252, 0)] := by rw [eh16]; exact co_sI Oh15 (by decide)
  refine lv_aload_n hx hb dX4_init_72 rfl (lv_at hl 0 rfl) (hp_n (n := 73) rfl ?_)
  refine lv_iconst (v := 0) hx hb dX4_init_73 (by decide) (hp_n (n := 74) rfl ?_)
  refine q_puti (κ := 105) (k := 10) (φ := 260) (pc' := 77) C Bh16 Oh16.1 fl_X4_52 rfl rfl rfl rfl rfl rfl (gx_sI Bh16.2.2 (gc_i0 _)) dX4_init_74 rfl (fun βh17 Hh17 Lh17 eh17 Bh17 => ?_)
  have Oh17 : co α a0 5 βh17 [254, 253, 251, 250] [(260, 0), (259, 0), (258, (-1)), (257, 0), (256, (-1)), (255, 0), (252, 0)] := by rw [eh17]; exact co_sI Oh16 (by decide)
  obtain ⟨Bh18, kh18, fh18, -⟩ := co_fin Bh17 Oh17 (by decide) (by decide) (by decide) (fun q => absurd q (by decide))
  refine W.widen (k := 8) (n := 131305) (by omega) (by omega) ?_
  exact q_vret C Bh18 hr hlk ⟨Bh18.2.2, kh18, fh18⟩ dX4_init_77
