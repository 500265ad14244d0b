abbrev w_X0_foldedTree : cw_W := ([53, 54], [], [], [])
set_option maxRecDepth 100000 in
set_option maxHeartbeats 4000000 in
theorem t_X0_foldedTree (n : Nat) : ∀ (Γ : hp_G) (l : Launch) (α : hp_T) (g : GC α) (a0 : Nat) (k0 : hp_K α a0 = 1) (a1 : Int32) (a2 : Int32) (a3 : Int32) (hd : 41 - a3.toInt ≤ (n : Int)), Met l yX0_foldedTree (hp_ws yX0_foldedTree cX0_foldedTree 7 (some .int)) (hp_rm (n + 3) 0 0) (hp_Pc Γ α [.ref a0, .int a1, .int a2, .int a3]) (hp_Qi Γ (fun r β => cw w_X0_foldedTree α β)) 0 0 (hp_A Γ) := by
  induction n using Nat.strongRecOn with
  | ind n ihR =>
  intro Γ l α g a0 k0 a1 a2 a3 hd
  refine hp_start (by decide) ?_
  intro p e s m below meth c C hr hlk B0 hnm
  have C : hp_C Γ p m c cX0_foldedTree 7 s ([.ref a0, .int a1, .int a2, .int a3] : List Value).toArray RX0 := C
  have hx := C.1.1
  have hb := C.1.2.1
  have hown := C.1.2.2.2.1
  have hts := C.1.2.2.2.2
  have B : hp_B Γ (cw w_X0_foldedTree) s α α s.heap [] := ⟨B0.1, B0.2.1, cw_rf g⟩
  have lit0 : (0 : Int32).toInt = 0 := by decide
  have lit1 : (1 : Int32).toInt = 1 := by decide
  have lit2 : (2 : Int32).toInt = 2 := by decide
  have lit40 : (40 : Int32).toInt = 40 := by decide
  have hl := lv_entry ([.ref a0, .int a1, .int a2, .int a3]) (n := 7) (Nat.le_of_ble_eq_true rfl)
  show W p l e (hp_rm (n + 3) 0 0) s m ([.ref a0, .int a1, .int a2, .int a3] : List Value).toArray below meth c s.heap [] 0 0 (MQ below (hp_Qi Γ (fun r β => cw w_X0_foldedTree α β)) ([.ref a0, .int a1, .int a2, .int a3] : List Value).toArray s 0 0 (hp_A Γ)) (entryFrame m ([.ref a0, .int a1, .int a2, .int a3] : List Value).toArray 7)
  rw [lg_entry_eq]
  generalize (lg_sl ([.ref a0, .int a1, .int a2, .int a3]) ++ List.replicate (7 - (lg_sl ([.ref a0, .int a1, .int a2, .int a3])).length) Slot.unset).toArray = ls at hl ⊢
  have hl : lv_has ls 7 [(0, .ref a0), (1, .int a1), (2, .int a2), (3, .int a3)] := hl
  refine lv_iload_n hx hb dX0_foldedTree_0 rfl (lv_at hl 3 rfl) (hp_n (n := 1) rfl ?_)
  refine lv_bipush (v := 40) hx hb dX0_foldedTree_1 (by decide) (hp_n (n := 3) rfl ?_)
  have J18 : ∀ (Hh_1 : Heap) (Lh_1 : List Loc) (Bh_1 : hp_B Γ (cw w_X0_foldedTree) s α α Hh_1 Lh_1) (ls : Array Slot) (hl : lv_has ls 7 [(0, .ref a0)]), W p l e (hp_rm (n + 3) 0 0) s m ([.ref a0, .int a1, .int a2, .int a3] : List Value).toArray below meth c Hh_1 Lh_1 0 0 (MQ below (hp_Qi Γ (fun r β => cw w_X0_foldedTree α β)) ([.ref a0, .int a1, .int a2, .int a3] : List Value).toArray s 0 0 (hp_A Γ)) (F0 m 18 ls []) := by
    intro Hh_1 Lh_1 Bh_1 ls hl
    refine lv_aload_n hx hb dX0_foldedTree_18 rfl (lv_at hl 0 rfl) (hp_n (n := 19) rfl ?_)
    refine lv_dup hx hb dX0_foldedTree_19 rfl (hp_n (n := 20) rfl ?_)
    refine q_geti (κ := 1) (k := 4) (φ := 54) (pc' := 23) C Bh_1 (cw_k Bh_1.2.2 k0) fl_X0_28 rfl rfl rfl dX0_foldedTree_20 rfl (fun x_2 ex_2 => ?_)
    refine lv_iconst (v := 1) hx hb dX0_foldedTree_23 (by decide) (hp_n (n := 24) rfl ?_)
    refine lv_iadd hx hb dX0_foldedTree_24 (hp_n (n := 25) rfl (lv_topi (fun x_3 ex_3 => ?_)))
    refine q_puti (κ := 1) (k := 4) (φ := 54) (pc' := 28) C Bh_1 (cw_k Bh_1.2.2 k0) fl_X0_28 rfl rfl rfl rfl rfl rfl (cw_sI Bh_1.2.2 (by decide) (fun h => absurd h (by decide))) dX0_foldedTree_25 rfl (fun αh_4 Hh_4 Lh_4 eh_4 Bh_4 => ?_)
    refine lv_aload_n hx hb dX0_foldedTree_28 rfl (lv_at hl 0 rfl) (hp_n (n := 29) rfl ?_)
    refine q_getr (κ := 1) (k := 1) (φ := 51) (pc' := 32) C Bh_4 (cw_k Bh_4.2.2 k0) fl_X0_18 rfl rfl rfl (cw_r Bh_4.2.2 k0 rfl rfl (by decide) (by decide)) dX0_foldedTree_29 rfl (fun b_5 eb_5 kb_5 => ?_)
    refine lv_aload_n hx hb dX0_foldedTree_32 rfl (lv_at hl 0 rfl) (hp_n (n := 33) rfl ?_)
    have t_6 : x_3 = hp_I αh_4 54 a0 := by rw [eh_4]; exact hp_I_at.symm
    refine q_getj (κ := 1) (k := 4) (φ := 54) (pc' := 36) C Bh_4 (cw_k Bh_4.2.2 k0) fl_X0_28 rfl rfl rfl t_6 dX0_foldedTree_33 rfl ?_
    refine lv_iconst (v := 1) hx hb dX0_foldedTree_36 (by decide) (hp_n (n := 37) rfl ?_)
    refine lv_isub hx hb dX0_foldedTree_37 (hp_n (n := 38) rfl (lv_topi (fun x_7 ex_7 => ?_)))
    refine q_ci (pc' := 41) Bh_4 (hp_runV (As := [.int x_7]) (rest := []) C Bh_4 (t_X5_at Γ l αh_4 Bh_4.2.2.1 b_5 (cw_k Bh_4.2.2 kb_5) x_7) lb_X5_at lv_X5_at lk_X0_48 (cw_k Bh_4.2.2 kb_5) rfl (by omega) rfl hl.1 rfl (Nat.le_of_ble_eq_true rfl) dX0_foldedTree_38 ⟨Nat.le_refl _, Nat.le_refl _⟩) (fun _ _ h => by rw [h]; exact Bh_4.2.2) rfl (fun rh_8 αh_8 Hh_8 Lh_8 ph_8 Bh_8 => ?_)
    rw [ph_8] at Bh_8
    exact q_iret C Bh_8 hr hlk Bh_8.2.2 dX0_foldedTree_41
  refine lv_icmp_gt (tgt := 18) hx hb dX0_foldedTree_3 (by decide) (fun c_9 => ?_) (fun c_9 => hp_n (n := 6) rfl ?_)
  ·
    have jc_9 := il_lt c_9
    exact J18 s.heap [] B ls (lv_sub hl [0] rfl)
  ·
    have jc_9 := il_nlt c_9
    refine lv_aload_n hx hb dX0_foldedTree_6 rfl (lv_at hl 0 rfl) (hp_n (n := 7) rfl ?_)
    refine q_geti (κ := 1) (k := 2) (φ := 52) (pc' := 10) C B (cw_k B.2.2 k0) fl_X0_22 rfl rfl rfl dX0_foldedTree_7 rfl (fun x_10 ex_10 => ?_)
    refine lv_iload_n hx hb dX0_foldedTree_10 rfl (lv_at hl 1 rfl) (hp_n (n := 11) rfl ?_)
    refine lv_iload_n hx hb dX0_foldedTree_11 rfl (lv_at hl 2 rfl) (hp_n (n := 12) rfl ?_)
    refine q_ci (pc' := 15) B (hp_runS (As := [.int x_10, .int a1, .int a2]) (rest := []) C B (t_X11_hasOneOf Γ l α B.2.2.1 x_10 a1 a2) lb_X11_hasOneOf ls_X11_hasOneOf lk_X0_44 rfl (by omega) rfl hl.1 rfl (Nat.le_of_ble_eq_true rfl) dX0_foldedTree_12 ⟨Nat.le_refl _, Nat.le_refl _⟩) (fun _ _ h => by rw [h.1]; exact B.2.2) rfl (fun rh_11 αh_11 Hh_11 Lh_11 ph_11 Bh_11 => ?_)
    rw [ph_11.1] at Bh_11
    have zh_11 := ph_11.2
    refine lv_if_ne (tgt := 42) hx hb dX0_foldedTree_15 (by decide) (fun c_12 => ?_) (fun c_12 => hp_n (n := 18) rfl ?_)
    ·
      have jc_12 := il_ne c_12
      refine lv_iload_n hx hb dX0_foldedTree_42 rfl (lv_at hl 2 rfl) (hp_n (n := 43) rfl ?_)
      refine lv_iconst (v := 2) hx hb dX0_foldedTree_43 (by decide) (hp_n (n := 44) rfl ?_)
      refine lv_icmp_ge (tgt := 71) hx hb dX0_foldedTree_44 (by decide) (fun c_13 => ?_) (fun c_13 => hp_n (n := 47) rfl ?_)
      ·
        have jc_13 := il_le c_13
        refine lv_iload_n hx hb dX0_foldedTree_71 rfl (lv_at hl 2 rfl) (hp_n (n := 72) rfl ?_)
        refine q_ci (pc' := 75) Bh_11 (hp_runS (As := [.int a2]) (rest := []) C Bh_11 (t_X11_firstPartOf Γ l α Bh_11.2.2.1 a2) lb_X11_firstPartOf ls_X11_firstPartOf lk_X0_51 rfl (by omega) rfl hl.1 rfl (Nat.le_of_ble_eq_true rfl) dX0_foldedTree_72 ⟨Nat.le_refl _, Nat.le_refl _⟩) (fun _ _ h => by rw [h]; exact Bh_11.2.2) rfl (fun rh_14 αh_14 Hh_14 Lh_14 ph_14 Bh_14 => ?_)
        rw [ph_14] at Bh_14
        refine lv_istore (lv' := [(4, .int rh_14), (0, .ref a0), (1, .int a1), (2, .int a2), (3, .int a3)]) hx hb dX0_foldedTree_75 hl (by decide) rfl (fun ls hl => hp_n (n := 77) rfl ?_)
        refine lv_aload_n hx hb dX0_foldedTree_77 rfl (lv_at hl 1 rfl) (hp_n (n := 78) rfl ?_)
        refine lv_iload_n hx hb dX0_foldedTree_78 rfl (lv_at hl 2 rfl) (hp_n (n := 79) rfl ?_)
        refine lv_iload hx hb dX0_foldedTree_79 (lv_at hl 0 rfl) (hp_n (n := 81) rfl ?_)
        refine lv_iload_n hx hb dX0_foldedTree_81 rfl (lv_at hl 4 rfl) (hp_n (n := 82) rfl ?_)
        refine lv_iconst (v := 1) hx hb dX0_foldedTree_82 (by decide) (hp_n (n := 83) rfl ?_)
        refine lv_iadd hx hb dX0_foldedTree_83 (hp_n (n := 84) rfl (lv_topi (fun x_15 ex_15 => ?_)))
        have qx_15 : x_15.toInt = a3.toInt + 1 := by have qa := ib_lo a3; rw [ex_15]; exact ii_add (by omega) (by omega)
        refine q_ci (pc' := 87) Bh_14 (hp_runS (As := [.ref a0, .int a1, .int rh_14, .int x_15]) (rest := []) C Bh_14 (ihR (n - 1) (by omega) Γ l α Bh_14.2.2.1 a0 (cw_k Bh_14.2.2 k0) a1 rh_14 x_15 (by omega)) lb_X0_foldedTree ls_X0_foldedTree lk_X0_40 rfl (by omega) rfl hl.1 rfl (Nat.le_of_ble_eq_true rfl) dX0_foldedTree_84 ⟨Nat.le_refl _, Nat.le_refl _⟩) (fun _ _ h => cw_tr Bh_14.2.2 h (by decide)) rfl (fun rh_16 αh_16 Hh_16 Lh_16 ph_16 Bh_16 => ?_)
        refine lv_istore (lv' := [(5, .int rh_16), (4, .int rh_14), (0, .ref a0), (1, .int a1), (2, .int a2), (3, .int a3)]) hx hb dX0_foldedTree_87 hl (by decide) rfl (fun ls hl => hp_n (n := 89) rfl ?_)
        refine lv_aload_n hx hb dX0_foldedTree_89 rfl (lv_at hl 2 rfl) (hp_n (n := 90) rfl ?_)
        refine lv_iload_n hx hb dX0_foldedTree_90 rfl (lv_at hl 3 rfl) (hp_n (n := 91) rfl ?_)
        refine lv_iload hx hb dX0_foldedTree_91 (lv_at hl 1 rfl) (hp_n (n := 93) rfl ?_)
        refine lv_iadd hx hb dX0_foldedTree_93 (hp_n (n := 94) rfl (lv_topi (fun x_17 ex_17 => ?_)))
        refine lv_iload_n hx hb dX0_foldedTree_94 rfl (lv_at hl 4 rfl) (hp_n (n := 95) rfl ?_)
        refine lv_iload hx hb dX0_foldedTree_95 (lv_at hl 1 rfl) (hp_n (n := 97) rfl ?_)
        refine lv_isub hx hb dX0_foldedTree_97 (hp_n (n := 98) rfl (lv_topi (fun x_18 ex_18 => ?_)))
        refine lv_iload_n hx hb dX0_foldedTree_98 rfl (lv_at hl 5 rfl) (hp_n (n := 99) rfl ?_)
        refine lv_iconst (v := 1) hx hb dX0_foldedTree_99 (by decide) (hp_n (n := 100) rfl ?_)
        refine lv_iadd hx hb dX0_foldedTree_100 (hp_n (n := 101) rfl (lv_topi (fun x_19 ex_19 => ?_)))
        have qx_19 : x_19.toInt = a3.toInt + 1 := by have qa := ib_lo a3; rw [ex_19]; exact ii_add (by omega) (by omega)
        refine q_ci (pc' := 104) Bh_16 (hp_runS (As := [.ref a0, .int x_17, .int x_18, .int x_19]) (rest := []) C Bh_16 (ihR (n - 1) (by omega) Γ l αh_16 Bh_16.2.2.1 a0 (cw_k Bh_16.2.2 k0) x_17 x_18 x_19 (by omega)) lb_X0_foldedTree ls_X0_foldedTree lk_X0_40 rfl (by omega) rfl hl.1 rfl (Nat.le_of_ble_eq_true rfl) dX0_foldedTree_101 ⟨Nat.le_refl _, Nat.le_refl _⟩) (fun _ _ h => cw_tr Bh_16.2.2 h (by decide)) rfl (fun rh_20 αh_20 Hh_20 Lh_20 ph_20 Bh_20 => ?_)
        refine lv_istore (lv' := [(6, .int rh_20), (5, .int rh_16), (4, .int rh_14), (0, .ref a0), (1, .int a1), (2, .int a2), (3, .int a3)]) hx hb dX0_foldedTree_104 hl (by decide) rfl (fun ls hl => hp_n (n := 106) rfl ?_)
        refine lv_aload_n hx hb dX0_foldedTree_106 rfl (lv_at hl 3 rfl) (hp_n (n := 107) rfl ?_)
        refine q_geti (κ := 1) (k := 0) (φ := 50) (pc' := 110) C Bh_20 (cw_k Bh_20.2.2 k0) fl_X0_9 rfl rfl rfl dX0_foldedTree_107 rfl (fun x_21 ex_21 => ?_)
        refine lv_iload hx hb dX0_foldedTree_110 (lv_at hl 1 rfl) (hp_n (n := 112) rfl ?_)
        refine lv_iload hx hb dX0_foldedTree_112 (lv_at hl 0 rfl) (hp_n (n := 114) rfl ?_)
        refine q_ci (pc' := 117) Bh_20 (hp_runS (As := [.int x_21, .int rh_16, .int rh_20]) (rest := []) C Bh_20 (t_X11_markOfTwo Γ l αh_20 Bh_20.2.2.1 x_21 rh_16 rh_20) lb_X11_markOfTwo ls_X11_markOfTwo lk_X0_54 rfl (by omega) rfl hl.1 rfl (Nat.le_of_ble_eq_true rfl) dX0_foldedTree_114 ⟨Nat.le_refl _, Nat.le_refl _⟩) (fun _ _ h => by rw [h]; exact Bh_20.2.2) rfl (fun rh_22 αh_22 Hh_22 Lh_22 ph_22 Bh_22 => ?_)
        rw [ph_22] at Bh_22
        exact q_iret C Bh_22 hr hlk Bh_22.2.2 dX0_foldedTree_117
      ·
        have jc_13 := il_nle c_13
        refine lv_aload_n hx hb dX0_foldedTree_47 rfl (lv_at hl 0 rfl) (hp_n (n := 48) rfl ?_)
        refine lv_dup hx hb dX0_foldedTree_48 rfl (hp_n (n := 49) rfl ?_)
        refine q_geti (κ := 1) (k := 3) (φ := 53) (pc' := 52) C Bh_11 (cw_k Bh_11.2.2 k0) fl_X0_25 rfl rfl rfl dX0_foldedTree_49 rfl (fun x_23 ex_23 => ?_)
        refine lv_iconst (v := 1) hx hb dX0_foldedTree_52 (by decide) (hp_n (n := 53) rfl ?_)
        refine lv_iadd hx hb dX0_foldedTree_53 (hp_n (n := 54) rfl (lv_topi (fun x_24 ex_24 => ?_)))
        refine q_puti (κ := 1) (k := 3) (φ := 53) (pc' := 57) C Bh_11 (cw_k Bh_11.2.2 k0) fl_X0_25 rfl rfl rfl rfl rfl rfl (cw_sI Bh_11.2.2 (by decide) (fun h => absurd h (by decide))) dX0_foldedTree_54 rfl (fun αh_25 Hh_25 Lh_25 eh_25 Bh_25 => ?_)
        refine lv_aload_n hx hb dX0_foldedTree_57 rfl (lv_at hl 0 rfl) (hp_n (n := 58) rfl ?_)
        refine q_getr (κ := 1) (k := 1) (φ := 51) (pc' := 61) C Bh_25 (cw_k Bh_25.2.2 k0) fl_X0_18 rfl rfl rfl (cw_r Bh_25.2.2 k0 rfl rfl (by decide) (by decide)) dX0_foldedTree_58 rfl (fun b_26 eb_26 kb_26 => ?_)
        refine lv_aload_n hx hb dX0_foldedTree_61 rfl (lv_at hl 0 rfl) (hp_n (n := 62) rfl ?_)
        have t_27 : x_24 = hp_I αh_25 53 a0 := by rw [eh_25]; exact hp_I_at.symm
        refine q_getj (κ := 1) (k := 3) (φ := 53) (pc' := 65) C Bh_25 (cw_k Bh_25.2.2 k0) fl_X0_25 rfl rfl rfl t_27 dX0_foldedTree_62 rfl ?_
        refine lv_iconst (v := 1) hx hb dX0_foldedTree_65 (by decide) (hp_n (n := 66) rfl ?_)
        refine lv_isub hx hb dX0_foldedTree_66 (hp_n (n := 67) rfl (lv_topi (fun x_28 ex_28 => ?_)))
        refine q_ci (pc' := 70) Bh_25 (hp_runV (As := [.int x_28]) (rest := []) C Bh_25 (t_X5_at Γ l αh_25 Bh_25.2.2.1 b_26 (cw_k Bh_25.2.2 kb_26) x_28) lb_X5_at lv_X5_at lk_X0_48 (cw_k Bh_25.2.2 kb_26) rfl (by omega) rfl hl.1 rfl (Nat.le_of_ble_eq_true rfl) dX0_foldedTree_67 ⟨Nat.le_refl _, Nat.le_refl _⟩) (fun _ _ h => by rw [h]; exact Bh_25.2.2) rfl (fun rh_29 αh_29 Hh_29 Lh_29 ph_29 Bh_29 => ?_)
        rw [ph_29] at Bh_29
        exact q_iret C Bh_29 hr hlk Bh_29.2.2 dX0_foldedTree_70
    ·
      have jc_12 := il_eq c_12
      exact J18 Hh_11 Lh_11 Bh_11 ls (lv_sub hl [0] rfl)
abbrev w_X0_why : cw_W := ([50, 52, 53, 54], [51], [], [])
set_option maxRecDepth 100000 in
set_option maxHeartbeats 4000000 in
theorem t_X0_why (Γ : hp_G) (l : Launch) (α : hp_T) (g : GC α) (a0 : Nat) (k0 : hp_K α a0 = 1) (a1 : Int32) (a2 : Nat) (k2 : hp_K α a2 = 6) (a3 : Int32) (a4 : Int32) (a5 : Int32) (a6 : Int32) : Met l yX0_why (hp_ws yX0_why cX0_why 8 (some .int)) (hp_rm 45 0 0) (hp_Pc Γ α [.ref a0, .int a1, .ref a2, .int a3, .int a4, .int a5, .int a6]) (hp_Qi Γ (fun r β => cw w_X0_why α β)) 0 0 (hp_A Γ) := by
  refine hp_start (by decide) ?_
  intro p e s m below meth c C hr hlk B0 hnm
  have C : hp_C Γ p m c cX0_why 8 s ([.ref a0, .int a1, .ref a2, .int a3, .int a4, .int a5, .int a6] : List Value).toArray RX0 := C
  have hx := C.1.1
  have hb := C.1.2.1
  have hown := C.1.2.2.2.1
  have hts := C.1.2.2.2.2
  have B : hp_B Γ (cw w_X0_why) s α α s.heap [] := ⟨B0.1, B0.2.1, cw_rf g⟩
  have lit0 : (0 : Int32).toInt = 0 := by decide
  have lit1 : (1 : Int32).toInt = 1 := by decide
  have lit2 : (2 : Int32).toInt = 2 := by decide
  have lit3 : (3 : Int32).toInt = 3 := by decide
  have hl := lv_entry ([.ref a0, .int a1, .ref a2, .int a3, .int a4, .int a5, .int a6]) (n := 8) (Nat.le_of_ble_eq_true rfl)
  show W p l e (hp_rm 45 0 0) s m ([.ref a0, .int a1, .ref a2, .int a3, .int a4, .int a5, .int a6] : List Value).toArray below meth c s.heap [] 0 0 (MQ below (hp_Qi Γ (fun r β => cw w_X0_why α β)) ([.ref a0, .int a1, .ref a2, .int a3, .int a4, .int a5, .int a6] : List Value).toArray s 0 0 (hp_A Γ)) (entryFrame m ([.ref a0, .int a1, .ref a2, .int a3, .int a4, .int a5, .int a6] : List Value).toArray 8)
  rw [lg_entry_eq]
  generalize (lg_sl ([.ref a0, .int a1, .ref a2, .int a3, .int a4, .int a5, .int a6]) ++ List.replicate (8 - (lg_sl ([.ref a0, .int a1, .ref a2, .int a3, .int a4, .int a5, .int a6])).length) Slot.unset).toArray = ls at hl ⊢
  have hl : lv_has ls 8 [(0, .ref a0), (1, .int a1), (2, .ref a2), (3, .int a3), (4, .int a4), (5, .int a5), (6, .int a6)] := hl
  refine lv_iload_n hx hb dX0_why_0 rfl (lv_at hl 3 rfl) (hp_n (n := 1) rfl ?_)
  refine q_ci (pc' := 4) B (hp_runS (As := [.int a3]) (rest := []) C B (t_J6_bitCount_0f7a4 Γ l α B.2.2.1 a3) lb_J6_bitCount_0f7a4 ls_J6_bitCount_0f7a4 lk_X0_31 rfl (by decide) rfl hl.1 rfl (Nat.le_of_ble_eq_true rfl) dX0_why_1 ⟨Nat.le_refl _, Nat.le_refl _⟩) (fun _ _ h => by rw [h]; exact B.2.2) rfl (fun rh_1 αh_1 Hh_1 Lh_1 ph_1 Bh_1 => ?_)
  rw [ph_1] at Bh_1
  refine lv_istore (lv' := [(7, .int rh_1), (0, .ref a0), (1, .int a1), (2, .ref a2), (3, .int a3), (4, .int a4), (5, .int a5), (6, .int a6)]) hx hb dX0_why_4 hl (by decide) rfl (fun ls hl => hp_n (n := 6) rfl ?_)
  refine lv_aload_n hx hb dX0_why_6 rfl (lv_at hl 3 rfl) (hp_n (n := 7) rfl ?_)
  refine q_geti (κ := 6) (k := 1) (φ := 301) (pc' := 10) C Bh_1 (cw_k Bh_1.2.2 k2) fl_X0_37 rfl rfl rfl dX0_why_7 rfl (fun x_2 ex_2 => ?_)
  refine lv_iload hx hb dX0_why_10 (lv_at hl 0 rfl) (hp_n (n := 12) rfl ?_)
  refine lv_iload hx hb dX0_why_12 (lv_at hl 6 rfl) (hp_n (n := 14) rfl ?_)
  refine lv_iadd hx hb dX0_why_14 (hp_n (n := 15) rfl (lv_topi (fun x_3 ex_3 => ?_)))
  refine lv_icmp_eq (tgt := 36) hx hb dX0_why_15 (by decide) (fun c_4 => ?_) (fun c_4 => hp_n (n := 18) rfl ?_)
  ·
    have jc_4 := il_eq c_4
    refine lv_aload_n hx hb dX0_why_36 rfl (lv_at hl 1 rfl) (hp_n (n := 37) rfl ?_)
    refine lv_iload_n hx hb dX0_why_37 rfl (lv_at hl 2 rfl) (hp_n (n := 38) rfl ?_)
    refine q_puti (κ := 1) (k := 0) (φ := 50) (pc' := 41) C Bh_1 (cw_k Bh_1.2.2 k0) fl_X0_9 rfl rfl rfl rfl rfl rfl (cw_sI Bh_1.2.2 (by decide) (fun h => absurd h (by decide))) dX0_why_38 rfl (fun αh_5 Hh_5 Lh_5 eh_5 Bh_5 => ?_)
    refine lv_aload_n hx hb dX0_why_41 rfl (lv_at hl 1 rfl) (hp_n (n := 42) rfl ?_)
    refine lv_aload_n hx hb dX0_why_42 rfl (lv_at hl 3 rfl) (hp_n (n := 43) rfl ?_)
    refine q_putr (κ := 1) (k := 1) (φ := 51) (pc' := 46) C Bh_5 (cw_k Bh_5.2.2 k0) fl_X0_18 rfl rfl rfl rfl rfl rfl (cw_sR Bh_5.2.2 (by decide) (Or.inl k2)) dX0_why_43 rfl (fun αh_6 Hh_6 Lh_6 eh_6 Bh_6 => ?_)
    refine lv_aload_n hx hb dX0_why_46 rfl (lv_at hl 1 rfl) (hp_n (n := 47) rfl ?_)
    refine lv_iload_n hx hb dX0_why_47 rfl (lv_at hl 4 rfl) (hp_n (n := 48) rfl ?_)
    refine q_puti (κ := 1) (k := 2) (φ := 52) (pc' := 51) C Bh_6 (cw_k Bh_6.2.2 k0) fl_X0_22 rfl rfl rfl rfl rfl rfl (cw_sI Bh_6.2.2 (by decide) (fun h => absurd h (by decide))) dX0_why_48 rfl (fun αh_7 Hh_7 Lh_7 eh_7 Bh_7 => ?_)
    refine lv_aload_n hx hb dX0_why_51 rfl (lv_at hl 1 rfl) (hp_n (n := 52) rfl ?_)
    refine lv_iconst (v := 0) hx hb dX0_why_52 (by decide) (hp_n (n := 53) rfl ?_)
    refine q_puti (κ := 1) (k := 3) (φ := 53) (pc' := 56) C Bh_7 (cw_k Bh_7.2.2 k0) fl_X0_25 rfl rfl rfl rfl rfl rfl (cw_sI Bh_7.2.2 (by decide) (fun h => absurd h (by decide))) dX0_why_53 rfl (fun αh_8 Hh_8 Lh_8 eh_8 Bh_8 => ?_)
    refine lv_aload_n hx hb dX0_why_56 rfl (lv_at hl 1 rfl) (hp_n (n := 57) rfl ?_)
    refine lv_iload hx hb dX0_why_57 (lv_at hl 0 rfl) (hp_n (n := 59) rfl ?_)
    refine q_puti (κ := 1) (k := 4) (φ := 54) (pc' := 62) C Bh_8 (cw_k Bh_8.2.2 k0) fl_X0_28 rfl rfl rfl rfl rfl rfl (cw_sI Bh_8.2.2 (by decide) (fun h => absurd h (by decide))) dX0_why_59 rfl (fun αh_9 Hh_9 Lh_9 eh_9 Bh_9 => ?_)
    refine lv_aload_n hx hb dX0_why_62 rfl (lv_at hl 1 rfl) (hp_n (n := 63) rfl ?_)
    refine lv_iconst (v := 0) hx hb dX0_why_63 (by decide) (hp_n (n := 64) rfl ?_)
    refine lv_iload hx hb dX0_why_64 (lv_at hl 5 rfl) (hp_n (n := 66) rfl ?_)
    refine lv_iconst (v := 0) hx hb dX0_why_66 (by decide) (hp_n (n := 67) rfl ?_)
    refine q_ci (pc' := 70) Bh_9 (hp_runS (As := [.ref a0, .int 0, .int a4, .int 0]) (rest := []) C Bh_9 (t_X0_foldedTree 41 Γ l αh_9 Bh_9.2.2.1 a0 (cw_k Bh_9.2.2 k0) 0 a4 0 (by omega)) lb_X0_foldedTree ls_X0_foldedTree lk_X0_40 rfl (by decide) rfl hl.1 rfl (Nat.le_of_ble_eq_true rfl) dX0_why_67 ⟨Nat.le_refl _, Nat.le_refl _⟩) (fun _ _ h => cw_tr Bh_9.2.2 h (by decide)) rfl (fun rh_10 αh_10 Hh_10 Lh_10 ph_10 Bh_10 => ?_)
    refine lv_iload hx hb dX0_why_70 (lv_at hl 7 rfl) (hp_n (n := 72) rfl ?_)
    refine lv_icmp_ne (tgt := 79) hx hb dX0_why_72 (by decide) (fun c_11 => ?_) (fun c_11 => hp_n (n := 75) rfl ?_)
    ·
      have jc_11 := il_ne c_11
      refine lv_iconst (v := 3) hx hb dX0_why_79 (by decide) (hp_n (n := 80) rfl ?_)
      exact q_iret C Bh_10 hr hlk Bh_10.2.2 dX0_why_80
    ·
      have jc_11 := il_eq c_11
      refine lv_iconst (v := 0) hx hb dX0_why_75 (by decide) (hp_n (n := 76) rfl ?_)
      refine lv_goto (tgt := 80) hx hb dX0_why_76 (by decide) ?_
      exact q_iret C Bh_10 hr hlk Bh_10.2.2 dX0_why_80
  ·
    have jc_4 := il_ne c_4
    refine lv_aload_n hx hb dX0_why_18 rfl (lv_at hl 3 rfl) (hp_n (n := 19) rfl ?_)
    refine q_getj (κ := 6) (k := 1) (φ := 301) (pc' := 22) C Bh_1 (cw_k Bh_1.2.2 k2) fl_X0_37 rfl rfl rfl ex_2 dX0_why_19 rfl ?_
    refine lv_iload hx hb dX0_why_22 (lv_at hl 0 rfl) (hp_n (n := 24) rfl ?_)
    refine lv_iload hx hb dX0_why_24 (lv_at hl 6 rfl) (hp_n (n := 26) rfl ?_)
    refine lv_iadd hx hb dX0_why_26 (hp_n (n := 27) rfl (lv_topi (fun x_12 ex_12 => ?_)))
    refine lv_icmp_ge (tgt := 34) hx hb dX0_why_27 (by decide) (fun c_13 => ?_) (fun c_13 => hp_n (n := 30) rfl ?_)
    ·
      have jc_13 := il_le c_13
      refine lv_iconst (v := 2) hx hb dX0_why_34 (by decide) (hp_n (n := 35) rfl ?_)
      exact q_iret C Bh_1 hr hlk Bh_1.2.2 dX0_why_35
    ·
      have jc_13 := il_nle c_13
      refine lv_iconst (v := 1) hx hb dX0_why_30 (by decide) (hp_n (n := 31) rfl ?_)
      refine lv_goto (tgt := 35) hx hb dX0_why_31 (by decide) ?_
      exact q_iret C Bh_1 hr hlk Bh_1.2.2 dX0_why_35
