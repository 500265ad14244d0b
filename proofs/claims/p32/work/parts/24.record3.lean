abbrev w_X11_clashingStep : cw_W := ([], [], [], [])
set_option maxRecDepth 100000 in
set_option maxHeartbeats 4000000 in
theorem t_X11_clashingStep (Γ : hp_G) (l : Launch) (α : hp_T) (g : GC α) (a0 : Nat) (k0 : hp_K α a0 = 12) (a1 : Int32) (a2 : Int32) : Met l yX11_clashingStep (hp_ws yX11_clashingStep cX11_clashingStep 7 (some .int)) (hp_rm 2 0 0) (hp_Pc Γ α [.ref a0, .int a1, .int a2]) (hp_Qi Γ (fun r β => β = α)) 0 0 (hp_A Γ) := by
  refine hp_start (by decide) ?_
  intro p e s m below meth c C hr hlk B0 hnm
  have C : hp_C Γ p m c cX11_clashingStep 7 s ([.ref a0, .int a1, .int a2] : List Value).toArray RX11 := C
  have hx := C.1.1
  have hb := C.1.2.1
  have hown := C.1.2.2.2.1
  have hts := C.1.2.2.2.2
  have B : hp_B Γ (cw w_X11_clashingStep) s α α s.heap [] := ⟨B0.1, B0.2.1, cw_rf g⟩
  have litm1 : ((-1) : Int32).toInt = (-1) := by decide
  have lit0 : (0 : Int32).toInt = 0 := by decide
  have lit1 : (1 : Int32).toInt = 1 := by decide
  have hl := lv_entry ([.ref a0, .int a1, .int a2]) (n := 7) (Nat.le_of_ble_eq_true rfl)
  show W p l e (hp_rm 2 0 0) s m ([.ref a0, .int a1, .int a2] : List Value).toArray below meth c s.heap [] 0 0 (MQ below (hp_Qi Γ (fun r β => β = α)) ([.ref a0, .int a1, .int a2] : List Value).toArray s 0 0 (hp_A Γ)) (entryFrame m ([.ref a0, .int a1, .int a2] : List Value).toArray 7)
  rw [lg_entry_eq]
  generalize (lg_sl ([.ref a0, .int a1, .int a2]) ++ List.replicate (7 - (lg_sl ([.ref a0, .int a1, .int a2])).length) Slot.unset).toArray = ls at hl ⊢
  have hl : lv_has ls 7 [(0, .ref a0), (1, .int a1), (2, .int a2)] := hl
  refine lv_iload_n hx hb dX11_clashingStep_0 rfl (lv_at hl 1 rfl) (hp_n (n := 1) rfl ?_)
  refine lv_istore_n (lv' := [(3, .int a1), (0, .ref a0), (1, .int a1), (2, .int a2)]) hx hb dX11_clashingStep_1 rfl hl (by decide) rfl (fun ls hl => hp_n (n := 2) rfl ?_)
  refine lv_iload_n hx hb dX11_clashingStep_2 rfl (lv_at hl 3 rfl) (hp_n (n := 3) rfl ?_)
  refine lv_istore (lv' := [(4, .int a2), (3, .int a1), (0, .ref a0), (1, .int a1), (2, .int a2)]) hx hb dX11_clashingStep_3 hl (by decide) rfl (fun ls hl => hp_n (n := 5) rfl ?_)
  refine lv_iconst (v := 0) hx hb dX11_clashingStep_5 (by decide) (hp_n (n := 6) rfl ?_)
  have J8 : ∀ (nq : Nat) (Hh_1 : Heap) (Lh_1 : List Loc) (Bh_1 : hp_B Γ (cw w_X11_clashingStep) s α α Hh_1 Lh_1) (v3_h_1 : Int32) (v4_h_1 : Int32) (v5_h_1 : Int32) (ih_1_0 : 0 ≤ v5_h_1.toInt) (ls : Array Slot) (hl : lv_has ls 7 [(0, .ref a0), (3, .int v3_h_1), (4, .int v4_h_1), (5, .int v5_h_1)]) (hmu8 : (2147483647 - v5_h_1.toInt).toNat = nq), W p l e (hp_rm 2 0 0) s m ([.ref a0, .int a1, .int a2] : List Value).toArray below meth c Hh_1 Lh_1 0 0 (MQ below (hp_Qi Γ (fun r β => β = α)) ([.ref a0, .int a1, .int a2] : List Value).toArray s 0 0 (hp_A Γ)) (F0 m 8 ls []) := by
    intro nq
    induction nq using Nat.strongRecOn with
    | ind nq ih8 =>
    intro Hh_1 Lh_1 Bh_1 v3_h_1 v4_h_1 v5_h_1 ih_1_0 ls hl hmu8
    have inv8_0 := ih_1_0
    refine lv_iload hx hb dX11_clashingStep_8 (lv_at hl 3 rfl) (hp_n (n := 10) rfl ?_)
    refine lv_aload_n hx hb dX11_clashingStep_10 rfl (lv_at hl 0 rfl) (hp_n (n := 11) rfl ?_)
    refine q_getr (κ := 12) (k := 12) (φ := 612) (pc' := 14) C Bh_1 (cw_k Bh_1.2.2 k0) fl_X11_62 rfl rfl rfl (cw_r Bh_1.2.2 k0 rfl rfl (by decide) (by decide)) dX11_clashingStep_11 rfl (fun b_2 eb_2 kb_2 => ?_)
    refine q_geti (κ := 9) (k := 3) (φ := 453) (pc' := 17) C Bh_1 (cw_k Bh_1.2.2 kb_2) fl_X11_312 rfl rfl rfl dX11_clashingStep_14 rfl (fun x_3 ex_3 => ?_)
    obtain ⟨gx_3a, gx_3b⟩ : 0 ≤ x_3.toInt ∧ x_3.toInt ≤ 64 := by rw [ex_3]; exact Bh_1.2.2.1.1 453 b_2 rfl
    refine lv_icmp_ge (tgt := 130) hx hb dX11_clashingStep_17 (by decide) (fun c_4 => ?_) (fun c_4 => hp_n (n := 20) rfl ?_)
    ·
      have jc_4 := il_le c_4
      refine lv_iconst (v := (-1)) hx hb dX11_clashingStep_130 (by decide) (hp_n (n := 131) rfl ?_)
      exact q_iret C Bh_1 hr hlk rfl dX11_clashingStep_131
    ·
      have jc_4 := il_nle c_4
      refine lv_iload_n hx hb dX11_clashingStep_20 rfl (lv_at hl 1 rfl) (hp_n (n := 21) rfl ?_)
      refine lv_iload hx hb dX11_clashingStep_21 (lv_at hl 2 rfl) (hp_n (n := 23) rfl ?_)
      have J47 : ∀ (Hh_5 : Heap) (Lh_5 : List Loc) (Bh_5 : hp_B Γ (cw w_X11_clashingStep) s α α Hh_5 Lh_5) (ls : Array Slot) (hl : lv_has ls 7 [(0, .ref a0), (3, .int v3_h_1), (4, .int v4_h_1), (5, .int v5_h_1)]), W p l e (hp_rm 2 0 0) s m ([.ref a0, .int a1, .int a2] : List Value).toArray below meth c Hh_5 Lh_5 0 0 (MQ below (hp_Qi Γ (fun r β => β = α)) ([.ref a0, .int a1, .int a2] : List Value).toArray s 0 0 (hp_A Γ)) (F0 m 47 ls []) := by
        intro Hh_5 Lh_5 Bh_5 ls hl
        refine lv_iconst (v := 1) hx hb dX11_clashingStep_47 (by decide) (hp_n (n := 48) rfl ?_)
        refine lv_goto (tgt := 52) hx hb dX11_clashingStep_48 (by decide) ?_
        refine lv_istore (lv' := [(6, .int 1), (0, .ref a0), (3, .int v3_h_1), (4, .int v4_h_1), (5, .int v5_h_1)]) hx hb dX11_clashingStep_52 hl (by decide) rfl (fun ls hl => hp_n (n := 54) rfl ?_)
        refine lv_aload_n hx hb dX11_clashingStep_54 rfl (lv_at hl 1 rfl) (hp_n (n := 55) rfl ?_)
        refine q_gets (κ := 12) (k := 12) (φ := 612) (pc' := 58) C Bh_5 (cw_k Bh_5.2.2 k0) fl_X11_62 rfl rfl rfl eb_2 dX11_clashingStep_55 rfl ?_
        refine lv_aload_n hx hb dX11_clashingStep_58 rfl (lv_at hl 1 rfl) (hp_n (n := 59) rfl ?_)
        refine q_getr (κ := 12) (k := 1) (φ := 601) (pc' := 62) C Bh_5 (cw_k Bh_5.2.2 k0) fl_X11_16 rfl rfl rfl (cw_r Bh_5.2.2 k0 rfl rfl (by decide) (by decide)) dX11_clashingStep_59 rfl (fun b_6 eb_6 kb_6 => ?_)
        refine q_geti (κ := 11) (k := 0) (φ := 550) (pc' := 65) C Bh_5 (cw_k Bh_5.2.2 kb_6) fl_X11_122 rfl rfl rfl dX11_clashingStep_62 rfl (fun x_7 ex_7 => ?_)
        refine lv_iload hx hb dX11_clashingStep_65 (lv_at hl 4 rfl) (hp_n (n := 67) rfl ?_)
        refine lv_iload_n hx hb dX11_clashingStep_67 rfl (lv_at hl 2 rfl) (hp_n (n := 68) rfl ?_)
        refine lv_aload_n hx hb dX11_clashingStep_68 rfl (lv_at hl 1 rfl) (hp_n (n := 69) rfl ?_)
        refine q_getr (κ := 12) (k := 14) (φ := 614) (pc' := 72) C Bh_5 (cw_k Bh_5.2.2 k0) fl_X11_69 rfl rfl rfl (cw_r Bh_5.2.2 k0 rfl rfl (by decide) (by decide)) dX11_clashingStep_69 rfl (fun b_8 eb_8 kb_8 => ?_)
        refine lv_iload hx hb dX11_clashingStep_72 (lv_at hl 4 rfl) (hp_n (n := 74) rfl ?_)
        refine q_ci (pc' := 77) Bh_5 (hp_runV (As := [.int v5_h_1]) (rest := [.int v3_h_1, .int v5_h_1, .int x_7, .ref b_2]) C Bh_5 (t_X5_at Γ l α Bh_5.2.2.1 b_8 (cw_k Bh_5.2.2 kb_8) v5_h_1) lb_X5_at lv_X5_at lk_X11_135 (cw_k Bh_5.2.2 kb_8) rfl (by decide) rfl hl.1 rfl (Nat.le_of_ble_eq_true rfl) dX11_clashingStep_74 ⟨Nat.le_refl _, Nat.le_refl _⟩) (fun _ _ h => by rw [h]; exact Bh_5.2.2) rfl (fun rh_9 αh_9 Hh_9 Lh_9 ph_9 Bh_9 => ?_)
        rw [ph_9] at Bh_9
        refine q_ci (pc' := 80) Bh_9 (hp_runV (As := [.int x_7, .int v5_h_1, .int v3_h_1, .int rh_9]) (rest := []) C Bh_9 (t_X8_joined Γ l α Bh_9.2.2.1 b_2 (cw_k Bh_9.2.2 kb_2) x_7 v5_h_1 v3_h_1 rh_9) lb_X8_joined lv_X8_joined lk_X11_478 (cw_k Bh_9.2.2 kb_2) rfl (by decide) rfl hl.1 rfl (Nat.le_of_ble_eq_true rfl) dX11_clashingStep_77 ⟨Nat.le_refl _, Nat.le_refl _⟩) (fun _ _ h => by rw [h]; exact Bh_9.2.2) rfl (fun rh_10 αh_10 Hh_10 Lh_10 ph_10 Bh_10 => ?_)
        rw [ph_10] at Bh_10
        refine lv_istore_n (lv' := [(3, .int rh_10), (6, .int 1), (0, .ref a0), (4, .int v4_h_1), (5, .int v5_h_1)]) hx hb dX11_clashingStep_80 rfl hl (by decide) rfl (fun ls hl => hp_n (n := 81) rfl ?_)
        refine lv_aload_n hx hb dX11_clashingStep_81 rfl (lv_at hl 2 rfl) (hp_n (n := 82) rfl ?_)
        refine q_gets (κ := 12) (k := 12) (φ := 612) (pc' := 85) C Bh_10 (cw_k Bh_10.2.2 k0) fl_X11_62 rfl rfl rfl eb_2 dX11_clashingStep_82 rfl ?_
        refine lv_aload_n hx hb dX11_clashingStep_85 rfl (lv_at hl 2 rfl) (hp_n (n := 86) rfl ?_)
        refine q_gets (κ := 12) (k := 1) (φ := 601) (pc' := 89) C Bh_10 (cw_k Bh_10.2.2 k0) fl_X11_16 rfl rfl rfl eb_6 dX11_clashingStep_86 rfl ?_
        refine q_getj (κ := 11) (k := 0) (φ := 550) (pc' := 92) C Bh_10 (cw_k Bh_10.2.2 kb_6) fl_X11_122 rfl rfl rfl ex_7 dX11_clashingStep_89 rfl ?_
        refine lv_iload hx hb dX11_clashingStep_92 (lv_at hl 4 rfl) (hp_n (n := 94) rfl ?_)
        refine lv_iload hx hb dX11_clashingStep_94 (lv_at hl 3 rfl) (hp_n (n := 96) rfl ?_)
        refine lv_aload_n hx hb dX11_clashingStep_96 rfl (lv_at hl 2 rfl) (hp_n (n := 97) rfl ?_)
        refine q_getr (κ := 12) (k := 3) (φ := 603) (pc' := 100) C Bh_10 (cw_k Bh_10.2.2 k0) fl_X11_26 rfl rfl rfl (cw_r Bh_10.2.2 k0 rfl rfl (by decide) (by decide)) dX11_clashingStep_97 rfl (fun b_11 eb_11 kb_11 => ?_)
        refine lv_iload hx hb dX11_clashingStep_100 (lv_at hl 4 rfl) (hp_n (n := 102) rfl ?_)
        refine q_ci (pc' := 105) Bh_10 (hp_runV (As := [.int v5_h_1]) (rest := [.int v4_h_1, .int v5_h_1, .int x_7, .ref b_2]) C Bh_10 (t_X5_at Γ l α Bh_10.2.2.1 b_11 (cw_k Bh_10.2.2 kb_11) v5_h_1) lb_X5_at lv_X5_at lk_X11_135 (cw_k Bh_10.2.2 kb_11) rfl (by decide) rfl hl.1 rfl (Nat.le_of_ble_eq_true rfl) dX11_clashingStep_102 ⟨Nat.le_refl _, Nat.le_refl _⟩) (fun _ _ h => by rw [h]; exact Bh_10.2.2) rfl (fun rh_12 αh_12 Hh_12 Lh_12 ph_12 Bh_12 => ?_)
        rw [ph_12] at Bh_12
        refine q_ci (pc' := 108) Bh_12 (hp_runV (As := [.int x_7, .int v5_h_1, .int v4_h_1, .int rh_12]) (rest := []) C Bh_12 (t_X8_joined Γ l α Bh_12.2.2.1 b_2 (cw_k Bh_12.2.2 kb_2) x_7 v5_h_1 v4_h_1 rh_12) lb_X8_joined lv_X8_joined lk_X11_478 (cw_k Bh_12.2.2 kb_2) rfl (by decide) rfl hl.1 rfl (Nat.le_of_ble_eq_true rfl) dX11_clashingStep_105 ⟨Nat.le_refl _, Nat.le_refl _⟩) (fun _ _ h => by rw [h]; exact Bh_12.2.2) rfl (fun rh_13 αh_13 Hh_13 Lh_13 ph_13 Bh_13 => ?_)
        rw [ph_13] at Bh_13
        refine lv_istore (lv' := [(4, .int rh_13), (3, .int rh_10), (6, .int 1), (0, .ref a0), (5, .int v5_h_1)]) hx hb dX11_clashingStep_108 hl (by decide) rfl (fun ls hl => hp_n (n := 110) rfl ?_)
        refine lv_iload hx hb dX11_clashingStep_110 (lv_at hl 2 rfl) (hp_n (n := 112) rfl ?_)
        refine lv_if_eq (tgt := 124) hx hb dX11_clashingStep_112 (by decide) (fun c_14 => ?_) (fun c_14 => hp_n (n := 115) rfl ?_)
        · exact absurd c_14 (by decide)
        refine lv_iload_n hx hb dX11_clashingStep_115 rfl (lv_at hl 1 rfl) (hp_n (n := 116) rfl ?_)
        refine lv_iload hx hb dX11_clashingStep_116 (lv_at hl 0 rfl) (hp_n (n := 118) rfl ?_)
        refine lv_icmp_ne (tgt := 124) hx hb dX11_clashingStep_118 (by decide) (fun c_15 => ?_) (fun c_15 => hp_n (n := 121) rfl ?_)
        ·
          have jc_15 := il_ne c_15
          obtain ⟨x_16, ex_16⟩ : ∃ y : Int32, y = v5_h_1 + 1 := ⟨_, rfl⟩
          have qx_16 : x_16.toInt = v5_h_1.toInt + 1 := by have q0 := ib_hi x_3; have qa := ib_lo v5_h_1; rw [ex_16]; exact ii_add (by omega) (by omega)
          refine lv_iinc (v := x_16) (lv' := [(5, .int x_16), (4, .int rh_13), (3, .int rh_10), (6, .int 1), (0, .ref a0)]) hx hb dX11_clashingStep_124 hl (k := 4) rfl (by rw [ex_16]; rfl) (by decide) rfl (fun ls hl => hp_n (n := 127) rfl ?_)
          refine lv_goto (tgt := 8) hx hb dX11_clashingStep_127 (by decide) ?_
          exact ih8 _ (by have q0 := ib_hi x_3; have q1 := ib_lo x_3; have qa := ib_hi v5_h_1; have qb := ib_lo v5_h_1; have qc : (v5_h_1 + 1).toInt = v5_h_1.toInt + (1 : Int32).toInt := ii_add (by omega) (by omega); rw [ex_16]; omega) Hh_13 Lh_13 Bh_13 rh_10 rh_13 x_16 (by omega) ls (lv_sub hl [4, 2, 1, 0] rfl) rfl
        ·
          have jc_15 := il_eq c_15
          refine lv_iload hx hb dX11_clashingStep_121 (lv_at hl 4 rfl) (hp_n (n := 123) rfl ?_)
          exact q_iret C Bh_13 hr hlk rfl dX11_clashingStep_123
      refine lv_icmp_ne (tgt := 47) hx hb dX11_clashingStep_23 (by decide) (fun c_17 => ?_) (fun c_17 => hp_n (n := 26) rfl ?_)
      ·
        have jc_17 := il_ne c_17
        exact J47 Hh_1 Lh_1 Bh_1 ls (lv_sub hl [0, 1, 2, 3] rfl)
      ·
        have jc_17 := il_eq c_17
        refine lv_aload_n hx hb dX11_clashingStep_26 rfl (lv_at hl 0 rfl) (hp_n (n := 27) rfl ?_)
        refine q_getr (κ := 12) (k := 14) (φ := 614) (pc' := 30) C Bh_1 (cw_k Bh_1.2.2 k0) fl_X11_69 rfl rfl rfl (cw_r Bh_1.2.2 k0 rfl rfl (by decide) (by decide)) dX11_clashingStep_27 rfl (fun b_18 eb_18 kb_18 => ?_)
        refine lv_iload hx hb dX11_clashingStep_30 (lv_at hl 3 rfl) (hp_n (n := 32) rfl ?_)
        refine q_ci (pc' := 35) Bh_1 (hp_runV (As := [.int v5_h_1]) (rest := []) C Bh_1 (t_X5_at Γ l α Bh_1.2.2.1 b_18 (cw_k Bh_1.2.2 kb_18) v5_h_1) lb_X5_at lv_X5_at lk_X11_135 (cw_k Bh_1.2.2 kb_18) rfl (by decide) rfl hl.1 rfl (Nat.le_of_ble_eq_true rfl) dX11_clashingStep_32 ⟨Nat.le_refl _, Nat.le_refl _⟩) (fun _ _ h => by rw [h]; exact Bh_1.2.2) rfl (fun rh_19 αh_19 Hh_19 Lh_19 ph_19 Bh_19 => ?_)
        rw [ph_19] at Bh_19
        refine lv_aload_n hx hb dX11_clashingStep_35 rfl (lv_at hl 0 rfl) (hp_n (n := 36) rfl ?_)
        refine q_getr (κ := 12) (k := 3) (φ := 603) (pc' := 39) C Bh_19 (cw_k Bh_19.2.2 k0) fl_X11_26 rfl rfl rfl (cw_r Bh_19.2.2 k0 rfl rfl (by decide) (by decide)) dX11_clashingStep_36 rfl (fun b_20 eb_20 kb_20 => ?_)
        refine lv_iload hx hb dX11_clashingStep_39 (lv_at hl 3 rfl) (hp_n (n := 41) rfl ?_)
        refine q_ci (pc' := 44) Bh_19 (hp_runV (As := [.int v5_h_1]) (rest := [.int rh_19]) C Bh_19 (t_X5_at Γ l α Bh_19.2.2.1 b_20 (cw_k Bh_19.2.2 kb_20) v5_h_1) lb_X5_at lv_X5_at lk_X11_135 (cw_k Bh_19.2.2 kb_20) rfl (by decide) rfl hl.1 rfl (Nat.le_of_ble_eq_true rfl) dX11_clashingStep_41 ⟨Nat.le_refl _, Nat.le_refl _⟩) (fun _ _ h => by rw [h]; exact Bh_19.2.2) rfl (fun rh_21 αh_21 Hh_21 Lh_21 ph_21 Bh_21 => ?_)
        rw [ph_21] at Bh_21
        refine lv_icmp_eq (tgt := 51) hx hb dX11_clashingStep_44 (by decide) (fun c_22 => ?_) (fun c_22 => hp_n (n := 47) rfl ?_)
        ·
          have jc_22 := il_eq c_22
          refine lv_iconst (v := 0) hx hb dX11_clashingStep_51 (by decide) (hp_n (n := 52) rfl ?_)
          refine lv_istore (lv' := [(6, .int 0), (0, .ref a0), (3, .int v3_h_1), (4, .int v4_h_1), (5, .int v5_h_1)]) hx hb dX11_clashingStep_52 hl (by decide) rfl (fun ls hl => hp_n (n := 54) rfl ?_)
          refine lv_aload_n hx hb dX11_clashingStep_54 rfl (lv_at hl 1 rfl) (hp_n (n := 55) rfl ?_)
          refine q_gets (κ := 12) (k := 12) (φ := 612) (pc' := 58) C Bh_21 (cw_k Bh_21.2.2 k0) fl_X11_62 rfl rfl rfl eb_2 dX11_clashingStep_55 rfl ?_
          refine lv_aload_n hx hb dX11_clashingStep_58 rfl (lv_at hl 1 rfl) (hp_n (n := 59) rfl ?_)
          refine q_getr (κ := 12) (k := 1) (φ := 601) (pc' := 62) C Bh_21 (cw_k Bh_21.2.2 k0) fl_X11_16 rfl rfl rfl (cw_r Bh_21.2.2 k0 rfl rfl (by decide) (by decide)) dX11_clashingStep_59 rfl (fun b_23 eb_23 kb_23 => ?_)
          refine q_geti (κ := 11) (k := 0) (φ := 550) (pc' := 65) C Bh_21 (cw_k Bh_21.2.2 kb_23) fl_X11_122 rfl rfl rfl dX11_clashingStep_62 rfl (fun x_24 ex_24 => ?_)
          refine lv_iload hx hb dX11_clashingStep_65 (lv_at hl 4 rfl) (hp_n (n := 67) rfl ?_)
          refine lv_iload_n hx hb dX11_clashingStep_67 rfl (lv_at hl 2 rfl) (hp_n (n := 68) rfl ?_)
          refine lv_aload_n hx hb dX11_clashingStep_68 rfl (lv_at hl 1 rfl) (hp_n (n := 69) rfl ?_)
          refine q_gets (κ := 12) (k := 14) (φ := 614) (pc' := 72) C Bh_21 (cw_k Bh_21.2.2 k0) fl_X11_69 rfl rfl rfl eb_18 dX11_clashingStep_69 rfl ?_
          refine lv_iload hx hb dX11_clashingStep_72 (lv_at hl 4 rfl) (hp_n (n := 74) rfl ?_)
          refine q_ci (pc' := 77) Bh_21 (hp_runV (As := [.int v5_h_1]) (rest := [.int v3_h_1, .int v5_h_1, .int x_24, .ref b_2]) C Bh_21 (t_X5_at Γ l α Bh_21.2.2.1 b_18 (cw_k Bh_21.2.2 kb_18) v5_h_1) lb_X5_at lv_X5_at lk_X11_135 (cw_k Bh_21.2.2 kb_18) rfl (by decide) rfl hl.1 rfl (Nat.le_of_ble_eq_true rfl) dX11_clashingStep_74 ⟨Nat.le_refl _, Nat.le_refl _⟩) (fun _ _ h => by rw [h]; exact Bh_21.2.2) rfl (fun rh_25 αh_25 Hh_25 Lh_25 ph_25 Bh_25 => ?_)
          rw [ph_25] at Bh_25
          refine q_ci (pc' := 80) Bh_25 (hp_runV (As := [.int x_24, .int v5_h_1, .int v3_h_1, .int rh_25]) (rest := []) C Bh_25 (t_X8_joined Γ l α Bh_25.2.2.1 b_2 (cw_k Bh_25.2.2 kb_2) x_24 v5_h_1 v3_h_1 rh_25) lb_X8_joined lv_X8_joined lk_X11_478 (cw_k Bh_25.2.2 kb_2) rfl (by decide) rfl hl.1 rfl (Nat.le_of_ble_eq_true rfl) dX11_clashingStep_77 ⟨Nat.le_refl _, Nat.le_refl _⟩) (fun _ _ h => by rw [h]; exact Bh_25.2.2) rfl (fun rh_26 αh_26 Hh_26 Lh_26 ph_26 Bh_26 => ?_)
          rw [ph_26] at Bh_26
          refine lv_istore_n (lv' := [(3, .int rh_26), (6, .int 0), (0, .ref a0), (4, .int v4_h_1), (5, .int v5_h_1)]) hx hb dX11_clashingStep_80 rfl hl (by decide) rfl (fun ls hl => hp_n (n := 81) rfl ?_)
          refine lv_aload_n hx hb dX11_clashingStep_81 rfl (lv_at hl 2 rfl) (hp_n (n := 82) rfl ?_)
          refine q_gets (κ := 12) (k := 12) (φ := 612) (pc' := 85) C Bh_26 (cw_k Bh_26.2.2 k0) fl_X11_62 rfl rfl rfl eb_2 dX11_clashingStep_82 rfl ?_
          refine lv_aload_n hx hb dX11_clashingStep_85 rfl (lv_at hl 2 rfl) (hp_n (n := 86) rfl ?_)
          refine q_gets (κ := 12) (k := 1) (φ := 601) (pc' := 89) C Bh_26 (cw_k Bh_26.2.2 k0) fl_X11_16 rfl rfl rfl eb_23 dX11_clashingStep_86 rfl ?_
          refine q_getj (κ := 11) (k := 0) (φ := 550) (pc' := 92) C Bh_26 (cw_k Bh_26.2.2 kb_23) fl_X11_122 rfl rfl rfl ex_24 dX11_clashingStep_89 rfl ?_
          refine lv_iload hx hb dX11_clashingStep_92 (lv_at hl 4 rfl) (hp_n (n := 94) rfl ?_)
          refine lv_iload hx hb dX11_clashingStep_94 (lv_at hl 3 rfl) (hp_n (n := 96) rfl ?_)
          refine lv_aload_n hx hb dX11_clashingStep_96 rfl (lv_at hl 2 rfl) (hp_n (n := 97) rfl ?_)
          refine q_gets (κ := 12) (k := 3) (φ := 603) (pc' := 100) C Bh_26 (cw_k Bh_26.2.2 k0) fl_X11_26 rfl rfl rfl eb_20 dX11_clashingStep_97 rfl ?_
          refine lv_iload hx hb dX11_clashingStep_100 (lv_at hl 4 rfl) (hp_n (n := 102) rfl ?_)
          refine q_ci (pc' := 105) Bh_26 (hp_runV (As := [.int v5_h_1]) (rest := [.int v4_h_1, .int v5_h_1, .int x_24, .ref b_2]) C Bh_26 (t_X5_at Γ l α Bh_26.2.2.1 b_20 (cw_k Bh_26.2.2 kb_20) v5_h_1) lb_X5_at lv_X5_at lk_X11_135 (cw_k Bh_26.2.2 kb_20) rfl (by decide) rfl hl.1 rfl (Nat.le_of_ble_eq_true rfl) dX11_clashingStep_102 ⟨Nat.le_refl _, Nat.le_refl _⟩) (fun _ _ h => by rw [h]; exact Bh_26.2.2) rfl (fun rh_27 αh_27 Hh_27 Lh_27 ph_27 Bh_27 => ?_)
          rw [ph_27] at Bh_27
          refine q_ci (pc' := 108) Bh_27 (hp_runV (As := [.int x_24, .int v5_h_1, .int v4_h_1, .int rh_27]) (rest := []) C Bh_27 (t_X8_joined Γ l α Bh_27.2.2.1 b_2 (cw_k Bh_27.2.2 kb_2) x_24 v5_h_1 v4_h_1 rh_27) lb_X8_joined lv_X8_joined lk_X11_478 (cw_k Bh_27.2.2 kb_2) rfl (by decide) rfl hl.1 rfl (Nat.le_of_ble_eq_true rfl) dX11_clashingStep_105 ⟨Nat.le_refl _, Nat.le_refl _⟩) (fun _ _ h => by rw [h]; exact Bh_27.2.2) rfl (fun rh_28 αh_28 Hh_28 Lh_28 ph_28 Bh_28 => ?_)
          rw [ph_28] at Bh_28
          refine lv_istore (lv' := [(4, .int rh_28), (3, .int rh_26), (6, .int 0), (0, .ref a0), (5, .int v5_h_1)]) hx hb dX11_clashingStep_108 hl (by decide) rfl (fun ls hl => hp_n (n := 110) rfl ?_)
          refine lv_iload hx hb dX11_clashingStep_110 (lv_at hl 2 rfl) (hp_n (n := 112) rfl ?_)
          refine lv_if_eq (tgt := 124) hx hb dX11_clashingStep_112 (by decide) (fun c_29 => ?_) (fun c_29 => hp_n (n := 115) rfl ?_)
          rotate_left
          · exact absurd c_29 (by decide)
          obtain ⟨x_30, ex_30⟩ : ∃ y : Int32, y = v5_h_1 + 1 := ⟨_, rfl⟩
          have qx_30 : x_30.toInt = v5_h_1.toInt + 1 := by have q0 := ib_hi x_3; have qa := ib_lo v5_h_1; rw [ex_30]; exact ii_add (by omega) (by omega)
          refine lv_iinc (v := x_30) (lv' := [(5, .int x_30), (4, .int rh_28), (3, .int rh_26), (6, .int 0), (0, .ref a0)]) hx hb dX11_clashingStep_124 hl (k := 4) rfl (by rw [ex_30]; rfl) (by decide) rfl (fun ls hl => hp_n (n := 127) rfl ?_)
          refine lv_goto (tgt := 8) hx hb dX11_clashingStep_127 (by decide) ?_
          exact ih8 _ (by have q0 := ib_hi x_3; have q1 := ib_lo x_3; have qa := ib_hi v5_h_1; have qb := ib_lo v5_h_1; have qc : (v5_h_1 + 1).toInt = v5_h_1.toInt + (1 : Int32).toInt := ii_add (by omega) (by omega); rw [ex_30]; omega) Hh_28 Lh_28 Bh_28 rh_26 rh_28 x_30 (by omega) ls (lv_sub hl [4, 2, 1, 0] rfl) rfl
        ·
          have jc_22 := il_ne c_22
          exact J47 Hh_21 Lh_21 Bh_21 ls (lv_sub hl [0, 1, 2, 3] rfl)
  refine lv_istore (lv' := [(5, .int 0), (4, .int a2), (3, .int a1), (0, .ref a0), (1, .int a1), (2, .int a2)]) hx hb dX11_clashingStep_6 hl (by decide) rfl (fun ls hl => hp_n (n := 8) rfl ?_)
  exact J8 _ s.heap [] B a1 a2 0 (by omega) ls (lv_sub hl [3, 2, 1, 0] rfl) rfl
abbrev w_X11_clash : cw_W := ([301, 453, 454, 600], [], [20, 21, 22, 23, 33], [])
abbrev w_X11_trace : cw_W := ([453, 454, 600], [], [21, 22, 23], [])
set_option maxRecDepth 100000 in
set_option maxHeartbeats 4000000 in
theorem t_X11_trace (Γ : hp_G) (l : Launch) (α : hp_T) (g : GC α) (a0 : Nat) (k0 : hp_K α a0 = 12) (a1 : Int32) (a2 : Int32) (a3 : Int32) (a4 : Int32) : Met l yX11_trace (hp_ws yX11_trace cX11_trace 5 (some .int)) (hp_rm 4 0 0) (hp_Pc Γ α [.ref a0, .int a1, .int a2, .int a3, .int a4]) (hp_Qi Γ (fun r β => cw w_X11_trace α β)) 0 0 (hp_A Γ) := by
  refine hp_start (by decide) ?_
  intro p e s m below meth c C hr hlk B0 hnm
  have C : hp_C Γ p m c cX11_trace 5 s ([.ref a0, .int a1, .int a2, .int a3, .int a4] : List Value).toArray RX11 := C
  have hx := C.1.1
  have hb := C.1.2.1
  have hown := C.1.2.2.2.1
  have hts := C.1.2.2.2.2
  have B : hp_B Γ (cw w_X11_trace) s α α s.heap [] := ⟨B0.1, B0.2.1, cw_rf g⟩
  have lit0 : (0 : Int32).toInt = 0 := by decide
  have lit1 : (1 : Int32).toInt = 1 := by decide
  have lit5 : (5 : Int32).toInt = 5 := by decide
  have hl := lv_entry ([.ref a0, .int a1, .int a2, .int a3, .int a4]) (n := 5) (Nat.le_of_ble_eq_true rfl)
  show W p l e (hp_rm 4 0 0) s m ([.ref a0, .int a1, .int a2, .int a3, .int a4] : List Value).toArray below meth c s.heap [] 0 0 (MQ below (hp_Qi Γ (fun r β => cw w_X11_trace α β)) ([.ref a0, .int a1, .int a2, .int a3, .int a4] : List Value).toArray s 0 0 (hp_A Γ)) (entryFrame m ([.ref a0, .int a1, .int a2, .int a3, .int a4] : List Value).toArray 5)
  rw [lg_entry_eq]
  generalize (lg_sl ([.ref a0, .int a1, .int a2, .int a3, .int a4]) ++ List.replicate (5 - (lg_sl ([.ref a0, .int a1, .int a2, .int a3, .int a4])).length) Slot.unset).toArray = ls at hl ⊢
  have hl : lv_has ls 5 [(0, .ref a0), (1, .int a1), (2, .int a2), (3, .int a3), (4, .int a4)] := hl
  refine lv_iload_n hx hb dX11_trace_0 rfl (lv_at hl 2 rfl) (hp_n (n := 1) rfl ?_)
  refine lv_iload_n hx hb dX11_trace_1 rfl (lv_at hl 3 rfl) (hp_n (n := 2) rfl ?_)
  refine q_ci (pc' := 5) B (hp_runS (As := [.int a2, .int a3]) (rest := []) C B (t_X11_isThing Γ l α B.2.2.1 a2 a3) lb_X11_isThing ls_X11_isThing lk_X11_301 rfl (by decide) rfl hl.1 rfl (Nat.le_of_ble_eq_true rfl) dX11_trace_2 ⟨Nat.le_refl _, Nat.le_refl _⟩) (fun _ _ h => by rw [h.1]; exact B.2.2) rfl (fun rh_1 αh_1 Hh_1 Lh_1 ph_1 Bh_1 => ?_)
  rw [ph_1.1] at Bh_1
  have zh_1 := ph_1.2
  have J21 : ∀ (Hh_2 : Heap) (Lh_2 : List Loc) (Bh_2 : hp_B Γ (cw w_X11_trace) s α α Hh_2 Lh_2) (ls : Array Slot) (hl : lv_has ls 5 [(0, .ref a0)]), W p l e (hp_rm 4 0 0) s m ([.ref a0, .int a1, .int a2, .int a3, .int a4] : List Value).toArray below meth c Hh_2 Lh_2 0 0 (MQ below (hp_Qi Γ (fun r β => cw w_X11_trace α β)) ([.ref a0, .int a1, .int a2, .int a3, .int a4] : List Value).toArray s 0 0 (hp_A Γ)) (F0 m 21 ls []) := by
    intro Hh_2 Lh_2 Bh_2 ls hl
    refine lv_aload_n hx hb dX11_trace_21 rfl (lv_at hl 0 rfl) (hp_n (n := 22) rfl ?_)
    refine lv_iconst (v := 1) hx hb dX11_trace_22 (by decide) (hp_n (n := 23) rfl ?_)
    refine q_ci (pc' := 26) Bh_2 (hp_runV (As := [.int 1]) (rest := []) C Bh_2 (t_X11_refuse Γ l α Bh_2.2.2.1 a0 (cw_k Bh_2.2.2 k0) 1) lb_X11_refuse lv_X11_refuse lk_X11_98 (cw_k Bh_2.2.2 k0) rfl (by decide) rfl hl.1 rfl (Nat.le_of_ble_eq_true rfl) dX11_trace_23 ⟨Nat.le_refl _, Nat.le_refl _⟩) (fun _ _ h => cw_tr Bh_2.2.2 h (by decide)) rfl (fun rh_3 αh_3 Hh_3 Lh_3 ph_3 Bh_3 => ?_)
    exact q_iret C Bh_3 hr hlk Bh_3.2.2 dX11_trace_26
  refine lv_if_eq (tgt := 21) hx hb dX11_trace_5 (by decide) (fun c_4 => ?_) (fun c_4 => hp_n (n := 8) rfl ?_)
  ·
    have jc_4 := il_eq c_4
    exact J21 Hh_1 Lh_1 Bh_1 ls (lv_sub hl [0] rfl)
  ·
    have jc_4 := il_ne c_4
    refine lv_iload hx hb dX11_trace_8 (lv_at hl 4 rfl) (hp_n (n := 10) rfl ?_)
    refine lv_if_lt (tgt := 21) hx hb dX11_trace_10 (by decide) (fun c_5 => ?_) (fun c_5 => hp_n (n := 13) rfl ?_)
    ·
      have jc_5 := il_lt c_5
      exact J21 Hh_1 Lh_1 Bh_1 ls (lv_sub hl [0] rfl)
    ·
      have jc_5 := il_nlt c_5
      refine lv_aload_n hx hb dX11_trace_13 rfl (lv_at hl 0 rfl) (hp_n (n := 14) rfl ?_)
      refine lv_iload_n hx hb dX11_trace_14 rfl (lv_at hl 1 rfl) (hp_n (n := 15) rfl ?_)
      refine q_ci (pc' := 18) Bh_1 (hp_runV (As := [.int a1]) (rest := []) C Bh_1 (t_X11_isMark Γ l α Bh_1.2.2.1 a0 (cw_k Bh_1.2.2 k0) a1) lb_X11_isMark lv_X11_isMark lk_X11_188 (cw_k Bh_1.2.2 k0) rfl (by decide) rfl hl.1 rfl (Nat.le_of_ble_eq_true rfl) dX11_trace_15 ⟨Nat.le_refl _, Nat.le_refl _⟩) (fun _ _ h => by rw [h.1]; exact Bh_1.2.2) rfl (fun rh_6 αh_6 Hh_6 Lh_6 ph_6 Bh_6 => ?_)
      rw [ph_6.1] at Bh_6
      have zh_6 := ph_6.2
      refine lv_if_ne (tgt := 27) hx hb dX11_trace_18 (by decide) (fun c_7 => ?_) (fun c_7 => hp_n (n := 21) rfl ?_)
      ·
        have jc_7 := il_ne c_7
        refine lv_aload_n hx hb dX11_trace_27 rfl (lv_at hl 0 rfl) (hp_n (n := 28) rfl ?_)
        refine q_getr (κ := 12) (k := 12) (φ := 612) (pc' := 31) C Bh_6 (cw_k Bh_6.2.2 k0) fl_X11_62 rfl rfl rfl (cw_r Bh_6.2.2 k0 rfl rfl (by decide) (by decide)) dX11_trace_28 rfl (fun b_8 eb_8 kb_8 => ?_)
        refine lv_iload_n hx hb dX11_trace_31 rfl (lv_at hl 2 rfl) (hp_n (n := 32) rfl ?_)
        refine lv_iload_n hx hb dX11_trace_32 rfl (lv_at hl 3 rfl) (hp_n (n := 33) rfl ?_)
        refine q_cv (pc' := 36) Bh_6 (hp_runV (As := [.int a2, .int a3]) (rest := []) C Bh_6 (t_X8_toThing Γ l α Bh_6.2.2.1 b_8 (cw_k Bh_6.2.2 kb_8) a2 a3) lb_X8_toThing lv_X8_toThing lk_X11_267 (cw_k Bh_6.2.2 kb_8) rfl (by decide) rfl hl.1 rfl (Nat.le_of_ble_eq_true rfl) dX11_trace_33 ⟨Nat.le_refl _, Nat.le_refl _⟩) (fun _ h => cw_tr Bh_6.2.2 h (by decide)) rfl (fun αh_9 Hh_9 Lh_9 ph_9 Bh_9 => ?_)
        refine lv_iload hx hb dX11_trace_36 (lv_at hl 4 rfl) (hp_n (n := 38) rfl ?_)
        refine lv_aload_n hx hb dX11_trace_38 rfl (lv_at hl 0 rfl) (hp_n (n := 39) rfl ?_)
        have t_10 : b_8 = hp_R αh_9 612 a0 := by rw [cw_R ph_9 a0 (by decide)]; exact eb_8
        refine q_gets (κ := 12) (k := 12) (φ := 612) (pc' := 42) C Bh_9 (cw_k Bh_9.2.2 k0) fl_X11_62 rfl rfl rfl t_10 dX11_trace_39 rfl ?_
        refine q_geti (κ := 9) (k := 3) (φ := 453) (pc' := 45) C Bh_9 (cw_k Bh_9.2.2 kb_8) fl_X11_312 rfl rfl rfl dX11_trace_42 rfl (fun x_11 ex_11 => ?_)
        obtain ⟨gx_11a, gx_11b⟩ : 0 ≤ x_11.toInt ∧ x_11.toInt ≤ 64 := by rw [ex_11]; exact Bh_9.2.2.1.1 453 b_8 rfl
        have J60 : ∀ (Hh_12 : Heap) (Lh_12 : List Loc) (Bh_12 : hp_B Γ (cw w_X11_trace) s α αh_9 Hh_12 Lh_12) (ls : Array Slot) (hl : lv_has ls 5 [(0, .ref a0)]), W p l e (hp_rm 4 0 0) s m ([.ref a0, .int a1, .int a2, .int a3, .int a4] : List Value).toArray below meth c Hh_12 Lh_12 0 0 (MQ below (hp_Qi Γ (fun r β => cw w_X11_trace α β)) ([.ref a0, .int a1, .int a2, .int a3, .int a4] : List Value).toArray s 0 0 (hp_A Γ)) (F0 m 60 ls []) := by
          intro Hh_12 Lh_12 Bh_12 ls hl
          refine lv_aload_n hx hb dX11_trace_60 rfl (lv_at hl 0 rfl) (hp_n (n := 61) rfl ?_)
          refine lv_iconst (v := 5) hx hb dX11_trace_61 (by decide) (hp_n (n := 62) rfl ?_)
          refine q_ci (pc' := 65) Bh_12 (hp_runV (As := [.int 5]) (rest := []) C Bh_12 (t_X11_refuse Γ l αh_9 Bh_12.2.2.1 a0 (cw_k Bh_12.2.2 k0) 5) lb_X11_refuse lv_X11_refuse lk_X11_98 (cw_k Bh_12.2.2 k0) rfl (by decide) rfl hl.1 rfl (Nat.le_of_ble_eq_true rfl) dX11_trace_62 ⟨Nat.le_refl _, Nat.le_refl _⟩) (fun _ _ h => cw_tr Bh_12.2.2 h (by decide)) rfl (fun rh_13 αh_13 Hh_13 Lh_13 ph_13 Bh_13 => ?_)
          exact q_iret C Bh_13 hr hlk Bh_13.2.2 dX11_trace_65
        refine lv_icmp_gt (tgt := 60) hx hb dX11_trace_45 (by decide) (fun c_14 => ?_) (fun c_14 => hp_n (n := 48) rfl ?_)
        ·
          have jc_14 := il_lt c_14
          exact J60 Hh_9 Lh_9 Bh_9 ls (lv_sub hl [0] rfl)
        ·
          have jc_14 := il_nlt c_14
          refine lv_iload hx hb dX11_trace_48 (lv_at hl 4 rfl) (hp_n (n := 50) rfl ?_)
          refine lv_aload_n hx hb dX11_trace_50 rfl (lv_at hl 0 rfl) (hp_n (n := 51) rfl ?_)
          refine q_getr (κ := 12) (k := 3) (φ := 603) (pc' := 54) C Bh_9 (cw_k Bh_9.2.2 k0) fl_X11_26 rfl rfl rfl (cw_r Bh_9.2.2 k0 rfl rfl (by decide) (by decide)) dX11_trace_51 rfl (fun b_15 eb_15 kb_15 => ?_)
          refine q_geti (κ := 6) (k := 1) (φ := 301) (pc' := 57) C Bh_9 (cw_k Bh_9.2.2 kb_15) fl_X11_132 rfl rfl rfl dX11_trace_54 rfl (fun x_16 ex_16 => ?_)
          refine lv_icmp_le (tgt := 66) hx hb dX11_trace_57 (by decide) (fun c_17 => ?_) (fun c_17 => hp_n (n := 60) rfl ?_)
          ·
            have jc_17 := il_le c_17
            refine lv_aload_n hx hb dX11_trace_66 rfl (lv_at hl 0 rfl) (hp_n (n := 67) rfl ?_)
            refine lv_aload_n hx hb dX11_trace_67 rfl (lv_at hl 0 rfl) (hp_n (n := 68) rfl ?_)
            refine q_gets (κ := 12) (k := 12) (φ := 612) (pc' := 71) C Bh_9 (cw_k Bh_9.2.2 k0) fl_X11_62 rfl rfl rfl t_10 dX11_trace_68 rfl ?_
            refine lv_aload_n hx hb dX11_trace_71 rfl (lv_at hl 0 rfl) (hp_n (n := 72) rfl ?_)
            refine q_getr (κ := 12) (k := 1) (φ := 601) (pc' := 75) C Bh_9 (cw_k Bh_9.2.2 k0) fl_X11_16 rfl rfl rfl (cw_r Bh_9.2.2 k0 rfl rfl (by decide) (by decide)) dX11_trace_72 rfl (fun b_18 eb_18 kb_18 => ?_)
            refine q_geti (κ := 11) (k := 0) (φ := 550) (pc' := 78) C Bh_9 (cw_k Bh_9.2.2 kb_18) fl_X11_122 rfl rfl rfl dX11_trace_75 rfl (fun x_19 ex_19 => ?_)
            refine lv_aload_n hx hb dX11_trace_78 rfl (lv_at hl 0 rfl) (hp_n (n := 79) rfl ?_)
            refine q_gets (κ := 12) (k := 3) (φ := 603) (pc' := 82) C Bh_9 (cw_k Bh_9.2.2 k0) fl_X11_26 rfl rfl rfl eb_15 dX11_trace_79 rfl ?_
            refine lv_iload_n hx hb dX11_trace_82 rfl (lv_at hl 1 rfl) (hp_n (n := 83) rfl ?_)
            refine lv_iload hx hb dX11_trace_83 (lv_at hl 4 rfl) (hp_n (n := 85) rfl ?_)
            refine q_ci (pc' := 88) Bh_9 (hp_runV (As := [.int x_19, .ref b_15, .int a1, .int a4]) (rest := [.ref a0]) C Bh_9 (t_X8_folded Γ l αh_9 Bh_9.2.2.1 b_8 (cw_k Bh_9.2.2 kb_8) x_19 b_15 (cw_k Bh_9.2.2 kb_15) a1 a4) lb_X8_folded lv_X8_folded lk_X11_382 (cw_k Bh_9.2.2 kb_8) rfl (by decide) rfl hl.1 rfl (Nat.le_of_ble_eq_true rfl) dX11_trace_85 ⟨Nat.le_refl _, Nat.le_refl _⟩) (fun _ _ h => by rw [h]; exact Bh_9.2.2) rfl (fun rh_20 αh_20 Hh_20 Lh_20 ph_20 Bh_20 => ?_)
            rw [ph_20] at Bh_20
            refine q_ci (pc' := 91) Bh_20 (hp_runV (As := [.int rh_20]) (rest := []) C Bh_20 (t_X11_answer Γ l αh_9 Bh_20.2.2.1 a0 (cw_k Bh_20.2.2 k0) rh_20) lb_X11_answer lv_X11_answer lk_X11_115 (cw_k Bh_20.2.2 k0) rfl (by decide) rfl hl.1 rfl (Nat.le_of_ble_eq_true rfl) dX11_trace_88 ⟨Nat.le_refl _, Nat.le_refl _⟩) (fun _ _ h => cw_tr Bh_20.2.2 h (by decide)) rfl (fun rh_21 αh_21 Hh_21 Lh_21 ph_21 Bh_21 => ?_)
            exact q_iret C Bh_21 hr hlk Bh_21.2.2 dX11_trace_91
          ·
            have jc_17 := il_nle c_17
            exact J60 Hh_9 Lh_9 Bh_9 ls (lv_sub hl [0] rfl)
      ·
        have jc_7 := il_eq c_7
        exact J21 Hh_6 Lh_6 Bh_6 ls (lv_sub hl [0] rfl)
abbrev w_X11_treeOfWay : cw_W := ([600], [], [], [])
set_option maxRecDepth 100000 in
set_option maxHeartbeats 4000000 in
theorem t_X11_treeOfWay (Γ : hp_G) (l : Launch) (α : hp_T) (g : GC α) (a0 : Nat) (k0 : hp_K α a0 = 12) (a1 : Int32) (a2 : Int32) : Met l yX11_treeOfWay (hp_ws yX11_treeOfWay cX11_treeOfWay 3 (some .int)) (hp_rm 1 0 0) (hp_Pc Γ α [.ref a0, .int a1, .int a2]) (hp_Qi Γ (fun r β => cw w_X11_treeOfWay α β)) 0 0 (hp_A Γ) := by
  refine hp_start (by decide) ?_
  intro p e s m below meth c C hr hlk B0 hnm
  have C : hp_C Γ p m c cX11_treeOfWay 3 s ([.ref a0, .int a1, .int a2] : List Value).toArray RX11 := C
  have hx := C.1.1
  have hb := C.1.2.1
  have hown := C.1.2.2.2.1
  have hts := C.1.2.2.2.2
  have B : hp_B Γ (cw w_X11_treeOfWay) s α α s.heap [] := ⟨B0.1, B0.2.1, cw_rf g⟩
  have lit0 : (0 : Int32).toInt = 0 := by decide
  have lit5 : (5 : Int32).toInt = 5 := by decide
  have hl := lv_entry ([.ref a0, .int a1, .int a2]) (n := 3) (Nat.le_of_ble_eq_true rfl)
  show W p l e (hp_rm 1 0 0) s m ([.ref a0, .int a1, .int a2] : List Value).toArray below meth c s.heap [] 0 0 (MQ below (hp_Qi Γ (fun r β => cw w_X11_treeOfWay α β)) ([.ref a0, .int a1, .int a2] : List Value).toArray s 0 0 (hp_A Γ)) (entryFrame m ([.ref a0, .int a1, .int a2] : List Value).toArray 3)
  rw [lg_entry_eq]
  generalize (lg_sl ([.ref a0, .int a1, .int a2]) ++ List.replicate (3 - (lg_sl ([.ref a0, .int a1, .int a2])).length) Slot.unset).toArray = ls at hl ⊢
  have hl : lv_has ls 3 [(0, .ref a0), (1, .int a1), (2, .int a2)] := hl
  refine lv_iload_n hx hb dX11_treeOfWay_0 rfl (lv_at hl 1 rfl) (hp_n (n := 1) rfl ?_)
  refine lv_aload_n hx hb dX11_treeOfWay_1 rfl (lv_at hl 0 rfl) (hp_n (n := 2) rfl ?_)
  refine q_getr (κ := 12) (k := 12) (φ := 612) (pc' := 5) C B (cw_k B.2.2 k0) fl_X11_62 rfl rfl rfl (cw_r B.2.2 k0 rfl rfl (by decide) (by decide)) dX11_treeOfWay_2 rfl (fun b_1 eb_1 kb_1 => ?_)
  refine q_geti (κ := 9) (k := 3) (φ := 453) (pc' := 8) C B (cw_k B.2.2 kb_1) fl_X11_312 rfl rfl rfl dX11_treeOfWay_5 rfl (fun x_2 ex_2 => ?_)
  obtain ⟨gx_2a, gx_2b⟩ : 0 ≤ x_2.toInt ∧ x_2.toInt ≤ 64 := by rw [ex_2]; exact B.2.2.1.1 453 b_1 rfl
  refine lv_icmp_lt (tgt := 17) hx hb dX11_treeOfWay_8 (by decide) (fun c_3 => ?_) (fun c_3 => hp_n (n := 11) rfl ?_)
  ·
    have jc_3 := il_lt c_3
    refine lv_aload_n hx hb dX11_treeOfWay_17 rfl (lv_at hl 0 rfl) (hp_n (n := 18) rfl ?_)
    refine lv_iload_n hx hb dX11_treeOfWay_18 rfl (lv_at hl 2 rfl) (hp_n (n := 19) rfl ?_)
    refine lv_if_ne (tgt := 33) hx hb dX11_treeOfWay_19 (by decide) (fun c_4 => ?_) (fun c_4 => hp_n (n := 22) rfl ?_)
    ·
      have jc_4 := il_ne c_4
      refine lv_aload_n hx hb dX11_treeOfWay_33 rfl (lv_at hl 0 rfl) (hp_n (n := 34) rfl ?_)
      refine q_gets (κ := 12) (k := 12) (φ := 612) (pc' := 37) C B (cw_k B.2.2 k0) fl_X11_62 rfl rfl rfl eb_1 dX11_treeOfWay_34 rfl ?_
      refine lv_iload_n hx hb dX11_treeOfWay_37 rfl (lv_at hl 1 rfl) (hp_n (n := 38) rfl ?_)
      refine q_ci (pc' := 41) B (hp_runV (As := [.int a1]) (rest := [.ref a0]) C B (t_X8_manyAt Γ l α B.2.2.1 b_1 (cw_k B.2.2 kb_1) a1) lb_X8_manyAt lv_X8_manyAt lk_X11_336 (cw_k B.2.2 kb_1) rfl (by decide) rfl hl.1 rfl (Nat.le_of_ble_eq_true rfl) dX11_treeOfWay_38 ⟨Nat.le_refl _, Nat.le_refl _⟩) (fun _ _ h => by rw [h]; exact B.2.2) rfl (fun rh_5 αh_5 Hh_5 Lh_5 ph_5 Bh_5 => ?_)
      rw [ph_5] at Bh_5
      refine q_ci (pc' := 44) Bh_5 (hp_runV (As := [.int rh_5]) (rest := []) C Bh_5 (t_X11_answer Γ l α Bh_5.2.2.1 a0 (cw_k Bh_5.2.2 k0) rh_5) lb_X11_answer lv_X11_answer lk_X11_115 (cw_k Bh_5.2.2 k0) rfl (by decide) rfl hl.1 rfl (Nat.le_of_ble_eq_true rfl) dX11_treeOfWay_41 ⟨Nat.le_refl _, Nat.le_refl _⟩) (fun _ _ h => cw_tr Bh_5.2.2 h (by decide)) rfl (fun rh_6 αh_6 Hh_6 Lh_6 ph_6 Bh_6 => ?_)
      exact q_iret C Bh_6 hr hlk Bh_6.2.2 dX11_treeOfWay_44
    ·
      have jc_4 := il_eq c_4
      refine lv_aload_n hx hb dX11_treeOfWay_22 rfl (lv_at hl 0 rfl) (hp_n (n := 23) rfl ?_)
      refine q_gets (κ := 12) (k := 12) (φ := 612) (pc' := 26) C B (cw_k B.2.2 k0) fl_X11_62 rfl rfl rfl eb_1 dX11_treeOfWay_23 rfl ?_
      refine lv_iload_n hx hb dX11_treeOfWay_26 rfl (lv_at hl 1 rfl) (hp_n (n := 27) rfl ?_)
      refine q_ci (pc' := 30) B (hp_runV (As := [.int a1]) (rest := [.ref a0]) C B (t_X8_firstAt Γ l α B.2.2.1 b_1 (cw_k B.2.2 kb_1) a1) lb_X8_firstAt lv_X8_firstAt lk_X11_333 (cw_k B.2.2 kb_1) rfl (by decide) rfl hl.1 rfl (Nat.le_of_ble_eq_true rfl) dX11_treeOfWay_27 ⟨Nat.le_refl _, Nat.le_refl _⟩) (fun _ _ h => by rw [h]; exact B.2.2) rfl (fun rh_7 αh_7 Hh_7 Lh_7 ph_7 Bh_7 => ?_)
      rw [ph_7] at Bh_7
      refine lv_goto (tgt := 41) hx hb dX11_treeOfWay_30 (by decide) ?_
      refine q_ci (pc' := 44) Bh_7 (hp_runV (As := [.int rh_7]) (rest := []) C Bh_7 (t_X11_answer Γ l α Bh_7.2.2.1 a0 (cw_k Bh_7.2.2 k0) rh_7) lb_X11_answer lv_X11_answer lk_X11_115 (cw_k Bh_7.2.2 k0) rfl (by decide) rfl hl.1 rfl (Nat.le_of_ble_eq_true rfl) dX11_treeOfWay_41 ⟨Nat.le_refl _, Nat.le_refl _⟩) (fun _ _ h => cw_tr Bh_7.2.2 h (by decide)) rfl (fun rh_8 αh_8 Hh_8 Lh_8 ph_8 Bh_8 => ?_)
      exact q_iret C Bh_8 hr hlk Bh_8.2.2 dX11_treeOfWay_44
  ·
    have jc_3 := il_nlt c_3
    refine lv_aload_n hx hb dX11_treeOfWay_11 rfl (lv_at hl 0 rfl) (hp_n (n := 12) rfl ?_)
    refine lv_iconst (v := 5) hx hb dX11_treeOfWay_12 (by decide) (hp_n (n := 13) rfl ?_)
    refine q_ci (pc' := 16) B (hp_runV (As := [.int 5]) (rest := []) C B (t_X11_refuse Γ l α B.2.2.1 a0 (cw_k B.2.2 k0) 5) lb_X11_refuse lv_X11_refuse lk_X11_98 (cw_k B.2.2 k0) rfl (by decide) rfl hl.1 rfl (Nat.le_of_ble_eq_true rfl) dX11_treeOfWay_13 ⟨Nat.le_refl _, Nat.le_refl _⟩) (fun _ _ h => cw_tr B.2.2 h (by decide)) rfl (fun rh_9 αh_9 Hh_9 Lh_9 ph_9 Bh_9 => ?_)
    exact q_iret C Bh_9 hr hlk Bh_9.2.2 dX11_treeOfWay_16
abbrev w_X11_span : cw_W := ([453, 454, 600], [], [21, 22, 23], [])
set_option maxRecDepth 100000 in
set_option maxHeartbeats 4000000 in
theorem t_X11_span (Γ : hp_G) (l : Launch) (α : hp_T) (g : GC α) (a0 : Nat) (k0 : hp_K α a0 = 12) (a1 : Int32) (a2 : Int32) (a3 : Int32) (a4 : Int32) : Met l yX11_span (hp_ws yX11_span cX11_span 5 (some .int)) (hp_rm 4 0 0) (hp_Pc Γ α [.ref a0, .int a1, .int a2, .int a3, .int a4]) (hp_Qi Γ (fun r β => cw w_X11_span α β)) 0 0 (hp_A Γ) := by
  refine hp_start (by decide) ?_
  intro p e s m below meth c C hr hlk B0 hnm
  have C : hp_C Γ p m c cX11_span 5 s ([.ref a0, .int a1, .int a2, .int a3, .int a4] : List Value).toArray RX11 := C
  have hx := C.1.1
  have hb := C.1.2.1
  have hown := C.1.2.2.2.1
  have hts := C.1.2.2.2.2
  have B : hp_B Γ (cw w_X11_span) s α α s.heap [] := ⟨B0.1, B0.2.1, cw_rf g⟩
  have lit0 : (0 : Int32).toInt = 0 := by decide
  have lit1 : (1 : Int32).toInt = 1 := by decide
  have hl := lv_entry ([.ref a0, .int a1, .int a2, .int a3, .int a4]) (n := 5) (Nat.le_of_ble_eq_true rfl)
  show W p l e (hp_rm 4 0 0) s m ([.ref a0, .int a1, .int a2, .int a3, .int a4] : List Value).toArray below meth c s.heap [] 0 0 (MQ below (hp_Qi Γ (fun r β => cw w_X11_span α β)) ([.ref a0, .int a1, .int a2, .int a3, .int a4] : List Value).toArray s 0 0 (hp_A Γ)) (entryFrame m ([.ref a0, .int a1, .int a2, .int a3, .int a4] : List Value).toArray 5)
  rw [lg_entry_eq]
  generalize (lg_sl ([.ref a0, .int a1, .int a2, .int a3, .int a4]) ++ List.replicate (5 - (lg_sl ([.ref a0, .int a1, .int a2, .int a3, .int a4])).length) Slot.unset).toArray = ls at hl ⊢
  have hl : lv_has ls 5 [(0, .ref a0), (1, .int a1), (2, .int a2), (3, .int a3), (4, .int a4)] := hl
  refine lv_iload_n hx hb dX11_span_0 rfl (lv_at hl 1 rfl) (hp_n (n := 1) rfl ?_)
  refine lv_iload_n hx hb dX11_span_1 rfl (lv_at hl 2 rfl) (hp_n (n := 2) rfl ?_)
  refine q_ci (pc' := 5) B (hp_runS (As := [.int a1, .int a2]) (rest := []) C B (t_X11_isThing Γ l α B.2.2.1 a1 a2) lb_X11_isThing ls_X11_isThing lk_X11_301 rfl (by decide) rfl hl.1 rfl (Nat.le_of_ble_eq_true rfl) dX11_span_2 ⟨Nat.le_refl _, Nat.le_refl _⟩) (fun _ _ h => by rw [h.1]; exact B.2.2) rfl (fun rh_1 αh_1 Hh_1 Lh_1 ph_1 Bh_1 => ?_)
  rw [ph_1.1] at Bh_1
  have zh_1 := ph_1.2
  have J23 : ∀ (Hh_2 : Heap) (Lh_2 : List Loc) (Bh_2 : hp_B Γ (cw w_X11_span) s α α Hh_2 Lh_2) (ls : Array Slot) (hl : lv_has ls 5 [(0, .ref a0)]), W p l e (hp_rm 4 0 0) s m ([.ref a0, .int a1, .int a2, .int a3, .int a4] : List Value).toArray below meth c Hh_2 Lh_2 0 0 (MQ below (hp_Qi Γ (fun r β => cw w_X11_span α β)) ([.ref a0, .int a1, .int a2, .int a3, .int a4] : List Value).toArray s 0 0 (hp_A Γ)) (F0 m 23 ls []) := by
    intro Hh_2 Lh_2 Bh_2 ls hl
    refine lv_aload_n hx hb dX11_span_23 rfl (lv_at hl 0 rfl) (hp_n (n := 24) rfl ?_)
    refine lv_iconst (v := 1) hx hb dX11_span_24 (by decide) (hp_n (n := 25) rfl ?_)
    refine q_ci (pc' := 28) Bh_2 (hp_runV (As := [.int 1]) (rest := []) C Bh_2 (t_X11_refuse Γ l α Bh_2.2.2.1 a0 (cw_k Bh_2.2.2 k0) 1) lb_X11_refuse lv_X11_refuse lk_X11_98 (cw_k Bh_2.2.2 k0) rfl (by decide) rfl hl.1 rfl (Nat.le_of_ble_eq_true rfl) dX11_span_25 ⟨Nat.le_refl _, Nat.le_refl _⟩) (fun _ _ h => cw_tr Bh_2.2.2 h (by decide)) rfl (fun rh_3 αh_3 Hh_3 Lh_3 ph_3 Bh_3 => ?_)
    exact q_iret C Bh_3 hr hlk Bh_3.2.2 dX11_span_28
  refine lv_if_eq (tgt := 23) hx hb dX11_span_5 (by decide) (fun c_4 => ?_) (fun c_4 => hp_n (n := 8) rfl ?_)
  ·
    have jc_4 := il_eq c_4
    exact J23 Hh_1 Lh_1 Bh_1 ls (lv_sub hl [0] rfl)
  ·
    have jc_4 := il_ne c_4
    refine lv_iload_n hx hb dX11_span_8 rfl (lv_at hl 3 rfl) (hp_n (n := 9) rfl ?_)
    refine lv_if_lt (tgt := 23) hx hb dX11_span_9 (by decide) (fun c_5 => ?_) (fun c_5 => hp_n (n := 12) rfl ?_)
    ·
      have jc_5 := il_lt c_5
      exact J23 Hh_1 Lh_1 Bh_1 ls (lv_sub hl [0] rfl)
    ·
      have jc_5 := il_nlt c_5
      refine lv_iload hx hb dX11_span_12 (lv_at hl 4 rfl) (hp_n (n := 14) rfl ?_)
      refine lv_if_lt (tgt := 23) hx hb dX11_span_14 (by decide) (fun c_6 => ?_) (fun c_6 => hp_n (n := 17) rfl ?_)
      ·
        have jc_6 := il_lt c_6
        exact J23 Hh_1 Lh_1 Bh_1 ls (lv_sub hl [0] rfl)
      ·
        have jc_6 := il_nlt c_6
        refine lv_iload hx hb dX11_span_17 (lv_at hl 4 rfl) (hp_n (n := 19) rfl ?_)
        refine lv_iconst (v := 1) hx hb dX11_span_19 (by decide) (hp_n (n := 20) rfl ?_)
        refine lv_icmp_le (tgt := 29) hx hb dX11_span_20 (by decide) (fun c_7 => ?_) (fun c_7 => hp_n (n := 23) rfl ?_)
        ·
          have jc_7 := il_le c_7
          refine lv_aload_n hx hb dX11_span_29 rfl (lv_at hl 0 rfl) (hp_n (n := 30) rfl ?_)
          refine q_getr (κ := 12) (k := 12) (φ := 612) (pc' := 33) C Bh_1 (cw_k Bh_1.2.2 k0) fl_X11_62 rfl rfl rfl (cw_r Bh_1.2.2 k0 rfl rfl (by decide) (by decide)) dX11_span_30 rfl (fun b_8 eb_8 kb_8 => ?_)
          refine lv_iload_n hx hb dX11_span_33 rfl (lv_at hl 1 rfl) (hp_n (n := 34) rfl ?_)
          refine lv_iload_n hx hb dX11_span_34 rfl (lv_at hl 2 rfl) (hp_n (n := 35) rfl ?_)
          refine q_cv (pc' := 38) Bh_1 (hp_runV (As := [.int a1, .int a2]) (rest := []) C Bh_1 (t_X8_toThing Γ l α Bh_1.2.2.1 b_8 (cw_k Bh_1.2.2 kb_8) a1 a2) lb_X8_toThing lv_X8_toThing lk_X11_267 (cw_k Bh_1.2.2 kb_8) rfl (by decide) rfl hl.1 rfl (Nat.le_of_ble_eq_true rfl) dX11_span_35 ⟨Nat.le_refl _, Nat.le_refl _⟩) (fun _ h => cw_tr Bh_1.2.2 h (by decide)) rfl (fun αh_9 Hh_9 Lh_9 ph_9 Bh_9 => ?_)
          refine lv_aload_n hx hb dX11_span_38 rfl (lv_at hl 0 rfl) (hp_n (n := 39) rfl ?_)
          refine lv_iload_n hx hb dX11_span_39 rfl (lv_at hl 3 rfl) (hp_n (n := 40) rfl ?_)
          refine lv_iload hx hb dX11_span_40 (lv_at hl 4 rfl) (hp_n (n := 42) rfl ?_)
          refine q_ci (pc' := 45) Bh_9 (hp_runV (As := [.int a3, .int a4]) (rest := []) C Bh_9 (t_X11_treeOfWay Γ l αh_9 Bh_9.2.2.1 a0 (cw_k Bh_9.2.2 k0) a3 a4) lb_X11_treeOfWay lv_X11_treeOfWay lk_X11_392 (cw_k Bh_9.2.2 k0) rfl (by decide) rfl hl.1 rfl (Nat.le_of_ble_eq_true rfl) dX11_span_42 ⟨Nat.le_refl _, Nat.le_refl _⟩) (fun _ _ h => cw_tr Bh_9.2.2 h (by decide)) rfl (fun rh_10 αh_10 Hh_10 Lh_10 ph_10 Bh_10 => ?_)
          exact q_iret C Bh_10 hr hlk Bh_10.2.2 dX11_span_45
        ·
          have jc_7 := il_nle c_7
          exact J23 Hh_1 Lh_1 Bh_1 ls (lv_sub hl [0] rfl)
abbrev w_X11_rise : cw_W := ([453, 454, 600], [], [21, 22, 23], [])
set_option maxRecDepth 100000 in
set_option maxHeartbeats 4000000 in
theorem t_X11_rise (Γ : hp_G) (l : Launch) (α : hp_T) (g : GC α) (a0 : Nat) (k0 : hp_K α a0 = 12) (a1 : Int32) (a2 : Int32) (a3 : Int32) (a4 : Int32) : Met l yX11_rise (hp_ws yX11_rise cX11_rise 5 (some .int)) (hp_rm 4 0 0) (hp_Pc Γ α [.ref a0, .int a1, .int a2, .int a3, .int a4]) (hp_Qi Γ (fun r β => cw w_X11_rise α β)) 0 0 (hp_A Γ) := by
  refine hp_start (by decide) ?_
  intro p e s m below meth c C hr hlk B0 hnm
  have C : hp_C Γ p m c cX11_rise 5 s ([.ref a0, .int a1, .int a2, .int a3, .int a4] : List Value).toArray RX11 := C
  have hx := C.1.1
  have hb := C.1.2.1
  have hown := C.1.2.2.2.1
  have hts := C.1.2.2.2.2
  have B : hp_B Γ (cw w_X11_rise) s α α s.heap [] := ⟨B0.1, B0.2.1, cw_rf g⟩
  have lit0 : (0 : Int32).toInt = 0 := by decide
  have lit1 : (1 : Int32).toInt = 1 := by decide
  have hl := lv_entry ([.ref a0, .int a1, .int a2, .int a3, .int a4]) (n := 5) (Nat.le_of_ble_eq_true rfl)
  show W p l e (hp_rm 4 0 0) s m ([.ref a0, .int a1, .int a2, .int a3, .int a4] : List Value).toArray below meth c s.heap [] 0 0 (MQ below (hp_Qi Γ (fun r β => cw w_X11_rise α β)) ([.ref a0, .int a1, .int a2, .int a3, .int a4] : List Value).toArray s 0 0 (hp_A Γ)) (entryFrame m ([.ref a0, .int a1, .int a2, .int a3, .int a4] : List Value).toArray 5)
  rw [lg_entry_eq]
  generalize (lg_sl ([.ref a0, .int a1, .int a2, .int a3, .int a4]) ++ List.replicate (5 - (lg_sl ([.ref a0, .int a1, .int a2, .int a3, .int a4])).length) Slot.unset).toArray = ls at hl ⊢
  have hl : lv_has ls 5 [(0, .ref a0), (1, .int a1), (2, .int a2), (3, .int a3), (4, .int a4)] := hl
  refine lv_iload_n hx hb dX11_rise_0 rfl (lv_at hl 1 rfl) (hp_n (n := 1) rfl ?_)
  have J24 : ∀ (Hh_1 : Heap) (Lh_1 : List Loc) (Bh_1 : hp_B Γ (cw w_X11_rise) s α α Hh_1 Lh_1) (ls : Array Slot) (hl : lv_has ls 5 [(0, .ref a0)]), W p l e (hp_rm 4 0 0) s m ([.ref a0, .int a1, .int a2, .int a3, .int a4] : List Value).toArray below meth c Hh_1 Lh_1 0 0 (MQ below (hp_Qi Γ (fun r β => cw w_X11_rise α β)) ([.ref a0, .int a1, .int a2, .int a3, .int a4] : List Value).toArray s 0 0 (hp_A Γ)) (F0 m 24 ls []) := by
    intro Hh_1 Lh_1 Bh_1 ls hl
    refine lv_aload_n hx hb dX11_rise_24 rfl (lv_at hl 0 rfl) (hp_n (n := 25) rfl ?_)
    refine lv_iconst (v := 1) hx hb dX11_rise_25 (by decide) (hp_n (n := 26) rfl ?_)
    refine q_ci (pc' := 29) Bh_1 (hp_runV (As := [.int 1]) (rest := []) C Bh_1 (t_X11_refuse Γ l α Bh_1.2.2.1 a0 (cw_k Bh_1.2.2 k0) 1) lb_X11_refuse lv_X11_refuse lk_X11_98 (cw_k Bh_1.2.2 k0) rfl (by decide) rfl hl.1 rfl (Nat.le_of_ble_eq_true rfl) dX11_rise_26 ⟨Nat.le_refl _, Nat.le_refl _⟩) (fun _ _ h => cw_tr Bh_1.2.2 h (by decide)) rfl (fun rh_2 αh_2 Hh_2 Lh_2 ph_2 Bh_2 => ?_)
    exact q_iret C Bh_2 hr hlk Bh_2.2.2 dX11_rise_29
  refine lv_if_lt (tgt := 24) hx hb dX11_rise_1 (by decide) (fun c_3 => ?_) (fun c_3 => hp_n (n := 4) rfl ?_)
  ·
    have jc_3 := il_lt c_3
    exact J24 s.heap [] B ls (lv_sub hl [0] rfl)
  ·
    have jc_3 := il_nlt c_3
    refine lv_iload_n hx hb dX11_rise_4 rfl (lv_at hl 1 rfl) (hp_n (n := 5) rfl ?_)
    refine lv_iload_n hx hb dX11_rise_5 rfl (lv_at hl 2 rfl) (hp_n (n := 6) rfl ?_)
    refine lv_icmp_gt (tgt := 24) hx hb dX11_rise_6 (by decide) (fun c_4 => ?_) (fun c_4 => hp_n (n := 9) rfl ?_)
    ·
      have jc_4 := il_lt c_4
      exact J24 s.heap [] B ls (lv_sub hl [0] rfl)
    ·
      have jc_4 := il_nlt c_4
      refine lv_iload_n hx hb dX11_rise_9 rfl (lv_at hl 3 rfl) (hp_n (n := 10) rfl ?_)
      refine lv_if_lt (tgt := 24) hx hb dX11_rise_10 (by decide) (fun c_5 => ?_) (fun c_5 => hp_n (n := 13) rfl ?_)
      ·
        have jc_5 := il_lt c_5
        exact J24 s.heap [] B ls (lv_sub hl [0] rfl)
      ·
        have jc_5 := il_nlt c_5
        refine lv_iload hx hb dX11_rise_13 (lv_at hl 4 rfl) (hp_n (n := 15) rfl ?_)
        refine lv_if_lt (tgt := 24) hx hb dX11_rise_15 (by decide) (fun c_6 => ?_) (fun c_6 => hp_n (n := 18) rfl ?_)
        ·
          have jc_6 := il_lt c_6
          exact J24 s.heap [] B ls (lv_sub hl [0] rfl)
        ·
          have jc_6 := il_nlt c_6
          refine lv_iload hx hb dX11_rise_18 (lv_at hl 4 rfl) (hp_n (n := 20) rfl ?_)
          refine lv_iconst (v := 1) hx hb dX11_rise_20 (by decide) (hp_n (n := 21) rfl ?_)
          refine lv_icmp_le (tgt := 30) hx hb dX11_rise_21 (by decide) (fun c_7 => ?_) (fun c_7 => hp_n (n := 24) rfl ?_)
          ·
            have jc_7 := il_le c_7
            refine lv_aload_n hx hb dX11_rise_30 rfl (lv_at hl 0 rfl) (hp_n (n := 31) rfl ?_)
            refine q_getr (κ := 12) (k := 12) (φ := 612) (pc' := 34) C B (cw_k B.2.2 k0) fl_X11_62 rfl rfl rfl (cw_r B.2.2 k0 rfl rfl (by decide) (by decide)) dX11_rise_31 rfl (fun b_8 eb_8 kb_8 => ?_)
            refine lv_iload_n hx hb dX11_rise_34 rfl (lv_at hl 1 rfl) (hp_n (n := 35) rfl ?_)
            refine lv_iload_n hx hb dX11_rise_35 rfl (lv_at hl 2 rfl) (hp_n (n := 36) rfl ?_)
            refine q_cv (pc' := 39) B (hp_runV (As := [.int a1, .int a2]) (rest := []) C B (t_X8_toGrowth Γ l α B.2.2.1 b_8 (cw_k B.2.2 kb_8) a1 a2) lb_X8_toGrowth lv_X8_toGrowth lk_X11_274 (cw_k B.2.2 kb_8) rfl (by decide) rfl hl.1 rfl (Nat.le_of_ble_eq_true rfl) dX11_rise_36 ⟨Nat.le_refl _, Nat.le_refl _⟩) (fun _ h => cw_tr B.2.2 h (by decide)) rfl (fun αh_9 Hh_9 Lh_9 ph_9 Bh_9 => ?_)
            refine lv_aload_n hx hb dX11_rise_39 rfl (lv_at hl 0 rfl) (hp_n (n := 40) rfl ?_)
            refine lv_iload_n hx hb dX11_rise_40 rfl (lv_at hl 3 rfl) (hp_n (n := 41) rfl ?_)
            refine lv_iload hx hb dX11_rise_41 (lv_at hl 4 rfl) (hp_n (n := 43) rfl ?_)
            refine q_ci (pc' := 46) Bh_9 (hp_runV (As := [.int a3, .int a4]) (rest := []) C Bh_9 (t_X11_treeOfWay Γ l αh_9 Bh_9.2.2.1 a0 (cw_k Bh_9.2.2 k0) a3 a4) lb_X11_treeOfWay lv_X11_treeOfWay lk_X11_392 (cw_k Bh_9.2.2 k0) rfl (by decide) rfl hl.1 rfl (Nat.le_of_ble_eq_true rfl) dX11_rise_43 ⟨Nat.le_refl _, Nat.le_refl _⟩) (fun _ _ h => cw_tr Bh_9.2.2 h (by decide)) rfl (fun rh_10 αh_10 Hh_10 Lh_10 ph_10 Bh_10 => ?_)
            exact q_iret C Bh_10 hr hlk Bh_10.2.2 dX11_rise_46
          ·
            have jc_7 := il_nle c_7
            exact J24 s.heap [] B ls (lv_sub hl [0] rfl)
abbrev w_X11_kept : cw_W := ([453, 454, 600], [], [21, 22, 23], [])
set_option maxRecDepth 100000 in
set_option maxHeartbeats 4000000 in
theorem t_X11_kept (Γ : hp_G) (l : Launch) (α : hp_T) (g : GC α) (a0 : Nat) (k0 : hp_K α a0 = 12) (a1 : Int32) (a2 : Int32) (a3 : Int32) : Met l yX11_kept (hp_ws yX11_kept cX11_kept 4 (some .int)) (hp_rm 4 0 0) (hp_Pc Γ α [.ref a0, .int a1, .int a2, .int a3]) (hp_Qi Γ (fun r β => cw w_X11_kept α β)) 0 0 (hp_A Γ) := by
  refine hp_start (by decide) ?_
  intro p e s m below meth c C hr hlk B0 hnm
  have C : hp_C Γ p m c cX11_kept 4 s ([.ref a0, .int a1, .int a2, .int a3] : List Value).toArray RX11 := C
  have hx := C.1.1
  have hb := C.1.2.1
  have hown := C.1.2.2.2.1
  have hts := C.1.2.2.2.2
  have B : hp_B Γ (cw w_X11_kept) s α α s.heap [] := ⟨B0.1, B0.2.1, cw_rf g⟩
  have lit0 : (0 : Int32).toInt = 0 := by decide
  have lit1 : (1 : Int32).toInt = 1 := by decide
  have hl := lv_entry ([.ref a0, .int a1, .int a2, .int a3]) (n := 4) (Nat.le_of_ble_eq_true rfl)
  show W p l e (hp_rm 4 0 0) s m ([.ref a0, .int a1, .int a2, .int a3] : List Value).toArray below meth c s.heap [] 0 0 (MQ below (hp_Qi Γ (fun r β => cw w_X11_kept α β)) ([.ref a0, .int a1, .int a2, .int a3] : List Value).toArray s 0 0 (hp_A Γ)) (entryFrame m ([.ref a0, .int a1, .int a2, .int a3] : List Value).toArray 4)
  rw [lg_entry_eq]
  generalize (lg_sl ([.ref a0, .int a1, .int a2, .int a3]) ++ List.replicate (4 - (lg_sl ([.ref a0, .int a1, .int a2, .int a3])).length) Slot.unset).toArray = ls at hl ⊢
  have hl : lv_has ls 4 [(0, .ref a0), (1, .int a1), (2, .int a2), (3, .int a3)] := hl
  refine lv_iload_n hx hb dX11_kept_0 rfl (lv_at hl 1 rfl) (hp_n (n := 1) rfl ?_)
  refine lv_iload_n hx hb dX11_kept_1 rfl (lv_at hl 2 rfl) (hp_n (n := 2) rfl ?_)
  refine q_ci (pc' := 5) B (hp_runS (As := [.int a1, .int a2]) (rest := []) C B (t_X11_isThing Γ l α B.2.2.1 a1 a2) lb_X11_isThing ls_X11_isThing lk_X11_301 rfl (by decide) rfl hl.1 rfl (Nat.le_of_ble_eq_true rfl) dX11_kept_2 ⟨Nat.le_refl _, Nat.le_refl _⟩) (fun _ _ h => by rw [h.1]; exact B.2.2) rfl (fun rh_1 αh_1 Hh_1 Lh_1 ph_1 Bh_1 => ?_)
  rw [ph_1.1] at Bh_1
  have zh_1 := ph_1.2
  have J13 : ∀ (Hh_2 : Heap) (Lh_2 : List Loc) (Bh_2 : hp_B Γ (cw w_X11_kept) s α α Hh_2 Lh_2) (ls : Array Slot) (hl : lv_has ls 4 [(0, .ref a0)]), W p l e (hp_rm 4 0 0) s m ([.ref a0, .int a1, .int a2, .int a3] : List Value).toArray below meth c Hh_2 Lh_2 0 0 (MQ below (hp_Qi Γ (fun r β => cw w_X11_kept α β)) ([.ref a0, .int a1, .int a2, .int a3] : List Value).toArray s 0 0 (hp_A Γ)) (F0 m 13 ls []) := by
    intro Hh_2 Lh_2 Bh_2 ls hl
    refine lv_aload_n hx hb dX11_kept_13 rfl (lv_at hl 0 rfl) (hp_n (n := 14) rfl ?_)
    refine lv_iconst (v := 1) hx hb dX11_kept_14 (by decide) (hp_n (n := 15) rfl ?_)
    refine q_ci (pc' := 18) Bh_2 (hp_runV (As := [.int 1]) (rest := []) C Bh_2 (t_X11_refuse Γ l α Bh_2.2.2.1 a0 (cw_k Bh_2.2.2 k0) 1) lb_X11_refuse lv_X11_refuse lk_X11_98 (cw_k Bh_2.2.2 k0) rfl (by decide) rfl hl.1 rfl (Nat.le_of_ble_eq_true rfl) dX11_kept_15 ⟨Nat.le_refl _, Nat.le_refl _⟩) (fun _ _ h => cw_tr Bh_2.2.2 h (by decide)) rfl (fun rh_3 αh_3 Hh_3 Lh_3 ph_3 Bh_3 => ?_)
    exact q_iret C Bh_3 hr hlk Bh_3.2.2 dX11_kept_18
  refine lv_if_eq (tgt := 13) hx hb dX11_kept_5 (by decide) (fun c_4 => ?_) (fun c_4 => hp_n (n := 8) rfl ?_)
  ·
    have jc_4 := il_eq c_4
    exact J13 Hh_1 Lh_1 Bh_1 ls (lv_sub hl [0] rfl)
  ·
    have jc_4 := il_ne c_4
    refine lv_iload_n hx hb dX11_kept_8 rfl (lv_at hl 3 rfl) (hp_n (n := 9) rfl ?_)
    refine lv_iload_n hx hb dX11_kept_9 rfl (lv_at hl 2 rfl) (hp_n (n := 10) rfl ?_)
    refine lv_icmp_ge (tgt := 19) hx hb dX11_kept_10 (by decide) (fun c_5 => ?_) (fun c_5 => hp_n (n := 13) rfl ?_)
    ·
      have jc_5 := il_le c_5
      refine lv_aload_n hx hb dX11_kept_19 rfl (lv_at hl 0 rfl) (hp_n (n := 20) rfl ?_)
      refine q_getr (κ := 12) (k := 12) (φ := 612) (pc' := 23) C Bh_1 (cw_k Bh_1.2.2 k0) fl_X11_62 rfl rfl rfl (cw_r Bh_1.2.2 k0 rfl rfl (by decide) (by decide)) dX11_kept_20 rfl (fun b_6 eb_6 kb_6 => ?_)
      refine lv_iload_n hx hb dX11_kept_23 rfl (lv_at hl 1 rfl) (hp_n (n := 24) rfl ?_)
      refine lv_iload_n hx hb dX11_kept_24 rfl (lv_at hl 2 rfl) (hp_n (n := 25) rfl ?_)
      refine q_cv (pc' := 28) Bh_1 (hp_runV (As := [.int a1, .int a2]) (rest := []) C Bh_1 (t_X8_toThing Γ l α Bh_1.2.2.1 b_6 (cw_k Bh_1.2.2 kb_6) a1 a2) lb_X8_toThing lv_X8_toThing lk_X11_267 (cw_k Bh_1.2.2 kb_6) rfl (by decide) rfl hl.1 rfl (Nat.le_of_ble_eq_true rfl) dX11_kept_25 ⟨Nat.le_refl _, Nat.le_refl _⟩) (fun _ h => cw_tr Bh_1.2.2 h (by decide)) rfl (fun αh_7 Hh_7 Lh_7 ph_7 Bh_7 => ?_)
      refine lv_aload_n hx hb dX11_kept_28 rfl (lv_at hl 0 rfl) (hp_n (n := 29) rfl ?_)
      refine q_getr (κ := 12) (k := 13) (φ := 613) (pc' := 32) C Bh_7 (cw_k Bh_7.2.2 k0) fl_X11_66 rfl rfl rfl (cw_r Bh_7.2.2 k0 rfl rfl (by decide) (by decide)) dX11_kept_29 rfl (fun b_8 eb_8 kb_8 => ?_)
      refine lv_iload_n hx hb dX11_kept_32 rfl (lv_at hl 1 rfl) (hp_n (n := 33) rfl ?_)
      refine lv_iload_n hx hb dX11_kept_33 rfl (lv_at hl 3 rfl) (hp_n (n := 34) rfl ?_)
      refine q_cv (pc' := 37) Bh_7 (hp_runV (As := [.int a1, .int a3]) (rest := []) C Bh_7 (t_X8_toThing Γ l αh_7 Bh_7.2.2.1 b_8 (cw_k Bh_7.2.2 kb_8) a1 a3) lb_X8_toThing lv_X8_toThing lk_X11_267 (cw_k Bh_7.2.2 kb_8) rfl (by decide) rfl hl.1 rfl (Nat.le_of_ble_eq_true rfl) dX11_kept_34 ⟨Nat.le_refl _, Nat.le_refl _⟩) (fun _ h => cw_tr Bh_7.2.2 h (by decide)) rfl (fun αh_9 Hh_9 Lh_9 ph_9 Bh_9 => ?_)
      refine lv_aload_n hx hb dX11_kept_37 rfl (lv_at hl 0 rfl) (hp_n (n := 38) rfl ?_)
      refine lv_aload_n hx hb dX11_kept_38 rfl (lv_at hl 0 rfl) (hp_n (n := 39) rfl ?_)
      have t_10 : b_6 = hp_R αh_7 612 a0 := by rw [cw_R ph_7 a0 (by decide)]; exact eb_6
      have t_11 : b_6 = hp_R αh_9 612 a0 := by rw [cw_R ph_9 a0 (by decide)]; exact t_10
      refine q_gets (κ := 12) (k := 12) (φ := 612) (pc' := 42) C Bh_9 (cw_k Bh_9.2.2 k0) fl_X11_62 rfl rfl rfl t_11 dX11_kept_39 rfl ?_
      refine lv_aload_n hx hb dX11_kept_42 rfl (lv_at hl 0 rfl) (hp_n (n := 43) rfl ?_)
      have t_12 : b_8 = hp_R αh_9 613 a0 := by rw [cw_R ph_9 a0 (by decide)]; exact eb_8
      refine q_gets (κ := 12) (k := 13) (φ := 613) (pc' := 46) C Bh_9 (cw_k Bh_9.2.2 k0) fl_X11_66 rfl rfl rfl t_12 dX11_kept_43 rfl ?_
      refine q_ci (pc' := 49) Bh_9 (hp_runV (As := [.ref b_8]) (rest := [.ref a0]) C Bh_9 (t_X8_countShared Γ l αh_9 Bh_9.2.2.1 b_6 (cw_k Bh_9.2.2 kb_6) b_8 (cw_k Bh_9.2.2 kb_8)) lb_X8_countShared lv_X8_countShared lk_X11_395 (cw_k Bh_9.2.2 kb_6) rfl (by decide) rfl hl.1 rfl (Nat.le_of_ble_eq_true rfl) dX11_kept_46 ⟨Nat.le_refl _, Nat.le_refl _⟩) (fun _ _ h => by rw [h]; exact Bh_9.2.2) rfl (fun rh_13 αh_13 Hh_13 Lh_13 ph_13 Bh_13 => ?_)
      rw [ph_13] at Bh_13
      refine q_ci (pc' := 52) Bh_13 (hp_runV (As := [.int rh_13]) (rest := []) C Bh_13 (t_X11_answer Γ l αh_9 Bh_13.2.2.1 a0 (cw_k Bh_13.2.2 k0) rh_13) lb_X11_answer lv_X11_answer lk_X11_115 (cw_k Bh_13.2.2 k0) rfl (by decide) rfl hl.1 rfl (Nat.le_of_ble_eq_true rfl) dX11_kept_49 ⟨Nat.le_refl _, Nat.le_refl _⟩) (fun _ _ h => cw_tr Bh_13.2.2 h (by decide)) rfl (fun rh_14 αh_14 Hh_14 Lh_14 ph_14 Bh_14 => ?_)
      exact q_iret C Bh_14 hr hlk Bh_14.2.2 dX11_kept_52
    ·
      have jc_5 := il_nle c_5
      exact J13 Hh_1 Lh_1 Bh_1 ls (lv_sub hl [0] rfl)
abbrev w_X11_sick : cw_W := ([301, 600], [], [20, 33], [])
abbrev w_X11_isLink : cw_W := ([], [], [], [])
set_option maxRecDepth 100000 in
set_option maxHeartbeats 4000000 in
theorem t_X11_isLink (Γ : hp_G) (l : Launch) (α : hp_T) (g : GC α) (a0 : Nat) (k0 : hp_K α a0 = 12) (a1 : Int32) (a2 : Int32) : Met l yX11_isLink (hp_ws yX11_isLink cX11_isLink 4 (some .boolean)) (hp_rm 0 0 0) (hp_Pc Γ α [.ref a0, .int a1, .int a2]) (hp_Qi Γ (fun r β => β = α ∧ (r = 0 ∨ r = 1))) 0 0 (hp_A Γ) := by
  refine hp_start (by decide) ?_
  intro p e s m below meth c C hr hlk B0 hnm
  have C : hp_C Γ p m c cX11_isLink 4 s ([.ref a0, .int a1, .int a2] : List Value).toArray RX11 := C
  have hx := C.1.1
  have hb := C.1.2.1
  have hown := C.1.2.2.2.1
  have hts := C.1.2.2.2.2
  have B : hp_B Γ (cw w_X11_isLink) s α α s.heap [] := ⟨B0.1, B0.2.1, cw_rf g⟩
  have lit0 : (0 : Int32).toInt = 0 := by decide
  have lit1 : (1 : Int32).toInt = 1 := by decide
  have lit256 : (256 : Int32).toInt = 256 := by decide
  have hl := lv_entry ([.ref a0, .int a1, .int a2]) (n := 4) (Nat.le_of_ble_eq_true rfl)
  show W p l e (hp_rm 0 0 0) s m ([.ref a0, .int a1, .int a2] : List Value).toArray below meth c s.heap [] 0 0 (MQ below (hp_Qi Γ (fun r β => β = α ∧ (r = 0 ∨ r = 1))) ([.ref a0, .int a1, .int a2] : List Value).toArray s 0 0 (hp_A Γ)) (entryFrame m ([.ref a0, .int a1, .int a2] : List Value).toArray 4)
  rw [lg_entry_eq]
  generalize (lg_sl ([.ref a0, .int a1, .int a2]) ++ List.replicate (4 - (lg_sl ([.ref a0, .int a1, .int a2])).length) Slot.unset).toArray = ls at hl ⊢
  have hl : lv_has ls 4 [(0, .ref a0), (1, .int a1), (2, .int a2)] := hl
  refine lv_iconst (v := 0) hx hb dX11_isLink_0 (by decide) (hp_n (n := 1) rfl ?_)
  have J2 : ∀ (nq : Nat) (Hh_1 : Heap) (Lh_1 : List Loc) (Bh_1 : hp_B Γ (cw w_X11_isLink) s α α Hh_1 Lh_1) (v3_h_1 : Int32) (ih_1_0 : 0 ≤ v3_h_1.toInt) (ls : Array Slot) (hl : lv_has ls 4 [(0, .ref a0), (1, .int a1), (2, .int a2), (3, .int v3_h_1)]) (hmu2 : (2147483647 - v3_h_1.toInt).toNat = nq), W p l e (hp_rm 0 0 0) s m ([.ref a0, .int a1, .int a2] : List Value).toArray below meth c Hh_1 Lh_1 0 0 (MQ below (hp_Qi Γ (fun r β => β = α ∧ (r = 0 ∨ r = 1))) ([.ref a0, .int a1, .int a2] : List Value).toArray s 0 0 (hp_A Γ)) (F0 m 2 ls []) := by
    intro nq
    induction nq using Nat.strongRecOn with
    | ind nq ih2 =>
    intro Hh_1 Lh_1 Bh_1 v3_h_1 ih_1_0 ls hl hmu2
    have inv2_0 := ih_1_0
    refine lv_iload_n hx hb dX11_isLink_2 rfl (lv_at hl 3 rfl) (hp_n (n := 3) rfl ?_)
    refine lv_iload_n hx hb dX11_isLink_3 rfl (lv_at hl 2 rfl) (hp_n (n := 4) rfl ?_)
    refine lv_icmp_ge (tgt := 34) hx hb dX11_isLink_4 (by decide) (fun c_2 => ?_) (fun c_2 => hp_n (n := 7) rfl ?_)
    ·
      have jc_2 := il_le c_2
      refine lv_iconst (v := 0) hx hb dX11_isLink_34 (by decide) (hp_n (n := 35) rfl ?_)
      exact q_zret C Bh_1 hr hlk (by decide) ⟨rfl, (Or.inl rfl)⟩ dX11_isLink_35
    ·
      have jc_2 := il_nle c_2
      refine lv_iload_n hx hb dX11_isLink_7 rfl (lv_at hl 3 rfl) (hp_n (n := 8) rfl ?_)
      refine lv_aload_n hx hb dX11_isLink_8 rfl (lv_at hl 0 rfl) (hp_n (n := 9) rfl ?_)
      refine q_getr (κ := 12) (k := 17) (φ := 617) (pc' := 12) C Bh_1 (cw_k Bh_1.2.2 k0) fl_X11_86 rfl rfl rfl (cw_r Bh_1.2.2 k0 rfl rfl (by decide) (by decide)) dX11_isLink_9 rfl (fun b_3 eb_3 kb_3 => ?_)
      refine q_alen (κ := 26) (t := 0) (n := 256) (x := 256) (ty := .int) (pc' := 13) C Bh_1 (cw_k Bh_1.2.2 kb_3) (by decide) rfl rfl rfl dX11_isLink_12 rfl ?_
      refine lv_icmp_ge (tgt := 34) hx hb dX11_isLink_13 (by decide) (fun c_4 => ?_) (fun c_4 => hp_n (n := 16) rfl ?_)
      ·
        have jc_4 := il_le c_4
        refine lv_iconst (v := 0) hx hb dX11_isLink_34 (by decide) (hp_n (n := 35) rfl ?_)
        exact q_zret C Bh_1 hr hlk (by decide) ⟨rfl, (Or.inl rfl)⟩ dX11_isLink_35
      ·
        have jc_4 := il_nle c_4
        refine lv_aload_n hx hb dX11_isLink_16 rfl (lv_at hl 0 rfl) (hp_n (n := 17) rfl ?_)
        refine q_gets (κ := 12) (k := 17) (φ := 617) (pc' := 20) C Bh_1 (cw_k Bh_1.2.2 k0) fl_X11_86 rfl rfl rfl eb_3 dX11_isLink_17 rfl ?_
        refine lv_iload_n hx hb dX11_isLink_20 rfl (lv_at hl 3 rfl) (hp_n (n := 21) rfl ?_)
        refine q_ial (κ := 26) (n := 256) (pc' := 22) C Bh_1 (cw_k Bh_1.2.2 kb_3) (by decide) rfl (vi_of (by omega) (by omega)) dX11_isLink_21 rfl (lv_topi (fun x_5 ex_5 => ?_))
        refine lv_iload_n hx hb dX11_isLink_22 rfl (lv_at hl 1 rfl) (hp_n (n := 23) rfl ?_)
        refine lv_icmp_ne (tgt := 28) hx hb dX11_isLink_23 (by decide) (fun c_6 => ?_) (fun c_6 => hp_n (n := 26) rfl ?_)
        ·
          have jc_6 := il_ne c_6
          obtain ⟨x_7, ex_7⟩ : ∃ y : Int32, y = v3_h_1 + 1 := ⟨_, rfl⟩
          have qx_7 : x_7.toInt = v3_h_1.toInt + 1 := by have q0 := ib_hi a2; have qa := ib_lo v3_h_1; rw [ex_7]; exact ii_add (by omega) (by omega)
          refine lv_iinc (v := x_7) (lv' := [(3, .int x_7), (0, .ref a0), (1, .int a1), (2, .int a2)]) hx hb dX11_isLink_28 hl (k := 3) rfl (by rw [ex_7]; rfl) (by decide) rfl (fun ls hl => hp_n (n := 31) rfl ?_)
          refine lv_goto (tgt := 2) hx hb dX11_isLink_31 (by decide) ?_
          exact ih2 _ (by have q0 := ib_hi a2; have q1 := ib_lo a2; have qa := ib_hi v3_h_1; have qb := ib_lo v3_h_1; have qc : (v3_h_1 + 1).toInt = v3_h_1.toInt + (1 : Int32).toInt := ii_add (by omega) (by omega); rw [ex_7]; omega) Hh_1 Lh_1 Bh_1 x_7 (by omega) ls (lv_sub hl [1, 2, 3, 0] rfl) rfl
        ·
          have jc_6 := il_eq c_6
          refine lv_iconst (v := 1) hx hb dX11_isLink_26 (by decide) (hp_n (n := 27) rfl ?_)
          exact q_zret C Bh_1 hr hlk (by decide) ⟨rfl, (Or.inr rfl)⟩ dX11_isLink_27
  refine lv_istore_n (lv' := [(3, .int 0), (0, .ref a0), (1, .int a1), (2, .int a2)]) hx hb dX11_isLink_1 rfl hl (by decide) rfl (fun ls hl => hp_n (n := 2) rfl ?_)
  exact J2 _ s.heap [] B 0 (by omega) ls (lv_sub hl [1, 2, 3, 0] rfl) rfl
abbrev w_X11_addLinks : cw_W := ([], [], [26], [])
set_option maxRecDepth 100000 in
set_option maxHeartbeats 4000000 in
theorem t_X11_addLinks (Γ : hp_G) (l : Launch) (α : hp_T) (g : GC α) (a0 : Nat) (k0 : hp_K α a0 = 12) (a1 : Int32) : Met l yX11_addLinks (hp_ws yX11_addLinks cX11_addLinks 5 (some .int)) (hp_rm 1 0 0) (hp_Pc Γ α [.ref a0, .int a1]) (hp_Qi Γ (fun r β => cw w_X11_addLinks α β)) 0 0 (hp_A Γ) := by
  refine hp_start (by decide) ?_
  intro p e s m below meth c C hr hlk B0 hnm
  have C : hp_C Γ p m c cX11_addLinks 5 s ([.ref a0, .int a1] : List Value).toArray RX11 := C
  have hx := C.1.1
  have hb := C.1.2.1
  have hown := C.1.2.2.2.1
  have hts := C.1.2.2.2.2
  have B : hp_B Γ (cw w_X11_addLinks) s α α s.heap [] := ⟨B0.1, B0.2.1, cw_rf g⟩
  have lit0 : (0 : Int32).toInt = 0 := by decide
  have lit1 : (1 : Int32).toInt = 1 := by decide
  have lit64 : (64 : Int32).toInt = 64 := by decide
  have lit256 : (256 : Int32).toInt = 256 := by decide
  have hl := lv_entry ([.ref a0, .int a1]) (n := 5) (Nat.le_of_ble_eq_true rfl)
  show W p l e (hp_rm 1 0 0) s m ([.ref a0, .int a1] : List Value).toArray below meth c s.heap [] 0 0 (MQ below (hp_Qi Γ (fun r β => cw w_X11_addLinks α β)) ([.ref a0, .int a1] : List Value).toArray s 0 0 (hp_A Γ)) (entryFrame m ([.ref a0, .int a1] : List Value).toArray 5)
  rw [lg_entry_eq]
  generalize (lg_sl ([.ref a0, .int a1]) ++ List.replicate (5 - (lg_sl ([.ref a0, .int a1])).length) Slot.unset).toArray = ls at hl ⊢
  have hl : lv_has ls 5 [(0, .ref a0), (1, .int a1)] := hl
  refine lv_iload_n hx hb dX11_addLinks_0 rfl (lv_at hl 1 rfl) (hp_n (n := 1) rfl ?_)
  refine lv_istore_n (lv' := [(2, .int a1), (0, .ref a0), (1, .int a1)]) hx hb dX11_addLinks_1 rfl hl (by decide) rfl (fun ls hl => hp_n (n := 2) rfl ?_)
  refine lv_iconst (v := 0) hx hb dX11_addLinks_2 (by decide) (hp_n (n := 3) rfl ?_)
  have J4 : ∀ (nq : Nat) (αh_1 : hp_T) (Hh_1 : Heap) (Lh_1 : List Loc) (Bh_1 : hp_B Γ (cw w_X11_addLinks) s α αh_1 Hh_1 Lh_1) (v2_h_1 : Int32) (v3_h_1 : Int32) (ih_1_0 : 0 ≤ v3_h_1.toInt) (ls : Array Slot) (hl : lv_has ls 5 [(0, .ref a0), (2, .int v2_h_1), (3, .int v3_h_1)]) (hmu4 : (2147483647 - v3_h_1.toInt).toNat = nq), W p l e (hp_rm 1 0 0) s m ([.ref a0, .int a1] : List Value).toArray below meth c Hh_1 Lh_1 0 0 (MQ below (hp_Qi Γ (fun r β => cw w_X11_addLinks α β)) ([.ref a0, .int a1] : List Value).toArray s 0 0 (hp_A Γ)) (F0 m 4 ls []) := by
    intro nq
    induction nq using Nat.strongRecOn with
    | ind nq ih4 =>
    intro αh_1 Hh_1 Lh_1 Bh_1 v2_h_1 v3_h_1 ih_1_0 ls hl hmu4
    have inv4_0 := ih_1_0
    refine lv_iload_n hx hb dX11_addLinks_4 rfl (lv_at hl 2 rfl) (hp_n (n := 5) rfl ?_)
    refine lv_aload_n hx hb dX11_addLinks_5 rfl (lv_at hl 0 rfl) (hp_n (n := 6) rfl ?_)
    refine q_getr (κ := 12) (k := 12) (φ := 612) (pc' := 9) C Bh_1 (cw_k Bh_1.2.2 k0) fl_X11_62 rfl rfl rfl (cw_r Bh_1.2.2 k0 rfl rfl (by decide) (by decide)) dX11_addLinks_6 rfl (fun b_2 eb_2 kb_2 => ?_)
    refine q_geti (κ := 9) (k := 3) (φ := 453) (pc' := 12) C Bh_1 (cw_k Bh_1.2.2 kb_2) fl_X11_312 rfl rfl rfl dX11_addLinks_9 rfl (fun x_3 ex_3 => ?_)
    obtain ⟨gx_3a, gx_3b⟩ : 0 ≤ x_3.toInt ∧ x_3.toInt ≤ 64 := by rw [ex_3]; exact Bh_1.2.2.1.1 453 b_2 rfl
    refine lv_icmp_ge (tgt := 77) hx hb dX11_addLinks_12 (by decide) (fun c_4 => ?_) (fun c_4 => hp_n (n := 15) rfl ?_)
    ·
      have jc_4 := il_le c_4
      refine lv_iload_n hx hb dX11_addLinks_77 rfl (lv_at hl 1 rfl) (hp_n (n := 78) rfl ?_)
      exact q_iret C Bh_1 hr hlk Bh_1.2.2 dX11_addLinks_78
    ·
      have jc_4 := il_nle c_4
      refine lv_aload_n hx hb dX11_addLinks_15 rfl (lv_at hl 0 rfl) (hp_n (n := 16) rfl ?_)
      refine q_gets (κ := 12) (k := 12) (φ := 612) (pc' := 19) C Bh_1 (cw_k Bh_1.2.2 k0) fl_X11_62 rfl rfl rfl eb_2 dX11_addLinks_16 rfl ?_
      refine lv_iload_n hx hb dX11_addLinks_19 rfl (lv_at hl 2 rfl) (hp_n (n := 20) rfl ?_)
      refine q_ci (pc' := 23) Bh_1 (hp_runV (As := [.int v3_h_1]) (rest := []) C Bh_1 (t_X8_firstAt Γ l αh_1 Bh_1.2.2.1 b_2 (cw_k Bh_1.2.2 kb_2) v3_h_1) lb_X8_firstAt lv_X8_firstAt lk_X11_333 (cw_k Bh_1.2.2 kb_2) rfl (by decide) rfl hl.1 rfl (Nat.le_of_ble_eq_true rfl) dX11_addLinks_20 ⟨Nat.le_refl _, Nat.le_refl _⟩) (fun _ _ h => by rw [h]; exact Bh_1.2.2) rfl (fun rh_5 αh_5 Hh_5 Lh_5 ph_5 Bh_5 => ?_)
      rw [ph_5] at Bh_5
      refine lv_bipush (v := 64) hx hb dX11_addLinks_23 (by decide) (hp_n (n := 25) rfl ?_)
      refine lv_imul hx hb dX11_addLinks_25 (hp_n (n := 26) rfl (lv_topi (fun x_6 ex_6 => ?_)))
      refine lv_aload_n hx hb dX11_addLinks_26 rfl (lv_at hl 0 rfl) (hp_n (n := 27) rfl ?_)
      refine q_gets (κ := 12) (k := 12) (φ := 612) (pc' := 30) C Bh_5 (cw_k Bh_5.2.2 k0) fl_X11_62 rfl rfl rfl eb_2 dX11_addLinks_27 rfl ?_
      refine lv_iload_n hx hb dX11_addLinks_30 rfl (lv_at hl 2 rfl) (hp_n (n := 31) rfl ?_)
      refine q_ci (pc' := 34) Bh_5 (hp_runV (As := [.int v3_h_1]) (rest := [.int x_6]) C Bh_5 (t_X8_manyAt Γ l αh_1 Bh_5.2.2.1 b_2 (cw_k Bh_5.2.2 kb_2) v3_h_1) lb_X8_manyAt lv_X8_manyAt lk_X11_336 (cw_k Bh_5.2.2 kb_2) rfl (by decide) rfl hl.1 rfl (Nat.le_of_ble_eq_true rfl) dX11_addLinks_31 ⟨Nat.le_refl _, Nat.le_refl _⟩) (fun _ _ h => by rw [h]; exact Bh_5.2.2) rfl (fun rh_7 αh_7 Hh_7 Lh_7 ph_7 Bh_7 => ?_)
      rw [ph_7] at Bh_7
      refine lv_iadd hx hb dX11_addLinks_34 (hp_n (n := 35) rfl (lv_topi (fun x_8 ex_8 => ?_)))
      refine lv_istore (lv' := [(4, .int x_8), (0, .ref a0), (2, .int v2_h_1), (3, .int v3_h_1)]) hx hb dX11_addLinks_35 hl (by decide) rfl (fun ls hl => hp_n (n := 37) rfl ?_)
      refine lv_aload_n hx hb dX11_addLinks_37 rfl (lv_at hl 1 rfl) (hp_n (n := 38) rfl ?_)
      refine lv_iload hx hb dX11_addLinks_38 (lv_at hl 0 rfl) (hp_n (n := 40) rfl ?_)
      refine lv_iload_n hx hb dX11_addLinks_40 rfl (lv_at hl 2 rfl) (hp_n (n := 41) rfl ?_)
      refine q_ci (pc' := 44) Bh_7 (hp_runV (As := [.int x_8, .int v2_h_1]) (rest := []) C Bh_7 (t_X11_isLink Γ l αh_1 Bh_7.2.2.1 a0 (cw_k Bh_7.2.2 k0) x_8 v2_h_1) lb_X11_isLink lv_X11_isLink lk_X11_482 (cw_k Bh_7.2.2 k0) rfl (by decide) rfl hl.1 rfl (Nat.le_of_ble_eq_true rfl) dX11_addLinks_41 ⟨Nat.le_refl _, Nat.le_refl _⟩) (fun _ _ h => by rw [h.1]; exact Bh_7.2.2) rfl (fun rh_9 αh_9 Hh_9 Lh_9 ph_9 Bh_9 => ?_)
      rw [ph_9.1] at Bh_9
      have zh_9 := ph_9.2
      refine lv_if_ne (tgt := 71) hx hb dX11_addLinks_44 (by decide) (fun c_10 => ?_) (fun c_10 => hp_n (n := 47) rfl ?_)
      ·
        have jc_10 := il_ne c_10
        obtain ⟨x_11, ex_11⟩ : ∃ y : Int32, y = v3_h_1 + 1 := ⟨_, rfl⟩
        have qx_11 : x_11.toInt = v3_h_1.toInt + 1 := by have q0 := ib_hi x_3; have qa := ib_lo v3_h_1; rw [ex_11]; exact ii_add (by omega) (by omega)
        refine lv_iinc (v := x_11) (lv' := [(3, .int x_11), (4, .int x_8), (0, .ref a0), (2, .int v2_h_1)]) hx hb dX11_addLinks_71 hl (k := 3) rfl (by rw [ex_11]; rfl) (by decide) rfl (fun ls hl => hp_n (n := 74) rfl ?_)
        refine lv_goto (tgt := 4) hx hb dX11_addLinks_74 (by decide) ?_
        exact ih4 _ (by have q0 := ib_hi x_3; have q1 := ib_lo x_3; have qa := ib_hi v3_h_1; have qb := ib_lo v3_h_1; have qc : (v3_h_1 + 1).toInt = v3_h_1.toInt + (1 : Int32).toInt := ii_add (by omega) (by omega); rw [ex_11]; omega) αh_1 Hh_9 Lh_9 Bh_9 v2_h_1 x_11 (by omega) ls (lv_sub hl [2, 3, 0] rfl) rfl
      ·
        have jc_10 := il_eq c_10
        refine lv_iload_n hx hb dX11_addLinks_47 rfl (lv_at hl 2 rfl) (hp_n (n := 48) rfl ?_)
        refine lv_if_lt (tgt := 71) hx hb dX11_addLinks_48 (by decide) (fun c_12 => ?_) (fun c_12 => hp_n (n := 51) rfl ?_)
        ·
          have jc_12 := il_lt c_12
          obtain ⟨x_13, ex_13⟩ : ∃ y : Int32, y = v3_h_1 + 1 := ⟨_, rfl⟩
          have qx_13 : x_13.toInt = v3_h_1.toInt + 1 := by have q0 := ib_hi x_3; have qa := ib_lo v3_h_1; rw [ex_13]; exact ii_add (by omega) (by omega)
          refine lv_iinc (v := x_13) (lv' := [(3, .int x_13), (4, .int x_8), (0, .ref a0), (2, .int v2_h_1)]) hx hb dX11_addLinks_71 hl (k := 3) rfl (by rw [ex_13]; rfl) (by decide) rfl (fun ls hl => hp_n (n := 74) rfl ?_)
          refine lv_goto (tgt := 4) hx hb dX11_addLinks_74 (by decide) ?_
          exact ih4 _ (by have q0 := ib_hi x_3; have q1 := ib_lo x_3; have qa := ib_hi v3_h_1; have qb := ib_lo v3_h_1; have qc : (v3_h_1 + 1).toInt = v3_h_1.toInt + (1 : Int32).toInt := ii_add (by omega) (by omega); rw [ex_13]; omega) αh_1 Hh_9 Lh_9 Bh_9 v2_h_1 x_13 (by omega) ls (lv_sub hl [2, 3, 0] rfl) rfl
        ·
          have jc_12 := il_nlt c_12
          refine lv_iload_n hx hb dX11_addLinks_51 rfl (lv_at hl 2 rfl) (hp_n (n := 52) rfl ?_)
          refine lv_aload_n hx hb dX11_addLinks_52 rfl (lv_at hl 1 rfl) (hp_n (n := 53) rfl ?_)
          refine q_getr (κ := 12) (k := 17) (φ := 617) (pc' := 56) C Bh_9 (cw_k Bh_9.2.2 k0) fl_X11_86 rfl rfl rfl (cw_r Bh_9.2.2 k0 rfl rfl (by decide) (by decide)) dX11_addLinks_53 rfl (fun b_14 eb_14 kb_14 => ?_)
          refine q_alen (κ := 26) (t := 0) (n := 256) (x := 256) (ty := .int) (pc' := 57) C Bh_9 (cw_k Bh_9.2.2 kb_14) (by decide) rfl rfl rfl dX11_addLinks_56 rfl ?_
          refine lv_icmp_ge (tgt := 71) hx hb dX11_addLinks_57 (by decide) (fun c_15 => ?_) (fun c_15 => hp_n (n := 60) rfl ?_)
          ·
            have jc_15 := il_le c_15
            obtain ⟨x_16, ex_16⟩ : ∃ y : Int32, y = v3_h_1 + 1 := ⟨_, rfl⟩
            have qx_16 : x_16.toInt = v3_h_1.toInt + 1 := by have q0 := ib_hi x_3; have qa := ib_lo v3_h_1; rw [ex_16]; exact ii_add (by omega) (by omega)
            refine lv_iinc (v := x_16) (lv' := [(3, .int x_16), (4, .int x_8), (0, .ref a0), (2, .int v2_h_1)]) hx hb dX11_addLinks_71 hl (k := 3) rfl (by rw [ex_16]; rfl) (by decide) rfl (fun ls hl => hp_n (n := 74) rfl ?_)
            refine lv_goto (tgt := 4) hx hb dX11_addLinks_74 (by decide) ?_
            exact ih4 _ (by have q0 := ib_hi x_3; have q1 := ib_lo x_3; have qa := ib_hi v3_h_1; have qb := ib_lo v3_h_1; have qc : (v3_h_1 + 1).toInt = v3_h_1.toInt + (1 : Int32).toInt := ii_add (by omega) (by omega); rw [ex_16]; omega) αh_1 Hh_9 Lh_9 Bh_9 v2_h_1 x_16 (by omega) ls (lv_sub hl [2, 3, 0] rfl) rfl
          ·
            have jc_15 := il_nle c_15
            refine lv_aload_n hx hb dX11_addLinks_60 rfl (lv_at hl 1 rfl) (hp_n (n := 61) rfl ?_)
            refine q_gets (κ := 12) (k := 17) (φ := 617) (pc' := 64) C Bh_9 (cw_k Bh_9.2.2 k0) fl_X11_86 rfl rfl rfl eb_14 dX11_addLinks_61 rfl ?_
            refine lv_iload_n hx hb dX11_addLinks_64 rfl (lv_at hl 2 rfl) (hp_n (n := 65) rfl ?_)
            refine lv_iload hx hb dX11_addLinks_65 (lv_at hl 0 rfl) (hp_n (n := 67) rfl ?_)
            refine q_ias (κ := 26) (n := 256) (pc' := 68) C Bh_9 (cw_k Bh_9.2.2 kb_14) (by decide) rfl (vi_of (by omega) (by omega)) rfl (cw_sE Bh_9.2.2 (by decide)) dX11_addLinks_67 rfl (fun αh_17 Hh_17 Lh_17 eh_17 Bh_17 => ?_)
            obtain ⟨x_18, ex_18⟩ : ∃ y : Int32, y = v2_h_1 + 1 := ⟨_, rfl⟩
            have qx_18 : x_18.toInt = v2_h_1.toInt + 1 := by have qa := ib_lo v2_h_1; rw [ex_18]; exact ii_add (by omega) (by omega)
            refine lv_iinc (v := x_18) (lv' := [(2, .int x_18), (4, .int x_8), (0, .ref a0), (3, .int v3_h_1)]) hx hb dX11_addLinks_68 hl (k := 2) rfl (by rw [ex_18]; rfl) (by decide) rfl (fun ls hl => hp_n (n := 71) rfl ?_)
            obtain ⟨x_19, ex_19⟩ : ∃ y : Int32, y = v3_h_1 + 1 := ⟨_, rfl⟩
            have qx_19 : x_19.toInt = v3_h_1.toInt + 1 := by have q0 := ib_hi x_3; have qa := ib_lo v3_h_1; rw [ex_19]; exact ii_add (by omega) (by omega)
            refine lv_iinc (v := x_19) (lv' := [(3, .int x_19), (2, .int x_18), (4, .int x_8), (0, .ref a0)]) hx hb dX11_addLinks_71 hl (k := 3) rfl (by rw [ex_19]; rfl) (by decide) rfl (fun ls hl => hp_n (n := 74) rfl ?_)
            refine lv_goto (tgt := 4) hx hb dX11_addLinks_74 (by decide) ?_
            exact ih4 _ (by have q0 := ib_hi x_3; have q1 := ib_lo x_3; have qa := ib_hi v3_h_1; have qb := ib_lo v3_h_1; have qc : (v3_h_1 + 1).toInt = v3_h_1.toInt + (1 : Int32).toInt := ii_add (by omega) (by omega); rw [ex_19]; omega) αh_17 Hh_17 Lh_17 Bh_17 x_18 x_19 (by omega) ls (lv_sub hl [3, 1, 0] rfl) rfl
  refine lv_istore_n (lv' := [(3, .int 0), (2, .int a1), (0, .ref a0), (1, .int a1)]) hx hb dX11_addLinks_3 rfl hl (by decide) rfl (fun ls hl => hp_n (n := 4) rfl ?_)
  exact J4 _ α s.heap [] B a1 0 (by omega) ls (lv_sub hl [2, 1, 0] rfl) rfl
abbrev w_X11_chain : cw_W := ([453, 454, 600], [], [21, 22, 23, 26], [])
set_option maxRecDepth 100000 in
set_option maxHeartbeats 4000000 in
theorem t_X11_chain (Γ : hp_G) (l : Launch) (α : hp_T) (g : GC α) (a0 : Nat) (k0 : hp_K α a0 = 12) (a1 : Int32) (a2 : Int32) : Met l yX11_chain (hp_ws yX11_chain cX11_chain 9 (some .int)) (hp_rm 4 0 0) (hp_Pc Γ α [.ref a0, .int a1, .int a2]) (hp_Qi Γ (fun r β => cw w_X11_chain α β)) 0 0 (hp_A Γ) := by
  refine hp_start (by decide) ?_
  intro p e s m below meth c C hr hlk B0 hnm
  have C : hp_C Γ p m c cX11_chain 9 s ([.ref a0, .int a1, .int a2] : List Value).toArray RX11 := C
  have hx := C.1.1
  have hb := C.1.2.1
  have hown := C.1.2.2.2.1
  have hts := C.1.2.2.2.2
  have B : hp_B Γ (cw w_X11_chain) s α α s.heap [] := ⟨B0.1, B0.2.1, cw_rf g⟩
  have litm1 : ((-1) : Int32).toInt = (-1) := by decide
  have lit0 : (0 : Int32).toInt = 0 := by decide
  have lit1 : (1 : Int32).toInt = 1 := by decide
  have lit2 : (2 : Int32).toInt = 2 := by decide
  have lit16 : (16 : Int32).toInt = 16 := by decide
  have hl := lv_entry ([.ref a0, .int a1, .int a2]) (n := 9) (Nat.le_of_ble_eq_true rfl)
  show W p l e (hp_rm 4 0 0) s m ([.ref a0, .int a1, .int a2] : List Value).toArray below meth c s.heap [] 0 0 (MQ below (hp_Qi Γ (fun r β => cw w_X11_chain α β)) ([.ref a0, .int a1, .int a2] : List Value).toArray s 0 0 (hp_A Γ)) (entryFrame m ([.ref a0, .int a1, .int a2] : List Value).toArray 9)
  rw [lg_entry_eq]
  generalize (lg_sl ([.ref a0, .int a1, .int a2]) ++ List.replicate (9 - (lg_sl ([.ref a0, .int a1, .int a2])).length) Slot.unset).toArray = ls at hl ⊢
  have hl : lv_has ls 9 [(0, .ref a0), (1, .int a1), (2, .int a2)] := hl
  refine lv_iload_n hx hb dX11_chain_0 rfl (lv_at hl 2 rfl) (hp_n (n := 1) rfl ?_)
  have J9 : ∀ (Hh_1 : Heap) (Lh_1 : List Loc) (Bh_1 : hp_B Γ (cw w_X11_chain) s α α Hh_1 Lh_1) (ls : Array Slot) (hl : lv_has ls 9 [(0, .ref a0)]), W p l e (hp_rm 4 0 0) s m ([.ref a0, .int a1, .int a2] : List Value).toArray below meth c Hh_1 Lh_1 0 0 (MQ below (hp_Qi Γ (fun r β => cw w_X11_chain α β)) ([.ref a0, .int a1, .int a2] : List Value).toArray s 0 0 (hp_A Γ)) (F0 m 9 ls []) := by
    intro Hh_1 Lh_1 Bh_1 ls hl
    refine lv_aload_n hx hb dX11_chain_9 rfl (lv_at hl 0 rfl) (hp_n (n := 10) rfl ?_)
    refine lv_iconst (v := 1) hx hb dX11_chain_10 (by decide) (hp_n (n := 11) rfl ?_)
    refine q_ci (pc' := 14) Bh_1 (hp_runV (As := [.int 1]) (rest := []) C Bh_1 (t_X11_refuse Γ l α Bh_1.2.2.1 a0 (cw_k Bh_1.2.2 k0) 1) lb_X11_refuse lv_X11_refuse lk_X11_98 (cw_k Bh_1.2.2 k0) rfl (by decide) rfl hl.1 rfl (Nat.le_of_ble_eq_true rfl) dX11_chain_11 ⟨Nat.le_refl _, Nat.le_refl _⟩) (fun _ _ h => cw_tr Bh_1.2.2 h (by decide)) rfl (fun rh_2 αh_2 Hh_2 Lh_2 ph_2 Bh_2 => ?_)
    exact q_iret C Bh_2 hr hlk Bh_2.2.2 dX11_chain_14
  refine lv_if_lt (tgt := 9) hx hb dX11_chain_1 (by decide) (fun c_3 => ?_) (fun c_3 => hp_n (n := 4) rfl ?_)
  ·
    have jc_3 := il_lt c_3
    exact J9 s.heap [] B ls (lv_sub hl [0] rfl)
  ·
    have jc_3 := il_nlt c_3
    refine lv_iload_n hx hb dX11_chain_4 rfl (lv_at hl 2 rfl) (hp_n (n := 5) rfl ?_)
    refine lv_iconst (v := 2) hx hb dX11_chain_5 (by decide) (hp_n (n := 6) rfl ?_)
    refine lv_icmp_le (tgt := 15) hx hb dX11_chain_6 (by decide) (fun c_4 => ?_) (fun c_4 => hp_n (n := 9) rfl ?_)
    ·
      have jc_4 := il_le c_4
      refine lv_aload_n hx hb dX11_chain_15 rfl (lv_at hl 0 rfl) (hp_n (n := 16) rfl ?_)
      refine q_getr (κ := 12) (k := 1) (φ := 601) (pc' := 19) C B (cw_k B.2.2 k0) fl_X11_16 rfl rfl rfl (cw_r B.2.2 k0 rfl rfl (by decide) (by decide)) dX11_chain_16 rfl (fun b_5 eb_5 kb_5 => ?_)
      refine lv_iload_n hx hb dX11_chain_19 rfl (lv_at hl 1 rfl) (hp_n (n := 20) rfl ?_)
      refine q_cq (pc' := 23) B (hp_runV (As := [.int a1]) (rest := []) C B (t_X10_logAt Γ l α B.2.2.1 b_5 (cw_k B.2.2 kb_5) a1) lb_X10_logAt lv_X10_logAt lk_X11_163 (cw_k B.2.2 kb_5) rfl (by decide) rfl hl.1 rfl (Nat.le_of_ble_eq_true rfl) dX11_chain_20 ⟨Nat.le_refl _, Nat.le_refl _⟩) (fun _ _ h => by rw [h.1]; exact B.2.2) rfl (fun rh_6 αh_6 Hh_6 Lh_6 ph_6 Bh_6 => ?_)
      rw [ph_6.1] at Bh_6
      rcases rh_6 with _ | bh_6
      ·
        refine lv_ifnonnullN hx hb dX11_chain_23 (hp_n (n := 26) rfl ?_)
        refine lv_aload_n hx hb dX11_chain_26 rfl (lv_at hl 0 rfl) (hp_n (n := 27) rfl ?_)
        refine lv_iconst (v := 2) hx hb dX11_chain_27 (by decide) (hp_n (n := 28) rfl ?_)
        refine q_ci (pc' := 31) Bh_6 (hp_runV (As := [.int 2]) (rest := []) C Bh_6 (t_X11_refuse Γ l α Bh_6.2.2.1 a0 (cw_k Bh_6.2.2 k0) 2) lb_X11_refuse lv_X11_refuse lk_X11_98 (cw_k Bh_6.2.2 k0) rfl (by decide) rfl hl.1 rfl (Nat.le_of_ble_eq_true rfl) dX11_chain_28 ⟨Nat.le_refl _, Nat.le_refl _⟩) (fun _ _ h => cw_tr Bh_6.2.2 h (by decide)) rfl (fun rh_7 αh_7 Hh_7 Lh_7 ph_7 Bh_7 => ?_)
        exact q_iret C Bh_7 hr hlk Bh_7.2.2 dX11_chain_31
      ·
        have kbh_6 : hp_K α bh_6 = 3 := cw_k' Bh_6.2.2 (ph_6.2 bh_6 rfl)
        refine lv_ifnonnull (tgt := 32) hx hb dX11_chain_23 (by decide) ?_
        refine lv_iconst (v := 0) hx hb dX11_chain_32 (by decide) (hp_n (n := 33) rfl ?_)
        refine lv_istore_n (lv' := [(3, .int 0), (0, .ref a0), (1, .int a1), (2, .int a2)]) hx hb dX11_chain_33 rfl hl (by decide) rfl (fun ls hl => hp_n (n := 34) rfl ?_)
        refine lv_iconst (v := 0) hx hb dX11_chain_34 (by decide) (hp_n (n := 35) rfl ?_)
        refine lv_istore (lv' := [(4, .int 0), (3, .int 0), (0, .ref a0), (1, .int a1), (2, .int a2)]) hx hb dX11_chain_35 hl (by decide) rfl (fun ls hl => hp_n (n := 37) rfl ?_)
        refine lv_iconst (v := 0) hx hb dX11_chain_37 (by decide) (hp_n (n := 38) rfl ?_)
        refine lv_istore (lv' := [(5, .int 0), (4, .int 0), (3, .int 0), (0, .ref a0), (1, .int a1), (2, .int a2)]) hx hb dX11_chain_38 hl (by decide) rfl (fun ls hl => hp_n (n := 40) rfl ?_)
        refine lv_iconst (v := (-1)) hx hb dX11_chain_40 (by decide) (hp_n (n := 41) rfl ?_)
        refine lv_istore (lv' := [(6, .int (-1)), (5, .int 0), (4, .int 0), (3, .int 0), (0, .ref a0), (1, .int a1), (2, .int a2)]) hx hb dX11_chain_41 hl (by decide) rfl (fun ls hl => hp_n (n := 43) rfl ?_)
        refine lv_iconst (v := 0) hx hb dX11_chain_43 (by decide) (hp_n (n := 44) rfl ?_)
        have J46 : ∀ (nq : Nat) (αh_8 : hp_T) (Hh_8 : Heap) (Lh_8 : List Loc) (Bh_8 : hp_B Γ (cw w_X11_chain) s α αh_8 Hh_8 Lh_8) (v3_h_8 : Int32) (v4_h_8 : Int32) (v5_h_8 : Int32) (v6_h_8 : Int32) (v7_h_8 : Int32) (ih_8_0 : 0 ≤ v7_h_8.toInt) (ls : Array Slot) (hl : lv_has ls 9 [(0, .ref a0), (1, .int a1), (2, .int a2), (3, .int v3_h_8), (4, .int v4_h_8), (5, .int v5_h_8), (6, .int v6_h_8), (7, .int v7_h_8)]) (hmu46 : (2147483647 - v7_h_8.toInt).toNat = nq), W p l e (hp_rm 4 0 0) s m ([.ref a0, .int a1, .int a2] : List Value).toArray below meth c Hh_8 Lh_8 0 0 (MQ below (hp_Qi Γ (fun r β => cw w_X11_chain α β)) ([.ref a0, .int a1, .int a2] : List Value).toArray s 0 0 (hp_A Γ)) (F0 m 46 ls []) := by
          intro nq
          induction nq using Nat.strongRecOn with
          | ind nq ih46 =>
          intro αh_8 Hh_8 Lh_8 Bh_8 v3_h_8 v4_h_8 v5_h_8 v6_h_8 v7_h_8 ih_8_0 ls hl hmu46
          have inv46_0 := ih_8_0
          refine lv_iload hx hb dX11_chain_46 (lv_at hl 7 rfl) (hp_n (n := 48) rfl ?_)
          refine lv_bipush (v := 16) hx hb dX11_chain_48 (by decide) (hp_n (n := 50) rfl ?_)
          have J124 : ∀ (Hh_9 : Heap) (Lh_9 : List Loc) (Bh_9 : hp_B Γ (cw w_X11_chain) s α αh_8 Hh_9 Lh_9) (ls : Array Slot) (hl : lv_has ls 9 [(0, .ref a0), (2, .int a2), (3, .int v3_h_8), (4, .int v4_h_8), (5, .int v5_h_8)]), W p l e (hp_rm 4 0 0) s m ([.ref a0, .int a1, .int a2] : List Value).toArray below meth c Hh_9 Lh_9 0 0 (MQ below (hp_Qi Γ (fun r β => cw w_X11_chain α β)) ([.ref a0, .int a1, .int a2] : List Value).toArray s 0 0 (hp_A Γ)) (F0 m 124 ls []) := by
            intro Hh_9 Lh_9 Bh_9 ls hl
            refine lv_iload_n hx hb dX11_chain_124 rfl (lv_at hl 1 rfl) (hp_n (n := 125) rfl ?_)
            refine lv_if_ne (tgt := 134) hx hb dX11_chain_125 (by decide) (fun c_10 => ?_) (fun c_10 => hp_n (n := 128) rfl ?_)
            ·
              have jc_10 := il_ne c_10
              refine lv_aload_n hx hb dX11_chain_134 rfl (lv_at hl 0 rfl) (hp_n (n := 135) rfl ?_)
              refine lv_iload_n hx hb dX11_chain_135 rfl (lv_at hl 1 rfl) (hp_n (n := 136) rfl ?_)
              refine lv_iconst (v := 1) hx hb dX11_chain_136 (by decide) (hp_n (n := 137) rfl ?_)
              refine lv_icmp_ne (tgt := 145) hx hb dX11_chain_137 (by decide) (fun c_11 => ?_) (fun c_11 => hp_n (n := 140) rfl ?_)
              ·
                have jc_11 := il_ne c_11
                refine lv_iload hx hb dX11_chain_145 (lv_at hl 4 rfl) (hp_n (n := 147) rfl ?_)
                refine q_ci (pc' := 150) Bh_9 (hp_runV (As := [.int v5_h_8]) (rest := []) C Bh_9 (t_X11_answer Γ l αh_8 Bh_9.2.2.1 a0 (cw_k Bh_9.2.2 k0) v5_h_8) lb_X11_answer lv_X11_answer lk_X11_115 (cw_k Bh_9.2.2 k0) rfl (by decide) rfl hl.1 rfl (Nat.le_of_ble_eq_true rfl) dX11_chain_147 ⟨Nat.le_refl _, Nat.le_refl _⟩) (fun _ _ h => cw_tr Bh_9.2.2 h (by decide)) rfl (fun rh_12 αh_12 Hh_12 Lh_12 ph_12 Bh_12 => ?_)
                exact q_iret C Bh_12 hr hlk Bh_12.2.2 dX11_chain_150
              ·
                have jc_11 := il_eq c_11
                refine lv_iload hx hb dX11_chain_140 (lv_at hl 3 rfl) (hp_n (n := 142) rfl ?_)
                refine lv_goto (tgt := 147) hx hb dX11_chain_142 (by decide) ?_
                refine q_ci (pc' := 150) Bh_9 (hp_runV (As := [.int v4_h_8]) (rest := []) C Bh_9 (t_X11_answer Γ l αh_8 Bh_9.2.2.1 a0 (cw_k Bh_9.2.2 k0) v4_h_8) lb_X11_answer lv_X11_answer lk_X11_115 (cw_k Bh_9.2.2 k0) rfl (by decide) rfl hl.1 rfl (Nat.le_of_ble_eq_true rfl) dX11_chain_147 ⟨Nat.le_refl _, Nat.le_refl _⟩) (fun _ _ h => cw_tr Bh_9.2.2 h (by decide)) rfl (fun rh_13 αh_13 Hh_13 Lh_13 ph_13 Bh_13 => ?_)
                exact q_iret C Bh_13 hr hlk Bh_13.2.2 dX11_chain_150
            ·
              have jc_10 := il_eq c_10
              refine lv_aload_n hx hb dX11_chain_128 rfl (lv_at hl 0 rfl) (hp_n (n := 129) rfl ?_)
              refine lv_iload_n hx hb dX11_chain_129 rfl (lv_at hl 2 rfl) (hp_n (n := 130) rfl ?_)
              refine q_ci (pc' := 133) Bh_9 (hp_runV (As := [.int v3_h_8]) (rest := []) C Bh_9 (t_X11_answer Γ l αh_8 Bh_9.2.2.1 a0 (cw_k Bh_9.2.2 k0) v3_h_8) lb_X11_answer lv_X11_answer lk_X11_115 (cw_k Bh_9.2.2 k0) rfl (by decide) rfl hl.1 rfl (Nat.le_of_ble_eq_true rfl) dX11_chain_130 ⟨Nat.le_refl _, Nat.le_refl _⟩) (fun _ _ h => cw_tr Bh_9.2.2 h (by decide)) rfl (fun rh_14 αh_14 Hh_14 Lh_14 ph_14 Bh_14 => ?_)
              exact q_iret C Bh_14 hr hlk Bh_14.2.2 dX11_chain_133
          refine lv_icmp_gt (tgt := 124) hx hb dX11_chain_50 (by decide) (fun c_15 => ?_) (fun c_15 => hp_n (n := 53) rfl ?_)
          ·
            have jc_15 := il_lt c_15
            exact J124 Hh_8 Lh_8 Bh_8 ls (lv_sub hl [0, 2, 3, 4, 5] rfl)
          ·
            have jc_15 := il_nlt c_15
            refine lv_aload_n hx hb dX11_chain_53 rfl (lv_at hl 0 rfl) (hp_n (n := 54) rfl ?_)
            refine q_getr (κ := 12) (k := 1) (φ := 601) (pc' := 57) C Bh_8 (cw_k Bh_8.2.2 k0) fl_X11_16 rfl rfl rfl (cw_r Bh_8.2.2 k0 rfl rfl (by decide) (by decide)) dX11_chain_54 rfl (fun b_16 eb_16 kb_16 => ?_)
            refine lv_iload_n hx hb dX11_chain_57 rfl (lv_at hl 1 rfl) (hp_n (n := 58) rfl ?_)
            refine lv_iload hx hb dX11_chain_58 (lv_at hl 6 rfl) (hp_n (n := 60) rfl ?_)
            refine q_ci (pc' := 63) Bh_8 (hp_runV (As := [.int a1, .int v6_h_8]) (rest := []) C Bh_8 (t_X10_leastFrozenAbove Γ l αh_8 Bh_8.2.2.1 b_16 (cw_k Bh_8.2.2 kb_16) a1 v6_h_8) lb_X10_leastFrozenAbove lv_X10_leastFrozenAbove lk_X11_403 (cw_k Bh_8.2.2 kb_16) rfl (by decide) rfl hl.1 rfl (Nat.le_of_ble_eq_true rfl) dX11_chain_60 ⟨Nat.le_refl _, Nat.le_refl _⟩) (fun _ _ h => by rw [h]; exact Bh_8.2.2) rfl (fun rh_17 αh_17 Hh_17 Lh_17 ph_17 Bh_17 => ?_)
            rw [ph_17] at Bh_17
            refine lv_istore (lv' := [(8, .int rh_17), (0, .ref a0), (1, .int a1), (2, .int a2), (3, .int v3_h_8), (4, .int v4_h_8), (5, .int v5_h_8), (6, .int v6_h_8), (7, .int v7_h_8)]) hx hb dX11_chain_63 hl (by decide) rfl (fun ls hl => hp_n (n := 65) rfl ?_)
            refine lv_iload hx hb dX11_chain_65 (lv_at hl 0 rfl) (hp_n (n := 67) rfl ?_)
            refine lv_iconst (v := (-1)) hx hb dX11_chain_67 (by decide) (hp_n (n := 68) rfl ?_)
            refine lv_icmp_ne (tgt := 74) hx hb dX11_chain_68 (by decide) (fun c_18 => ?_) (fun c_18 => hp_n (n := 71) rfl ?_)
            ·
              have jc_18 := il_ne c_18
              obtain ⟨x_19, ex_19⟩ : ∃ y : Int32, y = v3_h_8 + 1 := ⟨_, rfl⟩
              refine lv_iinc (v := x_19) (lv' := [(3, .int x_19), (8, .int rh_17), (0, .ref a0), (1, .int a1), (2, .int a2), (4, .int v4_h_8), (5, .int v5_h_8), (6, .int v6_h_8), (7, .int v7_h_8)]) hx hb dX11_chain_74 hl (k := 4) rfl (by rw [ex_19]; rfl) (by decide) rfl (fun ls hl => hp_n (n := 77) rfl ?_)
              refine lv_iload hx hb dX11_chain_77 (lv_at hl 7 rfl) (hp_n (n := 79) rfl ?_)
              refine lv_iconst (v := (-1)) hx hb dX11_chain_79 (by decide) (hp_n (n := 80) rfl ?_)
              refine lv_icmp_eq (tgt := 114) hx hb dX11_chain_80 (by decide) (fun c_20 => ?_) (fun c_20 => hp_n (n := 83) rfl ?_)
              ·
                have jc_20 := il_eq c_20
                refine lv_iload hx hb dX11_chain_114 (lv_at hl 1 rfl) (hp_n (n := 116) rfl ?_)
                refine lv_istore (lv' := [(6, .int rh_17), (3, .int x_19), (8, .int rh_17), (0, .ref a0), (1, .int a1), (2, .int a2), (4, .int v4_h_8), (5, .int v5_h_8), (7, .int v7_h_8)]) hx hb dX11_chain_116 hl (by decide) rfl (fun ls hl => hp_n (n := 118) rfl ?_)
                obtain ⟨x_21, ex_21⟩ : ∃ y : Int32, y = v7_h_8 + 1 := ⟨_, rfl⟩
                have qx_21 : x_21.toInt = v7_h_8.toInt + 1 := by have qa := ib_lo v7_h_8; rw [ex_21]; exact ii_add (by omega) (by omega)
                refine lv_iinc (v := x_21) (lv' := [(7, .int x_21), (6, .int rh_17), (3, .int x_19), (8, .int rh_17), (0, .ref a0), (1, .int a1), (2, .int a2), (4, .int v4_h_8), (5, .int v5_h_8)]) hx hb dX11_chain_118 hl (k := 8) rfl (by rw [ex_21]; rfl) (by decide) rfl (fun ls hl => hp_n (n := 121) rfl ?_)
                refine lv_goto (tgt := 46) hx hb dX11_chain_121 (by decide) ?_
                exact ih46 _ (by have qa := ib_hi v7_h_8; have qb := ib_lo v7_h_8; have qc : (v7_h_8 + 1).toInt = v7_h_8.toInt + (1 : Int32).toInt := ii_add (by omega) (by omega); rw [ex_21]; omega) αh_8 Hh_17 Lh_17 Bh_17 x_19 v4_h_8 v5_h_8 rh_17 x_21 (by omega) ls (lv_sub hl [4, 5, 6, 2, 7, 8, 1, 0] rfl) rfl
              ·
                have jc_20 := il_ne c_20
                refine lv_aload_n hx hb dX11_chain_83 rfl (lv_at hl 2 rfl) (hp_n (n := 84) rfl ?_)
                refine q_getr (κ := 12) (k := 12) (φ := 612) (pc' := 87) C Bh_17 (cw_k Bh_17.2.2 k0) fl_X11_62 rfl rfl rfl (cw_r Bh_17.2.2 k0 rfl rfl (by decide) (by decide)) dX11_chain_84 rfl (fun b_22 eb_22 kb_22 => ?_)
                refine lv_iload hx hb dX11_chain_87 (lv_at hl 7 rfl) (hp_n (n := 89) rfl ?_)
                refine lv_iload hx hb dX11_chain_89 (lv_at hl 1 rfl) (hp_n (n := 91) rfl ?_)
                refine q_cv (pc' := 94) Bh_17 (hp_runV (As := [.int v6_h_8, .int rh_17]) (rest := []) C Bh_17 (t_X8_toGrowth Γ l αh_8 Bh_17.2.2.1 b_22 (cw_k Bh_17.2.2 kb_22) v6_h_8 rh_17) lb_X8_toGrowth lv_X8_toGrowth lk_X11_274 (cw_k Bh_17.2.2 kb_22) rfl (by decide) rfl hl.1 rfl (Nat.le_of_ble_eq_true rfl) dX11_chain_91 ⟨Nat.le_refl _, Nat.le_refl _⟩) (fun _ h => cw_tr Bh_17.2.2 h (by decide)) rfl (fun αh_23 Hh_23 Lh_23 ph_23 Bh_23 => ?_)
                refine lv_iload hx hb dX11_chain_94 (lv_at hl 5 rfl) (hp_n (n := 96) rfl ?_)
                refine lv_aload_n hx hb dX11_chain_96 rfl (lv_at hl 2 rfl) (hp_n (n := 97) rfl ?_)
                have t_24 : b_22 = hp_R αh_23 612 a0 := by rw [cw_R ph_23 a0 (by decide)]; exact eb_22
                refine q_gets (κ := 12) (k := 12) (φ := 612) (pc' := 100) C Bh_23 (cw_k Bh_23.2.2 k0) fl_X11_62 rfl rfl rfl t_24 dX11_chain_97 rfl ?_
                refine q_geti (κ := 9) (k := 3) (φ := 453) (pc' := 103) C Bh_23 (cw_k Bh_23.2.2 kb_22) fl_X11_312 rfl rfl rfl dX11_chain_100 rfl (fun x_25 ex_25 => ?_)
                obtain ⟨gx_25a, gx_25b⟩ : 0 ≤ x_25.toInt ∧ x_25.toInt ≤ 64 := by rw [ex_25]; exact Bh_23.2.2.1.1 453 b_22 rfl
                refine lv_iadd hx hb dX11_chain_103 (hp_n (n := 104) rfl (lv_topi (fun x_26 ex_26 => ?_)))
                refine lv_istore (lv' := [(4, .int x_26), (3, .int x_19), (8, .int rh_17), (0, .ref a0), (1, .int a1), (2, .int a2), (5, .int v5_h_8), (6, .int v6_h_8), (7, .int v7_h_8)]) hx hb dX11_chain_104 hl (by decide) rfl (fun ls hl => hp_n (n := 106) rfl ?_)
                refine lv_aload_n hx hb dX11_chain_106 rfl (lv_at hl 3 rfl) (hp_n (n := 107) rfl ?_)
                refine lv_iload hx hb dX11_chain_107 (lv_at hl 6 rfl) (hp_n (n := 109) rfl ?_)
                refine q_ci (pc' := 112) Bh_23 (hp_runV (As := [.int v5_h_8]) (rest := []) C Bh_23 (t_X11_addLinks Γ l αh_23 Bh_23.2.2.1 a0 (cw_k Bh_23.2.2 k0) v5_h_8) lb_X11_addLinks lv_X11_addLinks lk_X11_406 (cw_k Bh_23.2.2 k0) rfl (by decide) rfl hl.1 rfl (Nat.le_of_ble_eq_true rfl) dX11_chain_109 ⟨Nat.le_refl _, Nat.le_refl _⟩) (fun _ _ h => cw_tr Bh_23.2.2 h (by decide)) rfl (fun rh_27 αh_27 Hh_27 Lh_27 ph_27 Bh_27 => ?_)
                refine lv_istore (lv' := [(5, .int rh_27), (4, .int x_26), (3, .int x_19), (8, .int rh_17), (0, .ref a0), (1, .int a1), (2, .int a2), (6, .int v6_h_8), (7, .int v7_h_8)]) hx hb dX11_chain_112 hl (by decide) rfl (fun ls hl => hp_n (n := 114) rfl ?_)
                refine lv_iload hx hb dX11_chain_114 (lv_at hl 3 rfl) (hp_n (n := 116) rfl ?_)
                refine lv_istore (lv' := [(6, .int rh_17), (5, .int rh_27), (4, .int x_26), (3, .int x_19), (8, .int rh_17), (0, .ref a0), (1, .int a1), (2, .int a2), (7, .int v7_h_8)]) hx hb dX11_chain_116 hl (by decide) rfl (fun ls hl => hp_n (n := 118) rfl ?_)
                obtain ⟨x_28, ex_28⟩ : ∃ y : Int32, y = v7_h_8 + 1 := ⟨_, rfl⟩
                have qx_28 : x_28.toInt = v7_h_8.toInt + 1 := by have qa := ib_lo v7_h_8; rw [ex_28]; exact ii_add (by omega) (by omega)
                refine lv_iinc (v := x_28) (lv' := [(7, .int x_28), (6, .int rh_17), (5, .int rh_27), (4, .int x_26), (3, .int x_19), (8, .int rh_17), (0, .ref a0), (1, .int a1), (2, .int a2)]) hx hb dX11_chain_118 hl (k := 8) rfl (by rw [ex_28]; rfl) (by decide) rfl (fun ls hl => hp_n (n := 121) rfl ?_)
                refine lv_goto (tgt := 46) hx hb dX11_chain_121 (by decide) ?_
                exact ih46 _ (by have qa := ib_hi v7_h_8; have qb := ib_lo v7_h_8; have qc : (v7_h_8 + 1).toInt = v7_h_8.toInt + (1 : Int32).toInt := ii_add (by omega) (by omega); rw [ex_28]; omega) αh_27 Hh_27 Lh_27 Bh_27 x_19 x_26 rh_27 rh_17 x_28 (by omega) ls (lv_sub hl [6, 7, 8, 4, 3, 2, 1, 0] rfl) rfl
            ·
              have jc_18 := il_eq c_18
              refine lv_goto (tgt := 124) hx hb dX11_chain_71 (by decide) ?_
              exact J124 Hh_17 Lh_17 Bh_17 ls (lv_sub hl [1, 3, 4, 5, 6] rfl)
        refine lv_istore (lv' := [(7, .int 0), (6, .int (-1)), (5, .int 0), (4, .int 0), (3, .int 0), (0, .ref a0), (1, .int a1), (2, .int a2)]) hx hb dX11_chain_44 hl (by decide) rfl (fun ls hl => hp_n (n := 46) rfl ?_)
        exact J46 _ α Hh_6 Lh_6 Bh_6 0 0 0 (-1) 0 (by omega) ls (lv_sub hl [5, 6, 7, 4, 3, 2, 1, 0] rfl) rfl
    ·
      have jc_4 := il_nle c_4
      exact J9 s.heap [] B ls (lv_sub hl [0] rfl)
abbrev w_X11_split : cw_W := ([600], [], [33], [])
set_option maxRecDepth 100000 in
set_option maxHeartbeats 4000000 in
theorem t_X11_split (Γ : hp_G) (l : Launch) (α : hp_T) (g : GC α) (a0 : Nat) (k0 : hp_K α a0 = 12) (a1 : Int32) : Met l yX11_split (hp_ws yX11_split cX11_split 6 (some .int)) (hp_rm 5 0 0) (hp_Pc Γ α [.ref a0, .int a1]) (hp_Qi Γ (fun r β => cw w_X11_split α β)) 0 0 (hp_A Γ) := by
  refine hp_start (by decide) ?_
  intro p e s m below meth c C hr hlk B0 hnm
  have C : hp_C Γ p m c cX11_split 6 s ([.ref a0, .int a1] : List Value).toArray RX11 := C
  have hx := C.1.1
  have hb := C.1.2.1
  have hown := C.1.2.2.2.1
  have hts := C.1.2.2.2.2
  have B : hp_B Γ (cw w_X11_split) s α α s.heap [] := ⟨B0.1, B0.2.1, cw_rf g⟩
  have litm1 : ((-1) : Int32).toInt = (-1) := by decide
  have lit0 : (0 : Int32).toInt = 0 := by decide
  have lit1 : (1 : Int32).toInt = 1 := by decide
  have lit4 : (4 : Int32).toInt = 4 := by decide
  have lit5 : (5 : Int32).toInt = 5 := by decide
  have lit10 : (10 : Int32).toInt = 10 := by decide
  have hl := lv_entry ([.ref a0, .int a1]) (n := 6) (Nat.le_of_ble_eq_true rfl)
  show W p l e (hp_rm 5 0 0) s m ([.ref a0, .int a1] : List Value).toArray below meth c s.heap [] 0 0 (MQ below (hp_Qi Γ (fun r β => cw w_X11_split α β)) ([.ref a0, .int a1] : List Value).toArray s 0 0 (hp_A Γ)) (entryFrame m ([.ref a0, .int a1] : List Value).toArray 6)
  rw [lg_entry_eq]
  generalize (lg_sl ([.ref a0, .int a1]) ++ List.replicate (6 - (lg_sl ([.ref a0, .int a1])).length) Slot.unset).toArray = ls at hl ⊢
  have hl : lv_has ls 6 [(0, .ref a0), (1, .int a1)] := hl
  refine lv_iload_n hx hb dX11_split_0 rfl (lv_at hl 1 rfl) (hp_n (n := 1) rfl ?_)
  have J9 : ∀ (Hh_1 : Heap) (Lh_1 : List Loc) (Bh_1 : hp_B Γ (cw w_X11_split) s α α Hh_1 Lh_1) (ls : Array Slot) (hl : lv_has ls 6 [(0, .ref a0)]), W p l e (hp_rm 5 0 0) s m ([.ref a0, .int a1] : List Value).toArray below meth c Hh_1 Lh_1 0 0 (MQ below (hp_Qi Γ (fun r β => cw w_X11_split α β)) ([.ref a0, .int a1] : List Value).toArray s 0 0 (hp_A Γ)) (F0 m 9 ls []) := by
    intro Hh_1 Lh_1 Bh_1 ls hl
    refine lv_aload_n hx hb dX11_split_9 rfl (lv_at hl 0 rfl) (hp_n (n := 10) rfl ?_)
    refine lv_iconst (v := 1) hx hb dX11_split_10 (by decide) (hp_n (n := 11) rfl ?_)
    refine q_ci (pc' := 14) Bh_1 (hp_runV (As := [.int 1]) (rest := []) C Bh_1 (t_X11_refuse Γ l α Bh_1.2.2.1 a0 (cw_k Bh_1.2.2 k0) 1) lb_X11_refuse lv_X11_refuse lk_X11_98 (cw_k Bh_1.2.2 k0) rfl (by decide) rfl hl.1 rfl (Nat.le_of_ble_eq_true rfl) dX11_split_11 ⟨Nat.le_refl _, Nat.le_refl _⟩) (fun _ _ h => cw_tr Bh_1.2.2 h (by decide)) rfl (fun rh_2 αh_2 Hh_2 Lh_2 ph_2 Bh_2 => ?_)
    exact q_iret C Bh_2 hr hlk Bh_2.2.2 dX11_split_14
  refine lv_if_lt (tgt := 9) hx hb dX11_split_1 (by decide) (fun c_3 => ?_) (fun c_3 => hp_n (n := 4) rfl ?_)
  ·
    have jc_3 := il_lt c_3
    exact J9 s.heap [] B ls (lv_sub hl [0] rfl)
  ·
    have jc_3 := il_nlt c_3
    refine lv_iload_n hx hb dX11_split_4 rfl (lv_at hl 1 rfl) (hp_n (n := 5) rfl ?_)
    refine lv_iconst (v := 1) hx hb dX11_split_5 (by decide) (hp_n (n := 6) rfl ?_)
    refine lv_icmp_le (tgt := 15) hx hb dX11_split_6 (by decide) (fun c_4 => ?_) (fun c_4 => hp_n (n := 9) rfl ?_)
    ·
      have jc_4 := il_le c_4
      refine lv_iconst (v := 0) hx hb dX11_split_15 (by decide) (hp_n (n := 16) rfl ?_)
      refine lv_istore_n (lv' := [(2, .int 0), (0, .ref a0), (1, .int a1)]) hx hb dX11_split_16 rfl hl (by decide) rfl (fun ls hl => hp_n (n := 17) rfl ?_)
      refine lv_iconst (v := (-1)) hx hb dX11_split_17 (by decide) (hp_n (n := 18) rfl ?_)
      refine lv_istore_n (lv' := [(3, .int (-1)), (2, .int 0), (0, .ref a0), (1, .int a1)]) hx hb dX11_split_18 rfl hl (by decide) rfl (fun ls hl => hp_n (n := 19) rfl ?_)
      refine lv_iconst (v := 0) hx hb dX11_split_19 (by decide) (hp_n (n := 20) rfl ?_)
      have J22 : ∀ (nq : Nat) (αh_5 : hp_T) (Hh_5 : Heap) (Lh_5 : List Loc) (Bh_5 : hp_B Γ (cw w_X11_split) s α αh_5 Hh_5 Lh_5) (v2_h_5 : Int32) (v3_h_5 : Int32) (v4_h_5 : Int32) (ih_5_0 : 0 ≤ v4_h_5.toInt) (ls : Array Slot) (hl : lv_has ls 6 [(0, .ref a0), (1, .int a1), (2, .int v2_h_5), (3, .int v3_h_5), (4, .int v4_h_5)]) (hmu22 : (2147483647 - v4_h_5.toInt).toNat = nq), W p l e (hp_rm 5 0 0) s m ([.ref a0, .int a1] : List Value).toArray below meth c Hh_5 Lh_5 0 0 (MQ below (hp_Qi Γ (fun r β => cw w_X11_split α β)) ([.ref a0, .int a1] : List Value).toArray s 0 0 (hp_A Γ)) (F0 m 22 ls []) := by
        intro nq
        induction nq using Nat.strongRecOn with
        | ind nq ih22 =>
        intro αh_5 Hh_5 Lh_5 Bh_5 v2_h_5 v3_h_5 v4_h_5 ih_5_0 ls hl hmu22
        have inv22_0 := ih_5_0
        refine lv_iload hx hb dX11_split_22 (lv_at hl 4 rfl) (hp_n (n := 24) rfl ?_)
        refine lv_iconst (v := 4) hx hb dX11_split_24 (by decide) (hp_n (n := 25) rfl ?_)
        refine lv_icmp_ge (tgt := 100) hx hb dX11_split_25 (by decide) (fun c_6 => ?_) (fun c_6 => hp_n (n := 28) rfl ?_)
        ·
          have jc_6 := il_le c_6
          refine lv_iload_n hx hb dX11_split_100 rfl (lv_at hl 1 rfl) (hp_n (n := 101) rfl ?_)
          refine lv_if_ne (tgt := 110) hx hb dX11_split_101 (by decide) (fun c_7 => ?_) (fun c_7 => hp_n (n := 104) rfl ?_)
          ·
            have jc_7 := il_ne c_7
            refine lv_iload_n hx hb dX11_split_110 rfl (lv_at hl 2 rfl) (hp_n (n := 111) rfl ?_)
            refine lv_if_ne (tgt := 122) hx hb dX11_split_111 (by decide) (fun c_8 => ?_) (fun c_8 => hp_n (n := 114) rfl ?_)
            ·
              have jc_8 := il_ne c_8
              refine lv_aload_n hx hb dX11_split_122 rfl (lv_at hl 0 rfl) (hp_n (n := 123) rfl ?_)
              refine lv_iload_n hx hb dX11_split_123 rfl (lv_at hl 3 rfl) (hp_n (n := 124) rfl ?_)
              refine q_ci (pc' := 127) Bh_5 (hp_runV (As := [.int v3_h_5]) (rest := []) C Bh_5 (t_X11_answer Γ l αh_5 Bh_5.2.2.1 a0 (cw_k Bh_5.2.2 k0) v3_h_5) lb_X11_answer lv_X11_answer lk_X11_115 (cw_k Bh_5.2.2 k0) rfl (by decide) rfl hl.1 rfl (Nat.le_of_ble_eq_true rfl) dX11_split_124 ⟨Nat.le_refl _, Nat.le_refl _⟩) (fun _ _ h => cw_tr Bh_5.2.2 h (by decide)) rfl (fun rh_9 αh_9 Hh_9 Lh_9 ph_9 Bh_9 => ?_)
              exact q_iret C Bh_9 hr hlk Bh_9.2.2 dX11_split_127
            ·
              have jc_8 := il_eq c_8
              refine lv_aload_n hx hb dX11_split_114 rfl (lv_at hl 0 rfl) (hp_n (n := 115) rfl ?_)
              refine lv_iconst (v := 5) hx hb dX11_split_115 (by decide) (hp_n (n := 116) rfl ?_)
              refine q_ci (pc' := 119) Bh_5 (hp_runV (As := [.int 5]) (rest := []) C Bh_5 (t_X11_refuse Γ l αh_5 Bh_5.2.2.1 a0 (cw_k Bh_5.2.2 k0) 5) lb_X11_refuse lv_X11_refuse lk_X11_98 (cw_k Bh_5.2.2 k0) rfl (by decide) rfl hl.1 rfl (Nat.le_of_ble_eq_true rfl) dX11_split_116 ⟨Nat.le_refl _, Nat.le_refl _⟩) (fun _ _ h => cw_tr Bh_5.2.2 h (by decide)) rfl (fun rh_10 αh_10 Hh_10 Lh_10 ph_10 Bh_10 => ?_)
              refine lv_goto (tgt := 127) hx hb dX11_split_119 (by decide) ?_
              exact q_iret C Bh_10 hr hlk Bh_10.2.2 dX11_split_127
          ·
            have jc_7 := il_eq c_7
            refine lv_aload_n hx hb dX11_split_104 rfl (lv_at hl 0 rfl) (hp_n (n := 105) rfl ?_)
            refine lv_iload_n hx hb dX11_split_105 rfl (lv_at hl 2 rfl) (hp_n (n := 106) rfl ?_)
            refine q_ci (pc' := 109) Bh_5 (hp_runV (As := [.int v2_h_5]) (rest := []) C Bh_5 (t_X11_answer Γ l αh_5 Bh_5.2.2.1 a0 (cw_k Bh_5.2.2 k0) v2_h_5) lb_X11_answer lv_X11_answer lk_X11_115 (cw_k Bh_5.2.2 k0) rfl (by decide) rfl hl.1 rfl (Nat.le_of_ble_eq_true rfl) dX11_split_106 ⟨Nat.le_refl _, Nat.le_refl _⟩) (fun _ _ h => cw_tr Bh_5.2.2 h (by decide)) rfl (fun rh_11 αh_11 Hh_11 Lh_11 ph_11 Bh_11 => ?_)
            exact q_iret C Bh_11 hr hlk Bh_11.2.2 dX11_split_109
        ·
          have jc_6 := il_nle c_6
          refine lv_iload hx hb dX11_split_28 (lv_at hl 4 rfl) (hp_n (n := 30) rfl ?_)
          refine lv_iconst (v := 1) hx hb dX11_split_30 (by decide) (hp_n (n := 31) rfl ?_)
          refine lv_iadd hx hb dX11_split_31 (hp_n (n := 32) rfl (lv_topi (fun x_12 ex_12 => ?_)))
          have qx_12 : x_12.toInt = v4_h_5.toInt + 1 := by have qa := ib_lo v4_h_5; rw [ex_12]; exact ii_add (by omega) (by omega)
          have J34 : ∀ (nq : Nat) (αh_13 : hp_T) (Hh_13 : Heap) (Lh_13 : List Loc) (Bh_13 : hp_B Γ (cw w_X11_split) s α αh_13 Hh_13 Lh_13) (v2_h_13 : Int32) (v3_h_13 : Int32) (v5_h_13 : Int32) (ls : Array Slot) (hl : lv_has ls 6 [(0, .ref a0), (1, .int a1), (2, .int v2_h_13), (3, .int v3_h_13), (4, .int v4_h_5), (5, .int v5_h_13)]) (hmu34 : (2147483647 - v5_h_13.toInt).toNat = nq), W p l e (hp_rm 5 0 0) s m ([.ref a0, .int a1] : List Value).toArray below meth c Hh_13 Lh_13 0 0 (MQ below (hp_Qi Γ (fun r β => cw w_X11_split α β)) ([.ref a0, .int a1] : List Value).toArray s 0 0 (hp_A Γ)) (F0 m 34 ls []) := by
            intro nq
            induction nq using Nat.strongRecOn with
            | ind nq ih34 =>
            intro αh_13 Hh_13 Lh_13 Bh_13 v2_h_13 v3_h_13 v5_h_13 ls hl hmu34
            refine lv_iload hx hb dX11_split_34 (lv_at hl 5 rfl) (hp_n (n := 36) rfl ?_)
            refine lv_iconst (v := 4) hx hb dX11_split_36 (by decide) (hp_n (n := 37) rfl ?_)
            refine lv_icmp_ge (tgt := 94) hx hb dX11_split_37 (by decide) (fun c_14 => ?_) (fun c_14 => hp_n (n := 40) rfl ?_)
            ·
              have jc_14 := il_le c_14
              obtain ⟨x_15, ex_15⟩ : ∃ y : Int32, y = v4_h_5 + 1 := ⟨_, rfl⟩
              have qx_15 : x_15.toInt = v4_h_5.toInt + 1 := by have qa := ib_lo v4_h_5; rw [ex_15]; exact ii_add (by omega) (by omega)
              refine lv_iinc (v := x_15) (lv' := [(4, .int x_15), (0, .ref a0), (1, .int a1), (2, .int v2_h_13), (3, .int v3_h_13), (5, .int v5_h_13)]) hx hb dX11_split_94 hl (k := 4) rfl (by rw [ex_15]; rfl) (by decide) rfl (fun ls hl => hp_n (n := 97) rfl ?_)
              refine lv_goto (tgt := 22) hx hb dX11_split_97 (by decide) ?_
              exact ih22 _ (by have qa := ib_hi v4_h_5; have qb := ib_lo v4_h_5; have qc : (v4_h_5 + 1).toInt = v4_h_5.toInt + (1 : Int32).toInt := ii_add (by omega) (by omega); rw [ex_15]; omega) αh_13 Hh_13 Lh_13 Bh_13 v2_h_13 v3_h_13 x_15 (by omega) ls (lv_sub hl [1, 2, 3, 4, 0] rfl) rfl
            ·
              have jc_14 := il_nle c_14
              refine lv_aload_n hx hb dX11_split_40 rfl (lv_at hl 0 rfl) (hp_n (n := 41) rfl ?_)
              refine q_getr (κ := 12) (k := 1) (φ := 601) (pc' := 44) C Bh_13 (cw_k Bh_13.2.2 k0) fl_X11_16 rfl rfl rfl (cw_r Bh_13.2.2 k0 rfl rfl (by decide) (by decide)) dX11_split_41 rfl (fun b_16 eb_16 kb_16 => ?_)
              refine lv_aload_n hx hb dX11_split_44 rfl (lv_at hl 0 rfl) (hp_n (n := 45) rfl ?_)
              refine q_gets (κ := 12) (k := 1) (φ := 601) (pc' := 48) C Bh_13 (cw_k Bh_13.2.2 k0) fl_X11_16 rfl rfl rfl eb_16 dX11_split_45 rfl ?_
              refine lv_iload hx hb dX11_split_48 (lv_at hl 4 rfl) (hp_n (n := 50) rfl ?_)
              refine q_cq (pc' := 53) Bh_13 (hp_runV (As := [.int v4_h_5]) (rest := [.ref b_16]) C Bh_13 (t_X10_watcherAt Γ l αh_13 Bh_13.2.2.1 b_16 (cw_k Bh_13.2.2 kb_16) v4_h_5) lb_X10_watcherAt lv_X10_watcherAt lk_X11_220 (cw_k Bh_13.2.2 kb_16) rfl (by decide) rfl hl.1 rfl (Nat.le_of_ble_eq_true rfl) dX11_split_50 ⟨Nat.le_refl _, Nat.le_refl _⟩) (fun _ _ h => by rw [h.1]; exact Bh_13.2.2) rfl (fun rh_17 αh_17 Hh_17 Lh_17 ph_17 Bh_17 => ?_)
              rw [ph_17.1] at Bh_17
              rcases rh_17 with _ | bh_17
              ·
                refine lv_aload_n hx hb dX11_split_53 rfl (lv_at hl 0 rfl) (hp_n (n := 54) rfl ?_)
                refine q_gets (κ := 12) (k := 1) (φ := 601) (pc' := 57) C Bh_17 (cw_k Bh_17.2.2 k0) fl_X11_16 rfl rfl rfl eb_16 dX11_split_54 rfl ?_
                refine lv_iload hx hb dX11_split_57 (lv_at hl 5 rfl) (hp_n (n := 59) rfl ?_)
                refine q_cq (pc' := 62) Bh_17 (hp_runV (As := [.int v5_h_13]) (rest := [.null, .ref b_16]) C Bh_17 (t_X10_watcherAt Γ l αh_13 Bh_17.2.2.1 b_16 (cw_k Bh_17.2.2 kb_16) v5_h_13) lb_X10_watcherAt lv_X10_watcherAt lk_X11_220 (cw_k Bh_17.2.2 kb_16) rfl (by decide) rfl hl.1 rfl (Nat.le_of_ble_eq_true rfl) dX11_split_59 ⟨Nat.le_refl _, Nat.le_refl _⟩) (fun _ _ h => by rw [h.1]; exact Bh_17.2.2) rfl (fun rh_18 αh_18 Hh_18 Lh_18 ph_18 Bh_18 => ?_)
                rw [ph_18.1] at Bh_18
                rcases rh_18 with _ | bh_18
                ·
                  refine q_ci (pc' := 65) Bh_18 (hp_runV (As := [va_rf none, va_rf none]) (rest := []) C Bh_18 (t_X10_doAgree Γ l αh_13 Bh_18.2.2.1 b_16 (cw_k Bh_18.2.2 kb_16) none (fun b h => by cases h) none (fun b h => by cases h)) lb_X10_doAgree lv_X10_doAgree lk_X11_319 (cw_k Bh_18.2.2 kb_16) rfl (by decide) rfl hl.1 rfl (Nat.le_of_ble_eq_true rfl) dX11_split_62 ⟨Nat.le_refl _, Nat.le_refl _⟩) (fun _ _ h => cw_tr Bh_18.2.2 h.1 (by decide)) rfl (fun rh_19 αh_19 Hh_19 Lh_19 ph_19 Bh_19 => ?_)
                  have zh_19 := ph_19.2
                  refine lv_if_ne (tgt := 88) hx hb dX11_split_65 (by decide) (fun c_20 => ?_) (fun c_20 => hp_n (n := 68) rfl ?_)
                  ·
                    have jc_20 := il_ne c_20
                    obtain ⟨x_21, ex_21⟩ : ∃ y : Int32, y = v5_h_13 + 1 := ⟨_, rfl⟩
                    have qx_21 : x_21.toInt = v5_h_13.toInt + 1 := by have qa := ib_lo v5_h_13; rw [ex_21]; exact ii_add (by omega) (by omega)
                    refine lv_iinc (v := x_21) (lv' := [(5, .int x_21), (0, .ref a0), (1, .int a1), (2, .int v2_h_13), (3, .int v3_h_13), (4, .int v4_h_5)]) hx hb dX11_split_88 hl (k := 5) rfl (by rw [ex_21]; rfl) (by decide) rfl (fun ls hl => hp_n (n := 91) rfl ?_)
                    refine lv_goto (tgt := 34) hx hb dX11_split_91 (by decide) ?_
                    exact ih34 _ (by have qa := ib_hi v5_h_13; have qb := ib_lo v5_h_13; have qc : (v5_h_13 + 1).toInt = v5_h_13.toInt + (1 : Int32).toInt := ii_add (by omega) (by omega); rw [ex_21]; omega) αh_19 Hh_19 Lh_19 Bh_19 v2_h_13 v3_h_13 x_21 ls (lv_sub hl [1, 2, 3, 4, 5, 0] rfl) rfl
                  ·
                    have jc_20 := il_eq c_20
                    refine lv_iload_n hx hb dX11_split_68 rfl (lv_at hl 2 rfl) (hp_n (n := 69) rfl ?_)
                    refine lv_if_ne (tgt := 83) hx hb dX11_split_69 (by decide) (fun c_22 => ?_) (fun c_22 => hp_n (n := 72) rfl ?_)
                    ·
                      have jc_22 := il_ne c_22
                      refine lv_iload_n hx hb dX11_split_83 rfl (lv_at hl 3 rfl) (hp_n (n := 84) rfl ?_)
                      refine lv_istore_n (lv' := [(3, .int v3_h_13), (0, .ref a0), (1, .int a1), (2, .int v2_h_13), (4, .int v4_h_5), (5, .int v5_h_13)]) hx hb dX11_split_84 rfl hl (by decide) rfl (fun ls hl => hp_n (n := 85) rfl ?_)
                      obtain ⟨x_23, ex_23⟩ : ∃ y : Int32, y = v2_h_13 + 1 := ⟨_, rfl⟩
                      refine lv_iinc (v := x_23) (lv' := [(2, .int x_23), (3, .int v3_h_13), (0, .ref a0), (1, .int a1), (4, .int v4_h_5), (5, .int v5_h_13)]) hx hb dX11_split_85 hl (k := 3) rfl (by rw [ex_23]; rfl) (by decide) rfl (fun ls hl => hp_n (n := 88) rfl ?_)
                      obtain ⟨x_24, ex_24⟩ : ∃ y : Int32, y = v5_h_13 + 1 := ⟨_, rfl⟩
                      have qx_24 : x_24.toInt = v5_h_13.toInt + 1 := by have qa := ib_lo v5_h_13; rw [ex_24]; exact ii_add (by omega) (by omega)
                      refine lv_iinc (v := x_24) (lv' := [(5, .int x_24), (2, .int x_23), (3, .int v3_h_13), (0, .ref a0), (1, .int a1), (4, .int v4_h_5)]) hx hb dX11_split_88 hl (k := 5) rfl (by rw [ex_24]; rfl) (by decide) rfl (fun ls hl => hp_n (n := 91) rfl ?_)
                      refine lv_goto (tgt := 34) hx hb dX11_split_91 (by decide) ?_
                      exact ih34 _ (by have qa := ib_hi v5_h_13; have qb := ib_lo v5_h_13; have qc : (v5_h_13 + 1).toInt = v5_h_13.toInt + (1 : Int32).toInt := ii_add (by omega) (by omega); rw [ex_24]; omega) αh_19 Hh_19 Lh_19 Bh_19 x_23 v3_h_13 x_24 ls (lv_sub hl [3, 4, 1, 2, 5, 0] rfl) rfl
                    ·
                      have jc_22 := il_eq c_22
                      refine lv_bipush (v := 10) hx hb dX11_split_72 (by decide) (hp_n (n := 74) rfl ?_)
                      refine lv_iload hx hb dX11_split_74 (lv_at hl 4 rfl) (hp_n (n := 76) rfl ?_)
                      refine lv_imul hx hb dX11_split_76 (hp_n (n := 77) rfl (lv_topi (fun x_25 ex_25 => ?_)))
                      refine lv_iload hx hb dX11_split_77 (lv_at hl 5 rfl) (hp_n (n := 79) rfl ?_)
                      refine lv_iadd hx hb dX11_split_79 (hp_n (n := 80) rfl (lv_topi (fun x_26 ex_26 => ?_)))
                      refine lv_goto (tgt := 84) hx hb dX11_split_80 (by decide) ?_
                      refine lv_istore_n (lv' := [(3, .int x_26), (0, .ref a0), (1, .int a1), (2, .int v2_h_13), (4, .int v4_h_5), (5, .int v5_h_13)]) hx hb dX11_split_84 rfl hl (by decide) rfl (fun ls hl => hp_n (n := 85) rfl ?_)
                      obtain ⟨x_27, ex_27⟩ : ∃ y : Int32, y = v2_h_13 + 1 := ⟨_, rfl⟩
                      refine lv_iinc (v := x_27) (lv' := [(2, .int x_27), (3, .int x_26), (0, .ref a0), (1, .int a1), (4, .int v4_h_5), (5, .int v5_h_13)]) hx hb dX11_split_85 hl (k := 3) rfl (by rw [ex_27]; rfl) (by decide) rfl (fun ls hl => hp_n (n := 88) rfl ?_)
                      obtain ⟨x_28, ex_28⟩ : ∃ y : Int32, y = v5_h_13 + 1 := ⟨_, rfl⟩
                      have qx_28 : x_28.toInt = v5_h_13.toInt + 1 := by have qa := ib_lo v5_h_13; rw [ex_28]; exact ii_add (by omega) (by omega)
                      refine lv_iinc (v := x_28) (lv' := [(5, .int x_28), (2, .int x_27), (3, .int x_26), (0, .ref a0), (1, .int a1), (4, .int v4_h_5)]) hx hb dX11_split_88 hl (k := 5) rfl (by rw [ex_28]; rfl) (by decide) rfl (fun ls hl => hp_n (n := 91) rfl ?_)
                      refine lv_goto (tgt := 34) hx hb dX11_split_91 (by decide) ?_
                      exact ih34 _ (by have qa := ib_hi v5_h_13; have qb := ib_lo v5_h_13; have qc : (v5_h_13 + 1).toInt = v5_h_13.toInt + (1 : Int32).toInt := ii_add (by omega) (by omega); rw [ex_28]; omega) αh_19 Hh_19 Lh_19 Bh_19 x_27 x_26 x_28 ls (lv_sub hl [3, 4, 1, 2, 5, 0] rfl) rfl
                ·
                  have kbh_18 : hp_K α bh_18 = 8 := cw_k' Bh_18.2.2 (ph_18.2 bh_18 rfl)
                  refine q_ci (pc' := 65) Bh_18 (hp_runV (As := [va_rf none, va_rf (some bh_18)]) (rest := []) C Bh_18 (t_X10_doAgree Γ l αh_13 Bh_18.2.2.1 b_16 (cw_k Bh_18.2.2 kb_16) none (fun b h => by cases h) (some bh_18) (fun b h => by cases h; exact (cw_k Bh_18.2.2 kbh_18))) lb_X10_doAgree lv_X10_doAgree lk_X11_319 (cw_k Bh_18.2.2 kb_16) rfl (by decide) rfl hl.1 rfl (Nat.le_of_ble_eq_true rfl) dX11_split_62 ⟨Nat.le_refl _, Nat.le_refl _⟩) (fun _ _ h => cw_tr Bh_18.2.2 h.1 (by decide)) rfl (fun rh_29 αh_29 Hh_29 Lh_29 ph_29 Bh_29 => ?_)
                  have zh_29 := ph_29.2
                  refine lv_if_ne (tgt := 88) hx hb dX11_split_65 (by decide) (fun c_30 => ?_) (fun c_30 => hp_n (n := 68) rfl ?_)
                  ·
                    have jc_30 := il_ne c_30
                    obtain ⟨x_31, ex_31⟩ : ∃ y : Int32, y = v5_h_13 + 1 := ⟨_, rfl⟩
                    have qx_31 : x_31.toInt = v5_h_13.toInt + 1 := by have qa := ib_lo v5_h_13; rw [ex_31]; exact ii_add (by omega) (by omega)
                    refine lv_iinc (v := x_31) (lv' := [(5, .int x_31), (0, .ref a0), (1, .int a1), (2, .int v2_h_13), (3, .int v3_h_13), (4, .int v4_h_5)]) hx hb dX11_split_88 hl (k := 5) rfl (by rw [ex_31]; rfl) (by decide) rfl (fun ls hl => hp_n (n := 91) rfl ?_)
                    refine lv_goto (tgt := 34) hx hb dX11_split_91 (by decide) ?_
                    exact ih34 _ (by have qa := ib_hi v5_h_13; have qb := ib_lo v5_h_13; have qc : (v5_h_13 + 1).toInt = v5_h_13.toInt + (1 : Int32).toInt := ii_add (by omega) (by omega); rw [ex_31]; omega) αh_29 Hh_29 Lh_29 Bh_29 v2_h_13 v3_h_13 x_31 ls (lv_sub hl [1, 2, 3, 4, 5, 0] rfl) rfl
                  ·
                    have jc_30 := il_eq c_30
                    refine lv_iload_n hx hb dX11_split_68 rfl (lv_at hl 2 rfl) (hp_n (n := 69) rfl ?_)
                    refine lv_if_ne (tgt := 83) hx hb dX11_split_69 (by decide) (fun c_32 => ?_) (fun c_32 => hp_n (n := 72) rfl ?_)
                    ·
                      have jc_32 := il_ne c_32
                      refine lv_iload_n hx hb dX11_split_83 rfl (lv_at hl 3 rfl) (hp_n (n := 84) rfl ?_)
                      refine lv_istore_n (lv' := [(3, .int v3_h_13), (0, .ref a0), (1, .int a1), (2, .int v2_h_13), (4, .int v4_h_5), (5, .int v5_h_13)]) hx hb dX11_split_84 rfl hl (by decide) rfl (fun ls hl => hp_n (n := 85) rfl ?_)
                      obtain ⟨x_33, ex_33⟩ : ∃ y : Int32, y = v2_h_13 + 1 := ⟨_, rfl⟩
                      refine lv_iinc (v := x_33) (lv' := [(2, .int x_33), (3, .int v3_h_13), (0, .ref a0), (1, .int a1), (4, .int v4_h_5), (5, .int v5_h_13)]) hx hb dX11_split_85 hl (k := 3) rfl (by rw [ex_33]; rfl) (by decide) rfl (fun ls hl => hp_n (n := 88) rfl ?_)
                      obtain ⟨x_34, ex_34⟩ : ∃ y : Int32, y = v5_h_13 + 1 := ⟨_, rfl⟩
                      have qx_34 : x_34.toInt = v5_h_13.toInt + 1 := by have qa := ib_lo v5_h_13; rw [ex_34]; exact ii_add (by omega) (by omega)
                      refine lv_iinc (v := x_34) (lv' := [(5, .int x_34), (2, .int x_33), (3, .int v3_h_13), (0, .ref a0), (1, .int a1), (4, .int v4_h_5)]) hx hb dX11_split_88 hl (k := 5) rfl (by rw [ex_34]; rfl) (by decide) rfl (fun ls hl => hp_n (n := 91) rfl ?_)
                      refine lv_goto (tgt := 34) hx hb dX11_split_91 (by decide) ?_
                      exact ih34 _ (by have qa := ib_hi v5_h_13; have qb := ib_lo v5_h_13; have qc : (v5_h_13 + 1).toInt = v5_h_13.toInt + (1 : Int32).toInt := ii_add (by omega) (by omega); rw [ex_34]; omega) αh_29 Hh_29 Lh_29 Bh_29 x_33 v3_h_13 x_34 ls (lv_sub hl [3, 4, 1, 2, 5, 0] rfl) rfl
                    ·
                      have jc_32 := il_eq c_32
                      refine lv_bipush (v := 10) hx hb dX11_split_72 (by decide) (hp_n (n := 74) rfl ?_)
                      refine lv_iload hx hb dX11_split_74 (lv_at hl 4 rfl) (hp_n (n := 76) rfl ?_)
                      refine lv_imul hx hb dX11_split_76 (hp_n (n := 77) rfl (lv_topi (fun x_35 ex_35 => ?_)))
                      refine lv_iload hx hb dX11_split_77 (lv_at hl 5 rfl) (hp_n (n := 79) rfl ?_)
                      refine lv_iadd hx hb dX11_split_79 (hp_n (n := 80) rfl (lv_topi (fun x_36 ex_36 => ?_)))
                      refine lv_goto (tgt := 84) hx hb dX11_split_80 (by decide) ?_
                      refine lv_istore_n (lv' := [(3, .int x_36), (0, .ref a0), (1, .int a1), (2, .int v2_h_13), (4, .int v4_h_5), (5, .int v5_h_13)]) hx hb dX11_split_84 rfl hl (by decide) rfl (fun ls hl => hp_n (n := 85) rfl ?_)
                      obtain ⟨x_37, ex_37⟩ : ∃ y : Int32, y = v2_h_13 + 1 := ⟨_, rfl⟩
                      refine lv_iinc (v := x_37) (lv' := [(2, .int x_37), (3, .int x_36), (0, .ref a0), (1, .int a1), (4, .int v4_h_5), (5, .int v5_h_13)]) hx hb dX11_split_85 hl (k := 3) rfl (by rw [ex_37]; rfl) (by decide) rfl (fun ls hl => hp_n (n := 88) rfl ?_)
                      obtain ⟨x_38, ex_38⟩ : ∃ y : Int32, y = v5_h_13 + 1 := ⟨_, rfl⟩
                      have qx_38 : x_38.toInt = v5_h_13.toInt + 1 := by have qa := ib_lo v5_h_13; rw [ex_38]; exact ii_add (by omega) (by omega)
                      refine lv_iinc (v := x_38) (lv' := [(5, .int x_38), (2, .int x_37), (3, .int x_36), (0, .ref a0), (1, .int a1), (4, .int v4_h_5)]) hx hb dX11_split_88 hl (k := 5) rfl (by rw [ex_38]; rfl) (by decide) rfl (fun ls hl => hp_n (n := 91) rfl ?_)
                      refine lv_goto (tgt := 34) hx hb dX11_split_91 (by decide) ?_
                      exact ih34 _ (by have qa := ib_hi v5_h_13; have qb := ib_lo v5_h_13; have qc : (v5_h_13 + 1).toInt = v5_h_13.toInt + (1 : Int32).toInt := ii_add (by omega) (by omega); rw [ex_38]; omega) αh_29 Hh_29 Lh_29 Bh_29 x_37 x_36 x_38 ls (lv_sub hl [3, 4, 1, 2, 5, 0] rfl) rfl
              ·
                have kbh_17 : hp_K α bh_17 = 8 := cw_k' Bh_17.2.2 (ph_17.2 bh_17 rfl)
                refine lv_aload_n hx hb dX11_split_53 rfl (lv_at hl 0 rfl) (hp_n (n := 54) rfl ?_)
                refine q_gets (κ := 12) (k := 1) (φ := 601) (pc' := 57) C Bh_17 (cw_k Bh_17.2.2 k0) fl_X11_16 rfl rfl rfl eb_16 dX11_split_54 rfl ?_
                refine lv_iload hx hb dX11_split_57 (lv_at hl 5 rfl) (hp_n (n := 59) rfl ?_)
                refine q_cq (pc' := 62) Bh_17 (hp_runV (As := [.int v5_h_13]) (rest := [.ref bh_17, .ref b_16]) C Bh_17 (t_X10_watcherAt Γ l αh_13 Bh_17.2.2.1 b_16 (cw_k Bh_17.2.2 kb_16) v5_h_13) lb_X10_watcherAt lv_X10_watcherAt lk_X11_220 (cw_k Bh_17.2.2 kb_16) rfl (by decide) rfl hl.1 rfl (Nat.le_of_ble_eq_true rfl) dX11_split_59 ⟨Nat.le_refl _, Nat.le_refl _⟩) (fun _ _ h => by rw [h.1]; exact Bh_17.2.2) rfl (fun rh_39 αh_39 Hh_39 Lh_39 ph_39 Bh_39 => ?_)
                rw [ph_39.1] at Bh_39
                rcases rh_39 with _ | bh_39
                ·
                  refine q_ci (pc' := 65) Bh_39 (hp_runV (As := [va_rf (some bh_17), va_rf none]) (rest := []) C Bh_39 (t_X10_doAgree Γ l αh_13 Bh_39.2.2.1 b_16 (cw_k Bh_39.2.2 kb_16) (some bh_17) (fun b h => by cases h; exact (cw_k Bh_39.2.2 kbh_17)) none (fun b h => by cases h)) lb_X10_doAgree lv_X10_doAgree lk_X11_319 (cw_k Bh_39.2.2 kb_16) rfl (by decide) rfl hl.1 rfl (Nat.le_of_ble_eq_true rfl) dX11_split_62 ⟨Nat.le_refl _, Nat.le_refl _⟩) (fun _ _ h => cw_tr Bh_39.2.2 h.1 (by decide)) rfl (fun rh_40 αh_40 Hh_40 Lh_40 ph_40 Bh_40 => ?_)
                  have zh_40 := ph_40.2
                  refine lv_if_ne (tgt := 88) hx hb dX11_split_65 (by decide) (fun c_41 => ?_) (fun c_41 => hp_n (n := 68) rfl ?_)
                  ·
                    have jc_41 := il_ne c_41
                    obtain ⟨x_42, ex_42⟩ : ∃ y : Int32, y = v5_h_13 + 1 := ⟨_, rfl⟩
                    have qx_42 : x_42.toInt = v5_h_13.toInt + 1 := by have qa := ib_lo v5_h_13; rw [ex_42]; exact ii_add (by omega) (by omega)
                    refine lv_iinc (v := x_42) (lv' := [(5, .int x_42), (0, .ref a0), (1, .int a1), (2, .int v2_h_13), (3, .int v3_h_13), (4, .int v4_h_5)]) hx hb dX11_split_88 hl (k := 5) rfl (by rw [ex_42]; rfl) (by decide) rfl (fun ls hl => hp_n (n := 91) rfl ?_)
                    refine lv_goto (tgt := 34) hx hb dX11_split_91 (by decide) ?_
                    exact ih34 _ (by have qa := ib_hi v5_h_13; have qb := ib_lo v5_h_13; have qc : (v5_h_13 + 1).toInt = v5_h_13.toInt + (1 : Int32).toInt := ii_add (by omega) (by omega); rw [ex_42]; omega) αh_40 Hh_40 Lh_40 Bh_40 v2_h_13 v3_h_13 x_42 ls (lv_sub hl [1, 2, 3, 4, 5, 0] rfl) rfl
                  ·
                    have jc_41 := il_eq c_41
                    refine lv_iload_n hx hb dX11_split_68 rfl (lv_at hl 2 rfl) (hp_n (n := 69) rfl ?_)
                    refine lv_if_ne (tgt := 83) hx hb dX11_split_69 (by decide) (fun c_43 => ?_) (fun c_43 => hp_n (n := 72) rfl ?_)
                    ·
                      have jc_43 := il_ne c_43
                      refine lv_iload_n hx hb dX11_split_83 rfl (lv_at hl 3 rfl) (hp_n (n := 84) rfl ?_)
                      refine lv_istore_n (lv' := [(3, .int v3_h_13), (0, .ref a0), (1, .int a1), (2, .int v2_h_13), (4, .int v4_h_5), (5, .int v5_h_13)]) hx hb dX11_split_84 rfl hl (by decide) rfl (fun ls hl => hp_n (n := 85) rfl ?_)
                      obtain ⟨x_44, ex_44⟩ : ∃ y : Int32, y = v2_h_13 + 1 := ⟨_, rfl⟩
                      refine lv_iinc (v := x_44) (lv' := [(2, .int x_44), (3, .int v3_h_13), (0, .ref a0), (1, .int a1), (4, .int v4_h_5), (5, .int v5_h_13)]) hx hb dX11_split_85 hl (k := 3) rfl (by rw [ex_44]; rfl) (by decide) rfl (fun ls hl => hp_n (n := 88) rfl ?_)
                      obtain ⟨x_45, ex_45⟩ : ∃ y : Int32, y = v5_h_13 + 1 := ⟨_, rfl⟩
                      have qx_45 : x_45.toInt = v5_h_13.toInt + 1 := by have qa := ib_lo v5_h_13; rw [ex_45]; exact ii_add (by omega) (by omega)
                      refine lv_iinc (v := x_45) (lv' := [(5, .int x_45), (2, .int x_44), (3, .int v3_h_13), (0, .ref a0), (1, .int a1), (4, .int v4_h_5)]) hx hb dX11_split_88 hl (k := 5) rfl (by rw [ex_45]; rfl) (by decide) rfl (fun ls hl => hp_n (n := 91) rfl ?_)
                      refine lv_goto (tgt := 34) hx hb dX11_split_91 (by decide) ?_
                      exact ih34 _ (by have qa := ib_hi v5_h_13; have qb := ib_lo v5_h_13; have qc : (v5_h_13 + 1).toInt = v5_h_13.toInt + (1 : Int32).toInt := ii_add (by omega) (by omega); rw [ex_45]; omega) αh_40 Hh_40 Lh_40 Bh_40 x_44 v3_h_13 x_45 ls (lv_sub hl [3, 4, 1, 2, 5, 0] rfl) rfl
                    ·
                      have jc_43 := il_eq c_43
                      refine lv_bipush (v := 10) hx hb dX11_split_72 (by decide) (hp_n (n := 74) rfl ?_)
                      refine lv_iload hx hb dX11_split_74 (lv_at hl 4 rfl) (hp_n (n := 76) rfl ?_)
                      refine lv_imul hx hb dX11_split_76 (hp_n (n := 77) rfl (lv_topi (fun x_46 ex_46 => ?_)))
                      refine lv_iload hx hb dX11_split_77 (lv_at hl 5 rfl) (hp_n (n := 79) rfl ?_)
                      refine lv_iadd hx hb dX11_split_79 (hp_n (n := 80) rfl (lv_topi (fun x_47 ex_47 => ?_)))
                      refine lv_goto (tgt := 84) hx hb dX11_split_80 (by decide) ?_
                      refine lv_istore_n (lv' := [(3, .int x_47), (0, .ref a0), (1, .int a1), (2, .int v2_h_13), (4, .int v4_h_5), (5, .int v5_h_13)]) hx hb dX11_split_84 rfl hl (by decide) rfl (fun ls hl => hp_n (n := 85) rfl ?_)
                      obtain ⟨x_48, ex_48⟩ : ∃ y : Int32, y = v2_h_13 + 1 := ⟨_, rfl⟩
                      refine lv_iinc (v := x_48) (lv' := [(2, .int x_48), (3, .int x_47), (0, .ref a0), (1, .int a1), (4, .int v4_h_5), (5, .int v5_h_13)]) hx hb dX11_split_85 hl (k := 3) rfl (by rw [ex_48]; rfl) (by decide) rfl (fun ls hl => hp_n (n := 88) rfl ?_)
                      obtain ⟨x_49, ex_49⟩ : ∃ y : Int32, y = v5_h_13 + 1 := ⟨_, rfl⟩
                      have qx_49 : x_49.toInt = v5_h_13.toInt + 1 := by have qa := ib_lo v5_h_13; rw [ex_49]; exact ii_add (by omega) (by omega)
                      refine lv_iinc (v := x_49) (lv' := [(5, .int x_49), (2, .int x_48), (3, .int x_47), (0, .ref a0), (1, .int a1), (4, .int v4_h_5)]) hx hb dX11_split_88 hl (k := 5) rfl (by rw [ex_49]; rfl) (by decide) rfl (fun ls hl => hp_n (n := 91) rfl ?_)
                      refine lv_goto (tgt := 34) hx hb dX11_split_91 (by decide) ?_
                      exact ih34 _ (by have qa := ib_hi v5_h_13; have qb := ib_lo v5_h_13; have qc : (v5_h_13 + 1).toInt = v5_h_13.toInt + (1 : Int32).toInt := ii_add (by omega) (by omega); rw [ex_49]; omega) αh_40 Hh_40 Lh_40 Bh_40 x_48 x_47 x_49 ls (lv_sub hl [3, 4, 1, 2, 5, 0] rfl) rfl
                ·
                  have kbh_39 : hp_K α bh_39 = 8 := cw_k' Bh_39.2.2 (ph_39.2 bh_39 rfl)
                  refine q_ci (pc' := 65) Bh_39 (hp_runV (As := [va_rf (some bh_17), va_rf (some bh_39)]) (rest := []) C Bh_39 (t_X10_doAgree Γ l αh_13 Bh_39.2.2.1 b_16 (cw_k Bh_39.2.2 kb_16) (some bh_17) (fun b h => by cases h; exact (cw_k Bh_39.2.2 kbh_17)) (some bh_39) (fun b h => by cases h; exact (cw_k Bh_39.2.2 kbh_39))) lb_X10_doAgree lv_X10_doAgree lk_X11_319 (cw_k Bh_39.2.2 kb_16) rfl (by decide) rfl hl.1 rfl (Nat.le_of_ble_eq_true rfl) dX11_split_62 ⟨Nat.le_refl _, Nat.le_refl _⟩) (fun _ _ h => cw_tr Bh_39.2.2 h.1 (by decide)) rfl (fun rh_50 αh_50 Hh_50 Lh_50 ph_50 Bh_50 => ?_)
                  have zh_50 := ph_50.2
                  refine lv_if_ne (tgt := 88) hx hb dX11_split_65 (by decide) (fun c_51 => ?_) (fun c_51 => hp_n (n := 68) rfl ?_)
                  ·
                    have jc_51 := il_ne c_51
                    obtain ⟨x_52, ex_52⟩ : ∃ y : Int32, y = v5_h_13 + 1 := ⟨_, rfl⟩
                    have qx_52 : x_52.toInt = v5_h_13.toInt + 1 := by have qa := ib_lo v5_h_13; rw [ex_52]; exact ii_add (by omega) (by omega)
                    refine lv_iinc (v := x_52) (lv' := [(5, .int x_52), (0, .ref a0), (1, .int a1), (2, .int v2_h_13), (3, .int v3_h_13), (4, .int v4_h_5)]) hx hb dX11_split_88 hl (k := 5) rfl (by rw [ex_52]; rfl) (by decide) rfl (fun ls hl => hp_n (n := 91) rfl ?_)
                    refine lv_goto (tgt := 34) hx hb dX11_split_91 (by decide) ?_
                    exact ih34 _ (by have qa := ib_hi v5_h_13; have qb := ib_lo v5_h_13; have qc : (v5_h_13 + 1).toInt = v5_h_13.toInt + (1 : Int32).toInt := ii_add (by omega) (by omega); rw [ex_52]; omega) αh_50 Hh_50 Lh_50 Bh_50 v2_h_13 v3_h_13 x_52 ls (lv_sub hl [1, 2, 3, 4, 5, 0] rfl) rfl
                  ·
                    have jc_51 := il_eq c_51
                    refine lv_iload_n hx hb dX11_split_68 rfl (lv_at hl 2 rfl) (hp_n (n := 69) rfl ?_)
                    refine lv_if_ne (tgt := 83) hx hb dX11_split_69 (by decide) (fun c_53 => ?_) (fun c_53 => hp_n (n := 72) rfl ?_)
                    ·
                      have jc_53 := il_ne c_53
                      refine lv_iload_n hx hb dX11_split_83 rfl (lv_at hl 3 rfl) (hp_n (n := 84) rfl ?_)
                      refine lv_istore_n (lv' := [(3, .int v3_h_13), (0, .ref a0), (1, .int a1), (2, .int v2_h_13), (4, .int v4_h_5), (5, .int v5_h_13)]) hx hb dX11_split_84 rfl hl (by decide) rfl (fun ls hl => hp_n (n := 85) rfl ?_)
                      obtain ⟨x_54, ex_54⟩ : ∃ y : Int32, y = v2_h_13 + 1 := ⟨_, rfl⟩
                      refine lv_iinc (v := x_54) (lv' := [(2, .int x_54), (3, .int v3_h_13), (0, .ref a0), (1, .int a1), (4, .int v4_h_5), (5, .int v5_h_13)]) hx hb dX11_split_85 hl (k := 3) rfl (by rw [ex_54]; rfl) (by decide) rfl (fun ls hl => hp_n (n := 88) rfl ?_)
                      obtain ⟨x_55, ex_55⟩ : ∃ y : Int32, y = v5_h_13 + 1 := ⟨_, rfl⟩
                      have qx_55 : x_55.toInt = v5_h_13.toInt + 1 := by have qa := ib_lo v5_h_13; rw [ex_55]; exact ii_add (by omega) (by omega)
                      refine lv_iinc (v := x_55) (lv' := [(5, .int x_55), (2, .int x_54), (3, .int v3_h_13), (0, .ref a0), (1, .int a1), (4, .int v4_h_5)]) hx hb dX11_split_88 hl (k := 5) rfl (by rw [ex_55]; rfl) (by decide) rfl (fun ls hl => hp_n (n := 91) rfl ?_)
                      refine lv_goto (tgt := 34) hx hb dX11_split_91 (by decide) ?_
                      exact ih34 _ (by have qa := ib_hi v5_h_13; have qb := ib_lo v5_h_13; have qc : (v5_h_13 + 1).toInt = v5_h_13.toInt + (1 : Int32).toInt := ii_add (by omega) (by omega); rw [ex_55]; omega) αh_50 Hh_50 Lh_50 Bh_50 x_54 v3_h_13 x_55 ls (lv_sub hl [3, 4, 1, 2, 5, 0] rfl) rfl
                    ·
                      have jc_53 := il_eq c_53
                      refine lv_bipush (v := 10) hx hb dX11_split_72 (by decide) (hp_n (n := 74) rfl ?_)
                      refine lv_iload hx hb dX11_split_74 (lv_at hl 4 rfl) (hp_n (n := 76) rfl ?_)
                      refine lv_imul hx hb dX11_split_76 (hp_n (n := 77) rfl (lv_topi (fun x_56 ex_56 => ?_)))
                      refine lv_iload hx hb dX11_split_77 (lv_at hl 5 rfl) (hp_n (n := 79) rfl ?_)
                      refine lv_iadd hx hb dX11_split_79 (hp_n (n := 80) rfl (lv_topi (fun x_57 ex_57 => ?_)))
                      refine lv_goto (tgt := 84) hx hb dX11_split_80 (by decide) ?_
                      refine lv_istore_n (lv' := [(3, .int x_57), (0, .ref a0), (1, .int a1), (2, .int v2_h_13), (4, .int v4_h_5), (5, .int v5_h_13)]) hx hb dX11_split_84 rfl hl (by decide) rfl (fun ls hl => hp_n (n := 85) rfl ?_)
                      obtain ⟨x_58, ex_58⟩ : ∃ y : Int32, y = v2_h_13 + 1 := ⟨_, rfl⟩
                      refine lv_iinc (v := x_58) (lv' := [(2, .int x_58), (3, .int x_57), (0, .ref a0), (1, .int a1), (4, .int v4_h_5), (5, .int v5_h_13)]) hx hb dX11_split_85 hl (k := 3) rfl (by rw [ex_58]; rfl) (by decide) rfl (fun ls hl => hp_n (n := 88) rfl ?_)
                      obtain ⟨x_59, ex_59⟩ : ∃ y : Int32, y = v5_h_13 + 1 := ⟨_, rfl⟩
                      have qx_59 : x_59.toInt = v5_h_13.toInt + 1 := by have qa := ib_lo v5_h_13; rw [ex_59]; exact ii_add (by omega) (by omega)
                      refine lv_iinc (v := x_59) (lv' := [(5, .int x_59), (2, .int x_58), (3, .int x_57), (0, .ref a0), (1, .int a1), (4, .int v4_h_5)]) hx hb dX11_split_88 hl (k := 5) rfl (by rw [ex_59]; rfl) (by decide) rfl (fun ls hl => hp_n (n := 91) rfl ?_)
                      refine lv_goto (tgt := 34) hx hb dX11_split_91 (by decide) ?_
                      exact ih34 _ (by have qa := ib_hi v5_h_13; have qb := ib_lo v5_h_13; have qc : (v5_h_13 + 1).toInt = v5_h_13.toInt + (1 : Int32).toInt := ii_add (by omega) (by omega); rw [ex_59]; omega) αh_50 Hh_50 Lh_50 Bh_50 x_58 x_57 x_59 ls (lv_sub hl [3, 4, 1, 2, 5, 0] rfl) rfl
          refine lv_istore (lv' := [(5, .int x_12), (0, .ref a0), (1, .int a1), (2, .int v2_h_5), (3, .int v3_h_5), (4, .int v4_h_5)]) hx hb dX11_split_32 hl (by decide) rfl (fun ls hl => hp_n (n := 34) rfl ?_)
          exact J34 _ αh_5 Hh_5 Lh_5 Bh_5 v2_h_5 v3_h_5 x_12 ls (lv_sub hl [1, 2, 3, 4, 5, 0] rfl) rfl
      refine lv_istore (lv' := [(4, .int 0), (3, .int (-1)), (2, .int 0), (0, .ref a0), (1, .int a1)]) hx hb dX11_split_20 hl (by decide) rfl (fun ls hl => hp_n (n := 22) rfl ?_)
      exact J22 _ α s.heap [] B 0 (-1) 0 (by omega) ls (lv_sub hl [3, 4, 2, 1, 0] rfl) rfl
    ·
      have jc_4 := il_nle c_4
      exact J9 s.heap [] B ls (lv_sub hl [0] rfl)
abbrev w_X11_tellByte : cw_W := ([611], [], [25], [])
set_option maxRecDepth 100000 in
set_option maxHeartbeats 4000000 in
theorem t_X11_tellByte (Γ : hp_G) (l : Launch) (α : hp_T) (g : GC α) (a0 : Nat) (k0 : hp_K α a0 = 12) (a1 : Int32) : Met l yX11_tellByte (hp_ws yX11_tellByte cX11_tellByte 2 none) (hp_rm 0 0 0) (hp_Pc Γ α [.ref a0, .int a1]) (hp_Qv Γ (fun β => cw w_X11_tellByte α β)) 0 0 (hp_A Γ) := by
  refine hp_start (by decide) ?_
  intro p e s m below meth c C hr hlk B0 hnm
  have C : hp_C Γ p m c cX11_tellByte 2 s ([.ref a0, .int a1] : List Value).toArray RX11 := C
  have hx := C.1.1
  have hb := C.1.2.1
  have hown := C.1.2.2.2.1
  have hts := C.1.2.2.2.2
  have B : hp_B Γ (cw w_X11_tellByte) s α α s.heap [] := ⟨B0.1, B0.2.1, cw_rf g⟩
  have lit0 : (0 : Int32).toInt = 0 := by decide
  have lit1 : (1 : Int32).toInt = 1 := by decide
  have lit256 : (256 : Int32).toInt = 256 := by decide
  have hl := lv_entry ([.ref a0, .int a1]) (n := 2) (Nat.le_of_ble_eq_true rfl)
  show W p l e (hp_rm 0 0 0) s m ([.ref a0, .int a1] : List Value).toArray below meth c s.heap [] 0 0 (MQ below (hp_Qv Γ (fun β => cw w_X11_tellByte α β)) ([.ref a0, .int a1] : List Value).toArray s 0 0 (hp_A Γ)) (entryFrame m ([.ref a0, .int a1] : List Value).toArray 2)
  rw [lg_entry_eq]
  generalize (lg_sl ([.ref a0, .int a1]) ++ List.replicate (2 - (lg_sl ([.ref a0, .int a1])).length) Slot.unset).toArray = ls at hl ⊢
  have hl : lv_has ls 2 [(0, .ref a0), (1, .int a1)] := hl
  refine lv_aload_n hx hb dX11_tellByte_0 rfl (lv_at hl 0 rfl) (hp_n (n := 1) rfl ?_)
  refine q_geti (κ := 12) (k := 11) (φ := 611) (pc' := 4) C B (cw_k B.2.2 k0) fl_X11_56 rfl rfl rfl dX11_tellByte_1 rfl (fun x_1 ex_1 => ?_)
  refine lv_if_lt (tgt := 40) hx hb dX11_tellByte_4 (by decide) (fun c_2 => ?_) (fun c_2 => hp_n (n := 7) rfl ?_)
  ·
    have jc_2 := il_lt c_2
    exact q_vret C B hr hlk B.2.2 dX11_tellByte_40
  ·
    have jc_2 := il_nlt c_2
    refine lv_aload_n hx hb dX11_tellByte_7 rfl (lv_at hl 0 rfl) (hp_n (n := 8) rfl ?_)
    refine q_getj (κ := 12) (k := 11) (φ := 611) (pc' := 11) C B (cw_k B.2.2 k0) fl_X11_56 rfl rfl rfl ex_1 dX11_tellByte_8 rfl ?_
    refine lv_aload_n hx hb dX11_tellByte_11 rfl (lv_at hl 0 rfl) (hp_n (n := 12) rfl ?_)
    refine q_getr (κ := 12) (k := 10) (φ := 610) (pc' := 15) C B (cw_k B.2.2 k0) fl_X11_53 rfl rfl rfl (cw_r B.2.2 k0 rfl rfl (by decide) (by decide)) dX11_tellByte_12 rfl (fun b_3 eb_3 kb_3 => ?_)
    refine q_alen (κ := 25) (t := 1) (n := 256) (x := 256) (ty := .byte) (pc' := 16) C B (cw_k B.2.2 kb_3) (by decide) rfl rfl rfl dX11_tellByte_15 rfl ?_
    refine lv_icmp_ge (tgt := 40) hx hb dX11_tellByte_16 (by decide) (fun c_4 => ?_) (fun c_4 => hp_n (n := 19) rfl ?_)
    ·
      have jc_4 := il_le c_4
      exact q_vret C B hr hlk B.2.2 dX11_tellByte_40
    ·
      have jc_4 := il_nle c_4
      refine lv_aload_n hx hb dX11_tellByte_19 rfl (lv_at hl 0 rfl) (hp_n (n := 20) rfl ?_)
      refine q_gets (κ := 12) (k := 10) (φ := 610) (pc' := 23) C B (cw_k B.2.2 k0) fl_X11_53 rfl rfl rfl eb_3 dX11_tellByte_20 rfl ?_
      refine lv_aload_n hx hb dX11_tellByte_23 rfl (lv_at hl 0 rfl) (hp_n (n := 24) rfl ?_)
      refine q_getj (κ := 12) (k := 11) (φ := 611) (pc' := 27) C B (cw_k B.2.2 k0) fl_X11_56 rfl rfl rfl ex_1 dX11_tellByte_24 rfl ?_
      refine lv_iload_n hx hb dX11_tellByte_27 rfl (lv_at hl 1 rfl) (hp_n (n := 28) rfl ?_)
      refine lv_i2b hx hb dX11_tellByte_28 rfl (hp_n (n := 29) rfl (lv_topi (fun x_5 ex_5 => ?_)))
      refine q_bas (κ := 25) (n := 256) (pc' := 30) C B (cw_k B.2.2 kb_3) (by decide) rfl (vi_of (by omega) (by omega)) rfl rfl (cw_sE B.2.2 (by decide)) dX11_tellByte_29 rfl (fun αh_6 Hh_6 Lh_6 eh_6 Bh_6 => ?_)
      refine lv_aload_n hx hb dX11_tellByte_30 rfl (lv_at hl 0 rfl) (hp_n (n := 31) rfl ?_)
      refine lv_dup hx hb dX11_tellByte_31 rfl (hp_n (n := 32) rfl ?_)
      have t_7 : x_1 = hp_I αh_6 611 a0 := by rw [eh_6]; exact ex_1
      refine q_getj (κ := 12) (k := 11) (φ := 611) (pc' := 35) C Bh_6 (cw_k Bh_6.2.2 k0) fl_X11_56 rfl rfl rfl t_7 dX11_tellByte_32 rfl ?_
      refine lv_iconst (v := 1) hx hb dX11_tellByte_35 (by decide) (hp_n (n := 36) rfl ?_)
      refine lv_iadd hx hb dX11_tellByte_36 (hp_n (n := 37) rfl (lv_topi (fun x_8 ex_8 => ?_)))
      have qx_8 : x_8.toInt = x_1.toInt + 1 := by have qa := ib_lo x_1; rw [ex_8]; exact ii_add (by omega) (by omega)
      refine q_puti (κ := 12) (k := 11) (φ := 611) (pc' := 40) C Bh_6 (cw_k Bh_6.2.2 k0) fl_X11_56 rfl rfl rfl rfl rfl rfl (cw_sI Bh_6.2.2 (by decide) (fun h => absurd h (by decide))) dX11_tellByte_37 rfl (fun αh_9 Hh_9 Lh_9 eh_9 Bh_9 => ?_)
      exact q_vret C Bh_9 hr hlk Bh_9.2.2 dX11_tellByte_40
abbrev w_X11_tellText : cw_W := ([611], [], [25], [])
set_option maxRecDepth 100000 in
set_option maxHeartbeats 4000000 in
theorem t_X11_tellText (Γ : hp_G) (l : Launch) (α : hp_T) (g : GC α) (a0 : Nat) (k0 : hp_K α a0 = 12) (i1 : Nat) (h1 : i1 < 21) : Met l yX11_tellText (hp_ws yX11_tellText cX11_tellText 3 none) (hp_rm 4 0 0) (hp_Pc Γ α [.ref a0, .ref (Γ.2.2.2.2.1 i1)]) (hp_Qv Γ (fun β => cw w_X11_tellText α β)) 0 0 (hp_A Γ) := by
  refine hp_start (by decide) ?_
  intro p e s m below meth c C hr hlk B0 hnm
  have C : hp_C Γ p m c cX11_tellText 3 s ([.ref a0, .ref (Γ.2.2.2.2.1 i1)] : List Value).toArray RX11 := C
  have hx := C.1.1
  have hb := C.1.2.1
  have hown := C.1.2.2.2.1
  have hts := C.1.2.2.2.2
  have B : hp_B Γ (cw w_X11_tellText) s α α s.heap [] := ⟨B0.1, B0.2.1, cw_rf g⟩
  have lit0 : (0 : Int32).toInt = 0 := by decide
  have lit1 : (1 : Int32).toInt = 1 := by decide
  have hl := lv_entry ([.ref a0, .ref (Γ.2.2.2.2.1 i1)]) (n := 3) (Nat.le_of_ble_eq_true rfl)
  show W p l e (hp_rm 4 0 0) s m ([.ref a0, .ref (Γ.2.2.2.2.1 i1)] : List Value).toArray below meth c s.heap [] 0 0 (MQ below (hp_Qv Γ (fun β => cw w_X11_tellText α β)) ([.ref a0, .ref (Γ.2.2.2.2.1 i1)] : List Value).toArray s 0 0 (hp_A Γ)) (entryFrame m ([.ref a0, .ref (Γ.2.2.2.2.1 i1)] : List Value).toArray 3)
  rw [lg_entry_eq]
  generalize (lg_sl ([.ref a0, .ref (Γ.2.2.2.2.1 i1)]) ++ List.replicate (3 - (lg_sl ([.ref a0, .ref (Γ.2.2.2.2.1 i1)])).length) Slot.unset).toArray = ls at hl ⊢
  have hl : lv_has ls 3 [(0, .ref a0), (1, .ref (Γ.2.2.2.2.1 i1))] := hl
  refine lv_iconst (v := 0) hx hb dX11_tellText_0 (by decide) (hp_n (n := 1) rfl ?_)
  have J2 : ∀ (nq : Nat) (αh_1 : hp_T) (Hh_1 : Heap) (Lh_1 : List Loc) (Bh_1 : hp_B Γ (cw w_X11_tellText) s α αh_1 Hh_1 Lh_1) (v2_h_1 : Int32) (ih_1_0 : 0 ≤ v2_h_1.toInt) (ls : Array Slot) (hl : lv_has ls 3 [(0, .ref a0), (1, .ref (Γ.2.2.2.2.1 i1)), (2, .int v2_h_1)]) (hmu2 : (2147483647 - v2_h_1.toInt).toNat = nq), W p l e (hp_rm 4 0 0) s m ([.ref a0, .ref (Γ.2.2.2.2.1 i1)] : List Value).toArray below meth c Hh_1 Lh_1 0 0 (MQ below (hp_Qv Γ (fun β => cw w_X11_tellText α β)) ([.ref a0, .ref (Γ.2.2.2.2.1 i1)] : List Value).toArray s 0 0 (hp_A Γ)) (F0 m 2 ls []) := by
    intro nq
    induction nq using Nat.strongRecOn with
    | ind nq ih2 =>
    intro αh_1 Hh_1 Lh_1 Bh_1 v2_h_1 ih_1_0 ls hl hmu2
    have inv2_0 := ih_1_0
    refine lv_iload_n hx hb dX11_tellText_2 rfl (lv_at hl 2 rfl) (hp_n (n := 3) rfl ?_)
    refine lv_aload_n hx hb dX11_tellText_3 rfl (lv_at hl 1 rfl) (hp_n (n := 4) rfl ?_)
    refine q_ci (pc' := 7) Bh_1 (hp_runT (i := i1) (As := []) (rest := [.int v2_h_1]) C B0.1 Bh_1 h1 (t_J0_length_8abf5 Γ l αh_1 i1 h1) lb_J0_length_8abf5 li_J0_length_8abf5 sx_J0_length_8abf5 rfl lk_X11_485 rfl (by decide) rfl hl.1 rfl (Nat.le_of_ble_eq_true rfl) dX11_tellText_4 ⟨Nat.le_refl _, Nat.le_refl _⟩) (fun _ _ h => by rw [h.1]; exact Bh_1.2.2) rfl (fun rh_2 αh_2 Hh_2 Lh_2 ph_2 Bh_2 => ?_)
    rw [ph_2.1] at Bh_2
    have lnh_2 : rh_2.toInt = (hp_len i1).toInt := by rw [ph_2.2]
    refine lv_icmp_ge (tgt := 25) hx hb dX11_tellText_7 (by decide) (fun c_3 => ?_) (fun c_3 => hp_n (n := 10) rfl ?_)
    ·
      have jc_3 := il_le c_3
      exact q_vret C Bh_2 hr hlk Bh_2.2.2 dX11_tellText_25
    ·
      have jc_3 := il_nle c_3
      refine lv_aload_n hx hb dX11_tellText_10 rfl (lv_at hl 0 rfl) (hp_n (n := 11) rfl ?_)
      refine lv_aload_n hx hb dX11_tellText_11 rfl (lv_at hl 1 rfl) (hp_n (n := 12) rfl ?_)
      refine lv_iload_n hx hb dX11_tellText_12 rfl (lv_at hl 2 rfl) (hp_n (n := 13) rfl ?_)
      refine q_ci (pc' := 16) Bh_2 (hp_runT (i := i1) (As := [.int v2_h_1]) (rest := [.ref a0]) C B0.1 Bh_2 h1 (t_J0_charAt_5068e Γ l αh_1 i1 h1 v2_h_1 (by omega) (by omega)) lb_J0_charAt_5068e li_J0_charAt_5068e sx_J0_charAt_5068e rfl lk_X11_489 rfl (by decide) rfl hl.1 rfl (Nat.le_of_ble_eq_true rfl) dX11_tellText_13 ⟨Nat.le_refl _, Nat.le_refl _⟩) (fun _ _ h => by rw [h.1]; exact Bh_2.2.2) rfl (fun rh_4 αh_4 Hh_4 Lh_4 ph_4 Bh_4 => ?_)
      rw [ph_4.1] at Bh_4
      refine q_cv (pc' := 19) Bh_4 (hp_runV (As := [.int rh_4]) (rest := []) C Bh_4 (t_X11_tellByte Γ l αh_1 Bh_4.2.2.1 a0 (cw_k Bh_4.2.2 k0) rh_4) lb_X11_tellByte lv_X11_tellByte lk_X11_493 (cw_k Bh_4.2.2 k0) rfl (by decide) rfl hl.1 rfl (Nat.le_of_ble_eq_true rfl) dX11_tellText_16 ⟨Nat.le_refl _, Nat.le_refl _⟩) (fun _ h => cw_tr Bh_4.2.2 h (by decide)) rfl (fun αh_5 Hh_5 Lh_5 ph_5 Bh_5 => ?_)
      obtain ⟨x_6, ex_6⟩ : ∃ y : Int32, y = v2_h_1 + 1 := ⟨_, rfl⟩
      have qx_6 : x_6.toInt = v2_h_1.toInt + 1 := by have q0 := ib_hi rh_2; have qa := ib_lo v2_h_1; rw [ex_6]; exact ii_add (by omega) (by omega)
      refine lv_iinc (v := x_6) (lv' := [(2, .int x_6), (0, .ref a0), (1, .ref (Γ.2.2.2.2.1 i1))]) hx hb dX11_tellText_19 hl (k := 2) rfl (by rw [ex_6]; rfl) (by decide) rfl (fun ls hl => hp_n (n := 22) rfl ?_)
      refine lv_goto (tgt := 2) hx hb dX11_tellText_22 (by decide) ?_
      exact ih2 _ (by have q0 := ib_hi rh_2; have q1 := ib_lo rh_2; have qa := ib_hi v2_h_1; have qb := ib_lo v2_h_1; have qc : (v2_h_1 + 1).toInt = v2_h_1.toInt + (1 : Int32).toInt := ii_add (by omega) (by omega); rw [ex_6]; omega) αh_5 Hh_5 Lh_5 Bh_5 x_6 (by omega) ls (lv_sub hl [1, 2, 0] rfl) rfl
  refine lv_istore_n (lv' := [(2, .int 0), (0, .ref a0), (1, .ref (Γ.2.2.2.2.1 i1))]) hx hb dX11_tellText_1 rfl hl (by decide) rfl (fun ls hl => hp_n (n := 2) rfl ?_)
  exact J2 _ α s.heap [] B 0 (by omega) ls (lv_sub hl [1, 2, 0] rfl) rfl
abbrev w_X11_tellNumber : cw_W := ([611], [], [25], [])
set_option maxRecDepth 100000 in
set_option maxHeartbeats 4000000 in
theorem t_X11_tellNumber (Γ : hp_G) (l : Launch) (α : hp_T) (g : GC α) (a0 : Nat) (k0 : hp_K α a0 = 12) (a1 : Int32) : Met l yX11_tellNumber (hp_ws yX11_tellNumber cX11_tellNumber 4 none) (hp_rm 1 0 0) (hp_Pc Γ α [.ref a0, .int a1]) (hp_Qv Γ (fun β => cw w_X11_tellNumber α β)) 0 0 (hp_A Γ) := by
  refine hp_start (by decide) ?_
  intro p e s m below meth c C hr hlk B0 hnm
  have C : hp_C Γ p m c cX11_tellNumber 4 s ([.ref a0, .int a1] : List Value).toArray RX11 := C
  have hx := C.1.1
  have hb := C.1.2.1
  have hown := C.1.2.2.2.1
  have hts := C.1.2.2.2.2
  have B : hp_B Γ (cw w_X11_tellNumber) s α α s.heap [] := ⟨B0.1, B0.2.1, cw_rf g⟩
  have lit0 : (0 : Int32).toInt = 0 := by decide
  have lit1 : (1 : Int32).toInt = 1 := by decide
  have lit8 : (8 : Int32).toInt = 8 := by decide
  have lit10 : (10 : Int32).toInt = 10 := by decide
  have lit48 : (48 : Int32).toInt = 48 := by decide
  have hl := lv_entry ([.ref a0, .int a1]) (n := 4) (Nat.le_of_ble_eq_true rfl)
  show W p l e (hp_rm 1 0 0) s m ([.ref a0, .int a1] : List Value).toArray below meth c s.heap [] 0 0 (MQ below (hp_Qv Γ (fun β => cw w_X11_tellNumber α β)) ([.ref a0, .int a1] : List Value).toArray s 0 0 (hp_A Γ)) (entryFrame m ([.ref a0, .int a1] : List Value).toArray 4)
  rw [lg_entry_eq]
  generalize (lg_sl ([.ref a0, .int a1]) ++ List.replicate (4 - (lg_sl ([.ref a0, .int a1])).length) Slot.unset).toArray = ls at hl ⊢
  have hl : lv_has ls 4 [(0, .ref a0), (1, .int a1)] := hl
  refine lv_iconst (v := 1) hx hb dX11_tellNumber_0 (by decide) (hp_n (n := 1) rfl ?_)
  refine lv_istore_n (lv' := [(2, .int 1), (0, .ref a0), (1, .int a1)]) hx hb dX11_tellNumber_1 rfl hl (by decide) rfl (fun ls hl => hp_n (n := 2) rfl ?_)
  refine lv_iconst (v := 0) hx hb dX11_tellNumber_2 (by decide) (hp_n (n := 3) rfl ?_)
  have J4 : ∀ (nq : Nat) (Hh_1 : Heap) (Lh_1 : List Loc) (Bh_1 : hp_B Γ (cw w_X11_tellNumber) s α α Hh_1 Lh_1) (v2_h_1 : Int32) (v3_h_1 : Int32) (ih_1_0 : 0 ≤ v3_h_1.toInt) (ls : Array Slot) (hl : lv_has ls 4 [(0, .ref a0), (1, .int a1), (2, .int v2_h_1), (3, .int v3_h_1)]) (hmu4 : (2147483647 - v3_h_1.toInt).toNat = nq), W p l e (hp_rm 1 0 0) s m ([.ref a0, .int a1] : List Value).toArray below meth c Hh_1 Lh_1 0 0 (MQ below (hp_Qv Γ (fun β => cw w_X11_tellNumber α β)) ([.ref a0, .int a1] : List Value).toArray s 0 0 (hp_A Γ)) (F0 m 4 ls []) := by
    intro nq
    induction nq using Nat.strongRecOn with
    | ind nq ih4 =>
    intro Hh_1 Lh_1 Bh_1 v2_h_1 v3_h_1 ih_1_0 ls hl hmu4
    have inv4_0 := ih_1_0
    refine lv_iload_n hx hb dX11_tellNumber_4 rfl (lv_at hl 3 rfl) (hp_n (n := 5) rfl ?_)
    refine lv_bipush (v := 8) hx hb dX11_tellNumber_5 (by decide) (hp_n (n := 7) rfl ?_)
    have J29 : ∀ (nq : Nat) (αh_2 : hp_T) (Hh_2 : Heap) (Lh_2 : List Loc) (Bh_2 : hp_B Γ (cw w_X11_tellNumber) s α αh_2 Hh_2 Lh_2) (v2_h_2 : Int32) (ls : Array Slot) (hl : lv_has ls 4 [(0, .ref a0), (1, .int a1), (2, .int v2_h_2)]) (hmu29 : v2_h_2.toInt.toNat = nq), W p l e (hp_rm 1 0 0) s m ([.ref a0, .int a1] : List Value).toArray below meth c Hh_2 Lh_2 0 0 (MQ below (hp_Qv Γ (fun β => cw w_X11_tellNumber α β)) ([.ref a0, .int a1] : List Value).toArray s 0 0 (hp_A Γ)) (F0 m 29 ls []) := by
      intro nq
      induction nq using Nat.strongRecOn with
      | ind nq ih29 =>
      intro αh_2 Hh_2 Lh_2 Bh_2 v2_h_2 ls hl hmu29
      refine lv_iload_n hx hb dX11_tellNumber_29 rfl (lv_at hl 2 rfl) (hp_n (n := 30) rfl ?_)
      refine lv_if_le (tgt := 54) hx hb dX11_tellNumber_30 (by decide) (fun c_3 => ?_) (fun c_3 => hp_n (n := 33) rfl ?_)
      ·
        have jc_3 := il_le c_3
        exact q_vret C Bh_2 hr hlk Bh_2.2.2 dX11_tellNumber_54
      ·
        have jc_3 := il_nle c_3
        refine lv_aload_n hx hb dX11_tellNumber_33 rfl (lv_at hl 0 rfl) (hp_n (n := 34) rfl ?_)
        refine lv_bipush (v := 48) hx hb dX11_tellNumber_34 (by decide) (hp_n (n := 36) rfl ?_)
        refine lv_iload_n hx hb dX11_tellNumber_36 rfl (lv_at hl 1 rfl) (hp_n (n := 37) rfl ?_)
        refine lv_iload_n hx hb dX11_tellNumber_37 rfl (lv_at hl 2 rfl) (hp_n (n := 38) rfl ?_)
        refine lv_idiv hx hb dX11_tellNumber_38 (by intro hz; have hz := il_eq hz; omega) (hp_n (n := 39) rfl (lv_topi (fun x_4 ex_4 => ?_)))
        refine lv_bipush (v := 10) hx hb dX11_tellNumber_39 (by decide) (hp_n (n := 41) rfl ?_)
        refine lv_irem hx hb dX11_tellNumber_41 (by decide) (hp_n (n := 42) rfl (lv_topi (fun x_5 ex_5 => ?_)))
        refine lv_iadd hx hb dX11_tellNumber_42 (hp_n (n := 43) rfl (lv_topi (fun x_6 ex_6 => ?_)))
        refine q_cv (pc' := 46) Bh_2 (hp_runV (As := [.int x_6]) (rest := []) C Bh_2 (t_X11_tellByte Γ l αh_2 Bh_2.2.2.1 a0 (cw_k Bh_2.2.2 k0) x_6) lb_X11_tellByte lv_X11_tellByte lk_X11_493 (cw_k Bh_2.2.2 k0) rfl (by decide) rfl hl.1 rfl (Nat.le_of_ble_eq_true rfl) dX11_tellNumber_43 ⟨Nat.le_refl _, Nat.le_refl _⟩) (fun _ h => cw_tr Bh_2.2.2 h (by decide)) rfl (fun αh_7 Hh_7 Lh_7 ph_7 Bh_7 => ?_)
        refine lv_iload_n hx hb dX11_tellNumber_46 rfl (lv_at hl 2 rfl) (hp_n (n := 47) rfl ?_)
        refine lv_bipush (v := 10) hx hb dX11_tellNumber_47 (by decide) (hp_n (n := 49) rfl ?_)
        refine lv_idiv hx hb dX11_tellNumber_49 (by decide) (hp_n (n := 50) rfl (lv_topi (fun x_8 ex_8 => ?_)))
        refine lv_istore_n (lv' := [(2, .int x_8), (0, .ref a0), (1, .int a1)]) hx hb dX11_tellNumber_50 rfl hl (by decide) rfl (fun ls hl => hp_n (n := 51) rfl ?_)
        refine lv_goto (tgt := 29) hx hb dX11_tellNumber_51 (by decide) ?_
        exact ih29 _ (by rw [ex_8]; have q1 := id_lt10 (x := v2_h_2) (by omega); omega) αh_7 Hh_7 Lh_7 Bh_7 x_8 ls (lv_sub hl [1, 2, 0] rfl) rfl
    refine lv_icmp_ge (tgt := 29) hx hb dX11_tellNumber_7 (by decide) (fun c_9 => ?_) (fun c_9 => hp_n (n := 10) rfl ?_)
    ·
      have jc_9 := il_le c_9
      exact J29 _ α Hh_1 Lh_1 Bh_1 v2_h_1 ls (lv_sub hl [0, 1, 2] rfl) rfl
    ·
      have jc_9 := il_nle c_9
      refine lv_iload_n hx hb dX11_tellNumber_10 rfl (lv_at hl 1 rfl) (hp_n (n := 11) rfl ?_)
      refine lv_bipush (v := 10) hx hb dX11_tellNumber_11 (by decide) (hp_n (n := 13) rfl ?_)
      refine lv_idiv hx hb dX11_tellNumber_13 (by decide) (hp_n (n := 14) rfl (lv_topi (fun x_10 ex_10 => ?_)))
      refine lv_iload_n hx hb dX11_tellNumber_14 rfl (lv_at hl 2 rfl) (hp_n (n := 15) rfl ?_)
      refine lv_icmp_lt (tgt := 29) hx hb dX11_tellNumber_15 (by decide) (fun c_11 => ?_) (fun c_11 => hp_n (n := 18) rfl ?_)
      ·
        have jc_11 := il_lt c_11
        exact J29 _ α Hh_1 Lh_1 Bh_1 v2_h_1 ls (lv_sub hl [0, 1, 2] rfl) rfl
      ·
        have jc_11 := il_nlt c_11
        refine lv_iload_n hx hb dX11_tellNumber_18 rfl (lv_at hl 2 rfl) (hp_n (n := 19) rfl ?_)
        refine lv_bipush (v := 10) hx hb dX11_tellNumber_19 (by decide) (hp_n (n := 21) rfl ?_)
        refine lv_imul hx hb dX11_tellNumber_21 (hp_n (n := 22) rfl (lv_topi (fun x_12 ex_12 => ?_)))
        refine lv_istore_n (lv' := [(2, .int x_12), (0, .ref a0), (1, .int a1), (3, .int v3_h_1)]) hx hb dX11_tellNumber_22 rfl hl (by decide) rfl (fun ls hl => hp_n (n := 23) rfl ?_)
        obtain ⟨x_13, ex_13⟩ : ∃ y : Int32, y = v3_h_1 + 1 := ⟨_, rfl⟩
        have qx_13 : x_13.toInt = v3_h_1.toInt + 1 := by have qa := ib_lo v3_h_1; rw [ex_13]; exact ii_add (by omega) (by omega)
        refine lv_iinc (v := x_13) (lv' := [(3, .int x_13), (2, .int x_12), (0, .ref a0), (1, .int a1)]) hx hb dX11_tellNumber_23 hl (k := 3) rfl (by rw [ex_13]; rfl) (by decide) rfl (fun ls hl => hp_n (n := 26) rfl ?_)
        refine lv_goto (tgt := 4) hx hb dX11_tellNumber_26 (by decide) ?_
        exact ih4 _ (by have qa := ib_hi v3_h_1; have qb := ib_lo v3_h_1; have qc : (v3_h_1 + 1).toInt = v3_h_1.toInt + (1 : Int32).toInt := ii_add (by omega) (by omega); rw [ex_13]; omega) Hh_1 Lh_1 Bh_1 x_12 x_13 (by omega) ls (lv_sub hl [2, 3, 1, 0] rfl) rfl
  refine lv_istore_n (lv' := [(3, .int 0), (2, .int 1), (0, .ref a0), (1, .int a1)]) hx hb dX11_tellNumber_3 rfl hl (by decide) rfl (fun ls hl => hp_n (n := 4) rfl ?_)
  exact J4 _ s.heap [] B 1 0 (by omega) ls (lv_sub hl [2, 3, 1, 0] rfl) rfl
abbrev w_X11_tellProof : cw_W := ([611], [], [25], [])
set_option maxRecDepth 100000 in
set_option maxHeartbeats 4000000 in
theorem t_X11_tellProof (Γ : hp_G) (l : Launch) (α : hp_T) (g : GC α) (a0 : Nat) (k0 : hp_K α a0 = 12) : Met l yX11_tellProof (hp_ws yX11_tellProof cX11_tellProof 2 none) (hp_rm 5 0 0) (hp_Pc Γ α [.ref a0]) (hp_Qv Γ (fun β => cw w_X11_tellProof α β)) 0 0 (hp_A Γ) := by
  refine hp_start (by decide) ?_
  intro p e s m below meth c C hr hlk B0 hnm
  have C : hp_C Γ p m c cX11_tellProof 2 s ([.ref a0] : List Value).toArray RX11 := C
  have hx := C.1.1
  have hb := C.1.2.1
  have hown := C.1.2.2.2.1
  have hts := C.1.2.2.2.2
  have B : hp_B Γ (cw w_X11_tellProof) s α α s.heap [] := ⟨B0.1, B0.2.1, cw_rf g⟩
  have lit0 : (0 : Int32).toInt = 0 := by decide
  have lit1 : (1 : Int32).toInt = 1 := by decide
  have hl := lv_entry ([.ref a0]) (n := 2) (Nat.le_of_ble_eq_true rfl)
  show W p l e (hp_rm 5 0 0) s m ([.ref a0] : List Value).toArray below meth c s.heap [] 0 0 (MQ below (hp_Qv Γ (fun β => cw w_X11_tellProof α β)) ([.ref a0] : List Value).toArray s 0 0 (hp_A Γ)) (entryFrame m ([.ref a0] : List Value).toArray 2)
  rw [lg_entry_eq]
  generalize (lg_sl ([.ref a0]) ++ List.replicate (2 - (lg_sl ([.ref a0])).length) Slot.unset).toArray = ls at hl ⊢
  have hl : lv_has ls 2 [(0, .ref a0)] := hl
  refine lv_aload_n hx hb dX11_tellProof_0 rfl (lv_at hl 0 rfl) (hp_n (n := 1) rfl ?_)
  refine st_ldcw hx hb hown (sr_X11_496 C.2) dX11_tellProof_1 (hp_n (n := 4) rfl ?_)
  refine q_cv (pc' := 7) B (hp_runV (As := [.ref (Γ.2.2.2.2.1 1)]) (rest := []) C B (t_X11_tellText Γ l α B.2.2.1 a0 (cw_k B.2.2 k0) 1 (by decide)) lb_X11_tellText lv_X11_tellText lk_X11_411 (cw_k B.2.2 k0) rfl (by decide) rfl hl.1 rfl (Nat.le_of_ble_eq_true rfl) dX11_tellProof_4 ⟨Nat.le_refl _, Nat.le_refl _⟩) (fun _ h => cw_tr B.2.2 h (by decide)) rfl (fun αh_1 Hh_1 Lh_1 ph_1 Bh_1 => ?_)
  refine lv_iconst (v := 0) hx hb dX11_tellProof_7 (by decide) (hp_n (n := 8) rfl ?_)
  have J9 : ∀ (nq : Nat) (αh_2 : hp_T) (Hh_2 : Heap) (Lh_2 : List Loc) (Bh_2 : hp_B Γ (cw w_X11_tellProof) s α αh_2 Hh_2 Lh_2) (v1_h_2 : Int32) (ih_2_0 : 0 ≤ v1_h_2.toInt) (ls : Array Slot) (hl : lv_has ls 2 [(0, .ref a0), (1, .int v1_h_2)]) (hmu9 : (2147483647 - v1_h_2.toInt).toNat = nq), W p l e (hp_rm 5 0 0) s m ([.ref a0] : List Value).toArray below meth c Hh_2 Lh_2 0 0 (MQ below (hp_Qv Γ (fun β => cw w_X11_tellProof α β)) ([.ref a0] : List Value).toArray s 0 0 (hp_A Γ)) (F0 m 9 ls []) := by
    intro nq
    induction nq using Nat.strongRecOn with
    | ind nq ih9 =>
    intro αh_2 Hh_2 Lh_2 Bh_2 v1_h_2 ih_2_0 ls hl hmu9
    have inv9_0 := ih_2_0
    refine lv_iload_n hx hb dX11_tellProof_9 rfl (lv_at hl 1 rfl) (hp_n (n := 10) rfl ?_)
    refine lv_aload_n hx hb dX11_tellProof_10 rfl (lv_at hl 0 rfl) (hp_n (n := 11) rfl ?_)
    refine q_getr (κ := 12) (k := 14) (φ := 614) (pc' := 14) C Bh_2 (cw_k Bh_2.2.2 k0) fl_X11_69 rfl rfl rfl (cw_r Bh_2.2.2 k0 rfl rfl (by decide) (by decide)) dX11_tellProof_11 rfl (fun b_3 eb_3 kb_3 => ?_)
    refine q_geti (κ := 6) (k := 1) (φ := 301) (pc' := 17) C Bh_2 (cw_k Bh_2.2.2 kb_3) fl_X11_132 rfl rfl rfl dX11_tellProof_14 rfl (fun x_4 ex_4 => ?_)
    refine lv_icmp_ge (tgt := 45) hx hb dX11_tellProof_17 (by decide) (fun c_5 => ?_) (fun c_5 => hp_n (n := 20) rfl ?_)
    ·
      have jc_5 := il_le c_5
      refine lv_aload_n hx hb dX11_tellProof_45 rfl (lv_at hl 0 rfl) (hp_n (n := 46) rfl ?_)
      refine st_ldcw hx hb hown (sr_X11_500 C.2) dX11_tellProof_46 (hp_n (n := 49) rfl ?_)
      refine q_cv (pc' := 52) Bh_2 (hp_runV (As := [.ref (Γ.2.2.2.2.1 6)]) (rest := []) C Bh_2 (t_X11_tellText Γ l αh_2 Bh_2.2.2.1 a0 (cw_k Bh_2.2.2 k0) 6 (by decide)) lb_X11_tellText lv_X11_tellText lk_X11_411 (cw_k Bh_2.2.2 k0) rfl (by decide) rfl hl.1 rfl (Nat.le_of_ble_eq_true rfl) dX11_tellProof_49 ⟨Nat.le_refl _, Nat.le_refl _⟩) (fun _ h => cw_tr Bh_2.2.2 h (by decide)) rfl (fun αh_6 Hh_6 Lh_6 ph_6 Bh_6 => ?_)
      exact q_vret C Bh_6 hr hlk Bh_6.2.2 dX11_tellProof_52
    ·
      have jc_5 := il_nle c_5
      refine lv_aload_n hx hb dX11_tellProof_20 rfl (lv_at hl 0 rfl) (hp_n (n := 21) rfl ?_)
      refine st_ldcw hx hb hown (sr_X11_498 C.2) dX11_tellProof_21 (hp_n (n := 24) rfl ?_)
      refine q_cv (pc' := 27) Bh_2 (hp_runV (As := [.ref (Γ.2.2.2.2.1 0)]) (rest := []) C Bh_2 (t_X11_tellText Γ l αh_2 Bh_2.2.2.1 a0 (cw_k Bh_2.2.2 k0) 0 (by decide)) lb_X11_tellText lv_X11_tellText lk_X11_411 (cw_k Bh_2.2.2 k0) rfl (by decide) rfl hl.1 rfl (Nat.le_of_ble_eq_true rfl) dX11_tellProof_24 ⟨Nat.le_refl _, Nat.le_refl _⟩) (fun _ h => cw_tr Bh_2.2.2 h (by decide)) rfl (fun αh_7 Hh_7 Lh_7 ph_7 Bh_7 => ?_)
      refine lv_aload_n hx hb dX11_tellProof_27 rfl (lv_at hl 0 rfl) (hp_n (n := 28) rfl ?_)
      refine lv_aload_n hx hb dX11_tellProof_28 rfl (lv_at hl 0 rfl) (hp_n (n := 29) rfl ?_)
      have t_8 : b_3 = hp_R αh_7 614 a0 := by rw [cw_R ph_7 a0 (by decide)]; exact eb_3
      refine q_gets (κ := 12) (k := 14) (φ := 614) (pc' := 32) C Bh_7 (cw_k Bh_7.2.2 k0) fl_X11_69 rfl rfl rfl t_8 dX11_tellProof_29 rfl ?_
      refine lv_iload_n hx hb dX11_tellProof_32 rfl (lv_at hl 1 rfl) (hp_n (n := 33) rfl ?_)
      refine q_ci (pc' := 36) Bh_7 (hp_runV (As := [.int v1_h_2]) (rest := [.ref a0]) C Bh_7 (t_X5_at Γ l αh_7 Bh_7.2.2.1 b_3 (cw_k Bh_7.2.2 kb_3) v1_h_2) lb_X5_at lv_X5_at lk_X11_135 (cw_k Bh_7.2.2 kb_3) rfl (by decide) rfl hl.1 rfl (Nat.le_of_ble_eq_true rfl) dX11_tellProof_33 ⟨Nat.le_refl _, Nat.le_refl _⟩) (fun _ _ h => by rw [h]; exact Bh_7.2.2) rfl (fun rh_9 αh_9 Hh_9 Lh_9 ph_9 Bh_9 => ?_)
      rw [ph_9] at Bh_9
      refine q_cv (pc' := 39) Bh_9 (hp_runV (As := [.int rh_9]) (rest := []) C Bh_9 (t_X11_tellNumber Γ l αh_7 Bh_9.2.2.1 a0 (cw_k Bh_9.2.2 k0) rh_9) lb_X11_tellNumber lv_X11_tellNumber lk_X11_415 (cw_k Bh_9.2.2 k0) rfl (by decide) rfl hl.1 rfl (Nat.le_of_ble_eq_true rfl) dX11_tellProof_36 ⟨Nat.le_refl _, Nat.le_refl _⟩) (fun _ h => cw_tr Bh_9.2.2 h (by decide)) rfl (fun αh_10 Hh_10 Lh_10 ph_10 Bh_10 => ?_)
      obtain ⟨x_11, ex_11⟩ : ∃ y : Int32, y = v1_h_2 + 1 := ⟨_, rfl⟩
      have qx_11 : x_11.toInt = v1_h_2.toInt + 1 := by have q0 := ib_hi x_4; have qa := ib_lo v1_h_2; rw [ex_11]; exact ii_add (by omega) (by omega)
      refine lv_iinc (v := x_11) (lv' := [(1, .int x_11), (0, .ref a0)]) hx hb dX11_tellProof_39 hl (k := 1) rfl (by rw [ex_11]; rfl) (by decide) rfl (fun ls hl => hp_n (n := 42) rfl ?_)
      refine lv_goto (tgt := 9) hx hb dX11_tellProof_42 (by decide) ?_
      exact ih9 _ (by have q0 := ib_hi x_4; have q1 := ib_lo x_4; have qa := ib_hi v1_h_2; have qb := ib_lo v1_h_2; have qc : (v1_h_2 + 1).toInt = v1_h_2.toInt + (1 : Int32).toInt := ii_add (by omega) (by omega); rw [ex_11]; omega) αh_10 Hh_10 Lh_10 Bh_10 x_11 (by omega) ls (lv_sub hl [1, 0] rfl) rfl
  refine lv_istore_n (lv' := [(1, .int 0), (0, .ref a0)]) hx hb dX11_tellProof_8 rfl hl (by decide) rfl (fun ls hl => hp_n (n := 9) rfl ?_)
  exact J9 _ αh_1 Hh_1 Lh_1 Bh_1 0 (by omega) ls (lv_sub hl [1, 0] rfl) rfl
abbrev w_X11_tell : cw_W := ([301, 453, 454, 600, 611], [], [20, 21, 22, 23, 25, 33], [])
abbrev w_X11_tellGrowth : cw_W := ([301, 453, 454, 600, 611], [], [20, 21, 22, 23, 25, 33], [])
abbrev w_X11_out : cw_W := ([600], [], [], [])
set_option maxRecDepth 100000 in
set_option maxHeartbeats 4000000 in
theorem t_X11_out (Γ : hp_G) (l : Launch) (α : hp_T) (g : GC α) (a0 : Nat) (k0 : hp_K α a0 = 12) (a1 : Int32) : Met l yX11_out (hp_ws yX11_out cX11_out 2 (some .int)) (hp_rm 1 0 0) (hp_Pc Γ α [.ref a0, .int a1]) (hp_Qi Γ (fun r β => cw w_X11_out α β)) 0 0 (hp_A Γ) := by
  refine hp_start (by decide) ?_
  intro p e s m below meth c C hr hlk B0 hnm
  have C : hp_C Γ p m c cX11_out 2 s ([.ref a0, .int a1] : List Value).toArray RX11 := C
  have hx := C.1.1
  have hb := C.1.2.1
  have hown := C.1.2.2.2.1
  have hts := C.1.2.2.2.2
  have B : hp_B Γ (cw w_X11_out) s α α s.heap [] := ⟨B0.1, B0.2.1, cw_rf g⟩
  have lit0 : (0 : Int32).toInt = 0 := by decide
  have lit1 : (1 : Int32).toInt = 1 := by decide
  have lit5 : (5 : Int32).toInt = 5 := by decide
  have lit256 : (256 : Int32).toInt = 256 := by decide
  have hl := lv_entry ([.ref a0, .int a1]) (n := 2) (Nat.le_of_ble_eq_true rfl)
  show W p l e (hp_rm 1 0 0) s m ([.ref a0, .int a1] : List Value).toArray below meth c s.heap [] 0 0 (MQ below (hp_Qi Γ (fun r β => cw w_X11_out α β)) ([.ref a0, .int a1] : List Value).toArray s 0 0 (hp_A Γ)) (entryFrame m ([.ref a0, .int a1] : List Value).toArray 2)
  rw [lg_entry_eq]
  generalize (lg_sl ([.ref a0, .int a1]) ++ List.replicate (2 - (lg_sl ([.ref a0, .int a1])).length) Slot.unset).toArray = ls at hl ⊢
  have hl : lv_has ls 2 [(0, .ref a0), (1, .int a1)] := hl
  refine lv_iload_n hx hb dX11_out_0 rfl (lv_at hl 1 rfl) (hp_n (n := 1) rfl ?_)
  refine lv_if_ge (tgt := 10) hx hb dX11_out_1 (by decide) (fun c_1 => ?_) (fun c_1 => hp_n (n := 4) rfl ?_)
  ·
    have jc_1 := il_le c_1
    refine lv_iload_n hx hb dX11_out_10 rfl (lv_at hl 1 rfl) (hp_n (n := 11) rfl ?_)
    refine lv_aload_n hx hb dX11_out_11 rfl (lv_at hl 0 rfl) (hp_n (n := 12) rfl ?_)
    refine q_geti (κ := 12) (k := 11) (φ := 611) (pc' := 15) C B (cw_k B.2.2 k0) fl_X11_56 rfl rfl rfl dX11_out_12 rfl (fun x_2 ex_2 => ?_)
    have J40 : ∀ (Hh_3 : Heap) (Lh_3 : List Loc) (Bh_3 : hp_B Γ (cw w_X11_out) s α α Hh_3 Lh_3) (ls : Array Slot) (hl : lv_has ls 2 [(0, .ref a0)]), W p l e (hp_rm 1 0 0) s m ([.ref a0, .int a1] : List Value).toArray below meth c Hh_3 Lh_3 0 0 (MQ below (hp_Qi Γ (fun r β => cw w_X11_out α β)) ([.ref a0, .int a1] : List Value).toArray s 0 0 (hp_A Γ)) (F0 m 40 ls []) := by
      intro Hh_3 Lh_3 Bh_3 ls hl
      refine lv_aload_n hx hb dX11_out_40 rfl (lv_at hl 0 rfl) (hp_n (n := 41) rfl ?_)
      refine lv_iconst (v := 5) hx hb dX11_out_41 (by decide) (hp_n (n := 42) rfl ?_)
      refine q_ci (pc' := 45) Bh_3 (hp_runV (As := [.int 5]) (rest := []) C Bh_3 (t_X11_refuse Γ l α Bh_3.2.2.1 a0 (cw_k Bh_3.2.2 k0) 5) lb_X11_refuse lv_X11_refuse lk_X11_98 (cw_k Bh_3.2.2 k0) rfl (by decide) rfl hl.1 rfl (Nat.le_of_ble_eq_true rfl) dX11_out_42 ⟨Nat.le_refl _, Nat.le_refl _⟩) (fun _ _ h => cw_tr Bh_3.2.2 h (by decide)) rfl (fun rh_4 αh_4 Hh_4 Lh_4 ph_4 Bh_4 => ?_)
      exact q_iret C Bh_4 hr hlk Bh_4.2.2 dX11_out_45
    refine lv_icmp_ge (tgt := 40) hx hb dX11_out_15 (by decide) (fun c_5 => ?_) (fun c_5 => hp_n (n := 18) rfl ?_)
    ·
      have jc_5 := il_le c_5
      exact J40 s.heap [] B ls (lv_sub hl [0] rfl)
    ·
      have jc_5 := il_nle c_5
      refine lv_iload_n hx hb dX11_out_18 rfl (lv_at hl 1 rfl) (hp_n (n := 19) rfl ?_)
      refine lv_aload_n hx hb dX11_out_19 rfl (lv_at hl 0 rfl) (hp_n (n := 20) rfl ?_)
      refine q_getr (κ := 12) (k := 10) (φ := 610) (pc' := 23) C B (cw_k B.2.2 k0) fl_X11_53 rfl rfl rfl (cw_r B.2.2 k0 rfl rfl (by decide) (by decide)) dX11_out_20 rfl (fun b_6 eb_6 kb_6 => ?_)
      refine q_alen (κ := 25) (t := 1) (n := 256) (x := 256) (ty := .byte) (pc' := 24) C B (cw_k B.2.2 kb_6) (by decide) rfl rfl rfl dX11_out_23 rfl ?_
      refine lv_icmp_ge (tgt := 40) hx hb dX11_out_24 (by decide) (fun c_7 => ?_) (fun c_7 => hp_n (n := 27) rfl ?_)
      ·
        have jc_7 := il_le c_7
        exact J40 s.heap [] B ls (lv_sub hl [0] rfl)
      ·
        have jc_7 := il_nle c_7
        refine lv_aload_n hx hb dX11_out_27 rfl (lv_at hl 0 rfl) (hp_n (n := 28) rfl ?_)
        refine lv_aload_n hx hb dX11_out_28 rfl (lv_at hl 0 rfl) (hp_n (n := 29) rfl ?_)
        refine q_gets (κ := 12) (k := 10) (φ := 610) (pc' := 32) C B (cw_k B.2.2 k0) fl_X11_53 rfl rfl rfl eb_6 dX11_out_29 rfl ?_
        refine lv_iload_n hx hb dX11_out_32 rfl (lv_at hl 1 rfl) (hp_n (n := 33) rfl ?_)
        refine q_bal (κ := 25) (n := 256) (pc' := 34) C B (cw_k B.2.2 kb_6) (by decide) rfl (vi_of (by omega) (by omega)) dX11_out_33 rfl (lv_topi (fun x_8 ex_8 => ?_))
        refine q_ci (pc' := 37) B (hp_runV (As := [.int x_8]) (rest := []) C B (t_X11_answer Γ l α B.2.2.1 a0 (cw_k B.2.2 k0) x_8) lb_X11_answer lv_X11_answer lk_X11_115 (cw_k B.2.2 k0) rfl (by decide) rfl hl.1 rfl (Nat.le_of_ble_eq_true rfl) dX11_out_34 ⟨Nat.le_refl _, Nat.le_refl _⟩) (fun _ _ h => cw_tr B.2.2 h (by decide)) rfl (fun rh_9 αh_9 Hh_9 Lh_9 ph_9 Bh_9 => ?_)
        refine lv_goto (tgt := 45) hx hb dX11_out_37 (by decide) ?_
        exact q_iret C Bh_9 hr hlk Bh_9.2.2 dX11_out_45
  ·
    have jc_1 := il_nle c_1
    refine lv_aload_n hx hb dX11_out_4 rfl (lv_at hl 0 rfl) (hp_n (n := 5) rfl ?_)
    refine lv_iconst (v := 1) hx hb dX11_out_5 (by decide) (hp_n (n := 6) rfl ?_)
    refine q_ci (pc' := 9) B (hp_runV (As := [.int 1]) (rest := []) C B (t_X11_refuse Γ l α B.2.2.1 a0 (cw_k B.2.2 k0) 1) lb_X11_refuse lv_X11_refuse lk_X11_98 (cw_k B.2.2 k0) rfl (by decide) rfl hl.1 rfl (Nat.le_of_ble_eq_true rfl) dX11_out_6 ⟨Nat.le_refl _, Nat.le_refl _⟩) (fun _ _ h => cw_tr B.2.2 h (by decide)) rfl (fun rh_10 αh_10 Hh_10 Lh_10 ph_10 Bh_10 => ?_)
    exact q_iret C Bh_10 hr hlk Bh_10.2.2 dX11_out_9
abbrev w_X11_trusted : cw_W := ([600], [], [], [])
set_option maxRecDepth 100000 in
set_option maxHeartbeats 4000000 in
theorem t_X11_trusted (Γ : hp_G) (l : Launch) (α : hp_T) (g : GC α) (a0 : Nat) (k0 : hp_K α a0 = 12) (a1 : Int32) (a2 : Int32) : Met l yX11_trusted (hp_ws yX11_trusted cX11_trusted 6 (some .int)) (hp_rm 1 0 0) (hp_Pc Γ α [.ref a0, .int a1, .int a2]) (hp_Qi Γ (fun r β => cw w_X11_trusted α β)) 0 0 (hp_A Γ) := by
  refine hp_start (by decide) ?_
  intro p e s m below meth c C hr hlk B0 hnm
  have C : hp_C Γ p m c cX11_trusted 6 s ([.ref a0, .int a1, .int a2] : List Value).toArray RX11 := C
  have hx := C.1.1
  have hb := C.1.2.1
  have hown := C.1.2.2.2.1
  have hts := C.1.2.2.2.2
  have B : hp_B Γ (cw w_X11_trusted) s α α s.heap [] := ⟨B0.1, B0.2.1, cw_rf g⟩
  have lit0 : (0 : Int32).toInt = 0 := by decide
  have lit1 : (1 : Int32).toInt = 1 := by decide
  have lit4 : (4 : Int32).toInt = 4 := by decide
  have hl := lv_entry ([.ref a0, .int a1, .int a2]) (n := 6) (Nat.le_of_ble_eq_true rfl)
  show W p l e (hp_rm 1 0 0) s m ([.ref a0, .int a1, .int a2] : List Value).toArray below meth c s.heap [] 0 0 (MQ below (hp_Qi Γ (fun r β => cw w_X11_trusted α β)) ([.ref a0, .int a1, .int a2] : List Value).toArray s 0 0 (hp_A Γ)) (entryFrame m ([.ref a0, .int a1, .int a2] : List Value).toArray 6)
  rw [lg_entry_eq]
  generalize (lg_sl ([.ref a0, .int a1, .int a2]) ++ List.replicate (6 - (lg_sl ([.ref a0, .int a1, .int a2])).length) Slot.unset).toArray = ls at hl ⊢
  have hl : lv_has ls 6 [(0, .ref a0), (1, .int a1), (2, .int a2)] := hl
  refine lv_iload_n hx hb dX11_trusted_0 rfl (lv_at hl 1 rfl) (hp_n (n := 1) rfl ?_)
  have J12 : ∀ (Hh_1 : Heap) (Lh_1 : List Loc) (Bh_1 : hp_B Γ (cw w_X11_trusted) s α α Hh_1 Lh_1) (ls : Array Slot) (hl : lv_has ls 6 [(0, .ref a0)]), W p l e (hp_rm 1 0 0) s m ([.ref a0, .int a1, .int a2] : List Value).toArray below meth c Hh_1 Lh_1 0 0 (MQ below (hp_Qi Γ (fun r β => cw w_X11_trusted α β)) ([.ref a0, .int a1, .int a2] : List Value).toArray s 0 0 (hp_A Γ)) (F0 m 12 ls []) := by
    intro Hh_1 Lh_1 Bh_1 ls hl
    refine lv_aload_n hx hb dX11_trusted_12 rfl (lv_at hl 0 rfl) (hp_n (n := 13) rfl ?_)
    refine lv_iconst (v := 1) hx hb dX11_trusted_13 (by decide) (hp_n (n := 14) rfl ?_)
    refine q_ci (pc' := 17) Bh_1 (hp_runV (As := [.int 1]) (rest := []) C Bh_1 (t_X11_refuse Γ l α Bh_1.2.2.1 a0 (cw_k Bh_1.2.2 k0) 1) lb_X11_refuse lv_X11_refuse lk_X11_98 (cw_k Bh_1.2.2 k0) rfl (by decide) rfl hl.1 rfl (Nat.le_of_ble_eq_true rfl) dX11_trusted_14 ⟨Nat.le_refl _, Nat.le_refl _⟩) (fun _ _ h => cw_tr Bh_1.2.2 h (by decide)) rfl (fun rh_2 αh_2 Hh_2 Lh_2 ph_2 Bh_2 => ?_)
    exact q_iret C Bh_2 hr hlk Bh_2.2.2 dX11_trusted_17
  refine lv_if_lt (tgt := 12) hx hb dX11_trusted_1 (by decide) (fun c_3 => ?_) (fun c_3 => hp_n (n := 4) rfl ?_)
  ·
    have jc_3 := il_lt c_3
    exact J12 s.heap [] B ls (lv_sub hl [0] rfl)
  ·
    have jc_3 := il_nlt c_3
    refine lv_aload_n hx hb dX11_trusted_4 rfl (lv_at hl 0 rfl) (hp_n (n := 5) rfl ?_)
    refine lv_iload_n hx hb dX11_trusted_5 rfl (lv_at hl 2 rfl) (hp_n (n := 6) rfl ?_)
    refine q_ci (pc' := 9) B (hp_runV (As := [.int a2]) (rest := []) C B (t_X11_isMark Γ l α B.2.2.1 a0 (cw_k B.2.2 k0) a2) lb_X11_isMark lv_X11_isMark lk_X11_188 (cw_k B.2.2 k0) rfl (by decide) rfl hl.1 rfl (Nat.le_of_ble_eq_true rfl) dX11_trusted_6 ⟨Nat.le_refl _, Nat.le_refl _⟩) (fun _ _ h => by rw [h.1]; exact B.2.2) rfl (fun rh_4 αh_4 Hh_4 Lh_4 ph_4 Bh_4 => ?_)
    rw [ph_4.1] at Bh_4
    have zh_4 := ph_4.2
    refine lv_if_ne (tgt := 18) hx hb dX11_trusted_9 (by decide) (fun c_5 => ?_) (fun c_5 => hp_n (n := 12) rfl ?_)
    ·
      have jc_5 := il_ne c_5
      refine lv_iconst (v := 0) hx hb dX11_trusted_18 (by decide) (hp_n (n := 19) rfl ?_)
      refine lv_istore_n (lv' := [(3, .int 0), (0, .ref a0), (1, .int a1), (2, .int a2)]) hx hb dX11_trusted_19 rfl hl (by decide) rfl (fun ls hl => hp_n (n := 20) rfl ?_)
      refine lv_iconst (v := 0) hx hb dX11_trusted_20 (by decide) (hp_n (n := 21) rfl ?_)
      have J23 : ∀ (nq : Nat) (Hh_6 : Heap) (Lh_6 : List Loc) (Bh_6 : hp_B Γ (cw w_X11_trusted) s α α Hh_6 Lh_6) (v3_h_6 : Int32) (v4_h_6 : Int32) (ih_6_0 : 0 ≤ v4_h_6.toInt) (ls : Array Slot) (hl : lv_has ls 6 [(0, .ref a0), (1, .int a1), (2, .int a2), (3, .int v3_h_6), (4, .int v4_h_6)]) (hmu23 : (2147483647 - v4_h_6.toInt).toNat = nq), W p l e (hp_rm 1 0 0) s m ([.ref a0, .int a1, .int a2] : List Value).toArray below meth c Hh_6 Lh_6 0 0 (MQ below (hp_Qi Γ (fun r β => cw w_X11_trusted α β)) ([.ref a0, .int a1, .int a2] : List Value).toArray s 0 0 (hp_A Γ)) (F0 m 23 ls []) := by
        intro nq
        induction nq using Nat.strongRecOn with
        | ind nq ih23 =>
        intro Hh_6 Lh_6 Bh_6 v3_h_6 v4_h_6 ih_6_0 ls hl hmu23
        have inv23_0 := ih_6_0
        refine lv_iload hx hb dX11_trusted_23 (lv_at hl 4 rfl) (hp_n (n := 25) rfl ?_)
        refine lv_iconst (v := 4) hx hb dX11_trusted_25 (by decide) (hp_n (n := 26) rfl ?_)
        refine lv_icmp_ge (tgt := 72) hx hb dX11_trusted_26 (by decide) (fun c_7 => ?_) (fun c_7 => hp_n (n := 29) rfl ?_)
        ·
          have jc_7 := il_le c_7
          refine lv_aload_n hx hb dX11_trusted_72 rfl (lv_at hl 0 rfl) (hp_n (n := 73) rfl ?_)
          refine lv_iload_n hx hb dX11_trusted_73 rfl (lv_at hl 3 rfl) (hp_n (n := 74) rfl ?_)
          refine q_ci (pc' := 77) Bh_6 (hp_runV (As := [.int v3_h_6]) (rest := []) C Bh_6 (t_X11_answer Γ l α Bh_6.2.2.1 a0 (cw_k Bh_6.2.2 k0) v3_h_6) lb_X11_answer lv_X11_answer lk_X11_115 (cw_k Bh_6.2.2 k0) rfl (by decide) rfl hl.1 rfl (Nat.le_of_ble_eq_true rfl) dX11_trusted_74 ⟨Nat.le_refl _, Nat.le_refl _⟩) (fun _ _ h => cw_tr Bh_6.2.2 h (by decide)) rfl (fun rh_8 αh_8 Hh_8 Lh_8 ph_8 Bh_8 => ?_)
          exact q_iret C Bh_8 hr hlk Bh_8.2.2 dX11_trusted_77
        ·
          have jc_7 := il_nle c_7
          refine lv_aload_n hx hb dX11_trusted_29 rfl (lv_at hl 0 rfl) (hp_n (n := 30) rfl ?_)
          refine q_getr (κ := 12) (k := 1) (φ := 601) (pc' := 33) C Bh_6 (cw_k Bh_6.2.2 k0) fl_X11_16 rfl rfl rfl (cw_r Bh_6.2.2 k0 rfl rfl (by decide) (by decide)) dX11_trusted_30 rfl (fun b_9 eb_9 kb_9 => ?_)
          refine lv_iload hx hb dX11_trusted_33 (lv_at hl 4 rfl) (hp_n (n := 35) rfl ?_)
          refine q_cq (pc' := 38) Bh_6 (hp_runV (As := [.int v4_h_6]) (rest := []) C Bh_6 (t_X10_watcherAt Γ l α Bh_6.2.2.1 b_9 (cw_k Bh_6.2.2 kb_9) v4_h_6) lb_X10_watcherAt lv_X10_watcherAt lk_X11_220 (cw_k Bh_6.2.2 kb_9) rfl (by decide) rfl hl.1 rfl (Nat.le_of_ble_eq_true rfl) dX11_trusted_35 ⟨Nat.le_refl _, Nat.le_refl _⟩) (fun _ _ h => by rw [h.1]; exact Bh_6.2.2) rfl (fun rh_10 αh_10 Hh_10 Lh_10 ph_10 Bh_10 => ?_)
          rw [ph_10.1] at Bh_10
          rcases rh_10 with _ | bh_10
          ·
            refine lv_astoreN (lv' := [(5, .null), (0, .ref a0), (1, .int a1), (2, .int a2), (3, .int v3_h_6), (4, .int v4_h_6)]) hx hb dX11_trusted_38 hl (by decide) rfl (fun ls hl => hp_n (n := 40) rfl ?_)
            refine lv_aloadN hx hb dX11_trusted_40 (lv_at hl 0 rfl) (hp_n (n := 42) rfl ?_)
            refine lv_ifnullN (tgt := 66) hx hb dX11_trusted_42 (by decide) ?_
            obtain ⟨x_11, ex_11⟩ : ∃ y : Int32, y = v4_h_6 + 1 := ⟨_, rfl⟩
            have qx_11 : x_11.toInt = v4_h_6.toInt + 1 := by have qa := ib_lo v4_h_6; rw [ex_11]; exact ii_add (by omega) (by omega)
            refine lv_iinc (v := x_11) (lv' := [(4, .int x_11), (5, .null), (0, .ref a0), (1, .int a1), (2, .int a2), (3, .int v3_h_6)]) hx hb dX11_trusted_66 hl (k := 5) rfl (by rw [ex_11]; rfl) (by decide) rfl (fun ls hl => hp_n (n := 69) rfl ?_)
            refine lv_goto (tgt := 23) hx hb dX11_trusted_69 (by decide) ?_
            exact ih23 _ (by have qa := ib_hi v4_h_6; have qb := ib_lo v4_h_6; have qc : (v4_h_6 + 1).toInt = v4_h_6.toInt + (1 : Int32).toInt := ii_add (by omega) (by omega); rw [ex_11]; omega) Hh_10 Lh_10 Bh_10 v3_h_6 x_11 (by omega) ls (lv_sub hl [2, 3, 4, 5, 0] rfl) rfl
          ·
            have kbh_10 : hp_K α bh_10 = 8 := cw_k' Bh_10.2.2 (ph_10.2 bh_10 rfl)
            refine lv_astore (lv' := [(5, .ref bh_10), (0, .ref a0), (1, .int a1), (2, .int a2), (3, .int v3_h_6), (4, .int v4_h_6)]) hx hb dX11_trusted_38 hl (by decide) rfl (fun ls hl => hp_n (n := 40) rfl ?_)
            refine lv_aload hx hb dX11_trusted_40 (lv_at hl 0 rfl) (hp_n (n := 42) rfl ?_)
            refine lv_ifnull hx hb dX11_trusted_42 (hp_n (n := 45) rfl ?_)
            refine lv_aload hx hb dX11_trusted_45 (lv_at hl 0 rfl) (hp_n (n := 47) rfl ?_)
            refine q_geti (κ := 8) (k := 0) (φ := 400) (pc' := 50) C Bh_10 (cw_k Bh_10.2.2 kbh_10) fl_X11_224 rfl rfl rfl dX11_trusted_47 rfl (fun x_12 ex_12 => ?_)
            refine lv_iload_n hx hb dX11_trusted_50 rfl (lv_at hl 2 rfl) (hp_n (n := 51) rfl ?_)
            refine lv_icmp_ne (tgt := 66) hx hb dX11_trusted_51 (by decide) (fun c_13 => ?_) (fun c_13 => hp_n (n := 54) rfl ?_)
            ·
              have jc_13 := il_ne c_13
              obtain ⟨x_14, ex_14⟩ : ∃ y : Int32, y = v4_h_6 + 1 := ⟨_, rfl⟩
              have qx_14 : x_14.toInt = v4_h_6.toInt + 1 := by have qa := ib_lo v4_h_6; rw [ex_14]; exact ii_add (by omega) (by omega)
              refine lv_iinc (v := x_14) (lv' := [(4, .int x_14), (5, .ref bh_10), (0, .ref a0), (1, .int a1), (2, .int a2), (3, .int v3_h_6)]) hx hb dX11_trusted_66 hl (k := 5) rfl (by rw [ex_14]; rfl) (by decide) rfl (fun ls hl => hp_n (n := 69) rfl ?_)
              refine lv_goto (tgt := 23) hx hb dX11_trusted_69 (by decide) ?_
              exact ih23 _ (by have qa := ib_hi v4_h_6; have qb := ib_lo v4_h_6; have qc : (v4_h_6 + 1).toInt = v4_h_6.toInt + (1 : Int32).toInt := ii_add (by omega) (by omega); rw [ex_14]; omega) Hh_10 Lh_10 Bh_10 v3_h_6 x_14 (by omega) ls (lv_sub hl [2, 3, 4, 5, 0] rfl) rfl
            ·
              have jc_13 := il_eq c_13
              refine lv_aload hx hb dX11_trusted_54 (lv_at hl 0 rfl) (hp_n (n := 56) rfl ?_)
              refine q_geti (κ := 8) (k := 1) (φ := 401) (pc' := 59) C Bh_10 (cw_k Bh_10.2.2 kbh_10) fl_X11_227 rfl rfl rfl dX11_trusted_56 rfl (fun x_15 ex_15 => ?_)
              refine lv_iload_n hx hb dX11_trusted_59 rfl (lv_at hl 3 rfl) (hp_n (n := 60) rfl ?_)
              refine lv_icmp_ne (tgt := 66) hx hb dX11_trusted_60 (by decide) (fun c_16 => ?_) (fun c_16 => hp_n (n := 63) rfl ?_)
              ·
                have jc_16 := il_ne c_16
                obtain ⟨x_17, ex_17⟩ : ∃ y : Int32, y = v4_h_6 + 1 := ⟨_, rfl⟩
                have qx_17 : x_17.toInt = v4_h_6.toInt + 1 := by have qa := ib_lo v4_h_6; rw [ex_17]; exact ii_add (by omega) (by omega)
                refine lv_iinc (v := x_17) (lv' := [(4, .int x_17), (5, .ref bh_10), (0, .ref a0), (1, .int a1), (2, .int a2), (3, .int v3_h_6)]) hx hb dX11_trusted_66 hl (k := 5) rfl (by rw [ex_17]; rfl) (by decide) rfl (fun ls hl => hp_n (n := 69) rfl ?_)
                refine lv_goto (tgt := 23) hx hb dX11_trusted_69 (by decide) ?_
                exact ih23 _ (by have qa := ib_hi v4_h_6; have qb := ib_lo v4_h_6; have qc : (v4_h_6 + 1).toInt = v4_h_6.toInt + (1 : Int32).toInt := ii_add (by omega) (by omega); rw [ex_17]; omega) Hh_10 Lh_10 Bh_10 v3_h_6 x_17 (by omega) ls (lv_sub hl [2, 3, 4, 5, 0] rfl) rfl
              ·
                have jc_16 := il_eq c_16
                obtain ⟨x_18, ex_18⟩ : ∃ y : Int32, y = v3_h_6 + 1 := ⟨_, rfl⟩
                refine lv_iinc (v := x_18) (lv' := [(3, .int x_18), (5, .ref bh_10), (0, .ref a0), (1, .int a1), (2, .int a2), (4, .int v4_h_6)]) hx hb dX11_trusted_63 hl (k := 4) rfl (by rw [ex_18]; rfl) (by decide) rfl (fun ls hl => hp_n (n := 66) rfl ?_)
                obtain ⟨x_19, ex_19⟩ : ∃ y : Int32, y = v4_h_6 + 1 := ⟨_, rfl⟩
                have qx_19 : x_19.toInt = v4_h_6.toInt + 1 := by have qa := ib_lo v4_h_6; rw [ex_19]; exact ii_add (by omega) (by omega)
                refine lv_iinc (v := x_19) (lv' := [(4, .int x_19), (3, .int x_18), (5, .ref bh_10), (0, .ref a0), (1, .int a1), (2, .int a2)]) hx hb dX11_trusted_66 hl (k := 5) rfl (by rw [ex_19]; rfl) (by decide) rfl (fun ls hl => hp_n (n := 69) rfl ?_)
                refine lv_goto (tgt := 23) hx hb dX11_trusted_69 (by decide) ?_
                exact ih23 _ (by have qa := ib_hi v4_h_6; have qb := ib_lo v4_h_6; have qc : (v4_h_6 + 1).toInt = v4_h_6.toInt + (1 : Int32).toInt := ii_add (by omega) (by omega); rw [ex_19]; omega) Hh_10 Lh_10 Bh_10 x_18 x_19 (by omega) ls (lv_sub hl [3, 4, 5, 1, 0] rfl) rfl
      refine lv_istore (lv' := [(4, .int 0), (3, .int 0), (0, .ref a0), (1, .int a1), (2, .int a2)]) hx hb dX11_trusted_21 hl (by decide) rfl (fun ls hl => hp_n (n := 23) rfl ?_)
      exact J23 _ Hh_4 Lh_4 Bh_4 0 0 (by omega) ls (lv_sub hl [2, 3, 4, 1, 0] rfl) rfl
    ·
      have jc_5 := il_eq c_5
      exact J12 Hh_4 Lh_4 Bh_4 ls (lv_sub hl [0] rfl)
abbrev w_X11_saves : cw_W := ([453, 454, 600], [], [21, 22, 23], [])
set_option maxRecDepth 100000 in
set_option maxHeartbeats 4000000 in
theorem t_X11_saves (Γ : hp_G) (l : Launch) (α : hp_T) (g : GC α) (a0 : Nat) (k0 : hp_K α a0 = 12) (a1 : Int32) (a2 : Int32) : Met l yX11_saves (hp_ws yX11_saves cX11_saves 5 (some .int)) (hp_rm 5 0 0) (hp_Pc Γ α [.ref a0, .int a1, .int a2]) (hp_Qi Γ (fun r β => cw w_X11_saves α β)) 0 0 (hp_A Γ) := by
  refine hp_start (by decide) ?_
  intro p e s m below meth c C hr hlk B0 hnm
  have C : hp_C Γ p m c cX11_saves 5 s ([.ref a0, .int a1, .int a2] : List Value).toArray RX11 := C
  have hx := C.1.1
  have hb := C.1.2.1
  have hown := C.1.2.2.2.1
  have hts := C.1.2.2.2.2
  have B : hp_B Γ (cw w_X11_saves) s α α s.heap [] := ⟨B0.1, B0.2.1, cw_rf g⟩
  have lit0 : (0 : Int32).toInt = 0 := by decide
  have lit1 : (1 : Int32).toInt = 1 := by decide
  have lit30 : (30 : Int32).toInt = 30 := by decide
  have hl := lv_entry ([.ref a0, .int a1, .int a2]) (n := 5) (Nat.le_of_ble_eq_true rfl)
  show W p l e (hp_rm 5 0 0) s m ([.ref a0, .int a1, .int a2] : List Value).toArray below meth c s.heap [] 0 0 (MQ below (hp_Qi Γ (fun r β => cw w_X11_saves α β)) ([.ref a0, .int a1, .int a2] : List Value).toArray s 0 0 (hp_A Γ)) (entryFrame m ([.ref a0, .int a1, .int a2] : List Value).toArray 5)
  rw [lg_entry_eq]
  generalize (lg_sl ([.ref a0, .int a1, .int a2]) ++ List.replicate (5 - (lg_sl ([.ref a0, .int a1, .int a2])).length) Slot.unset).toArray = ls at hl ⊢
  have hl : lv_has ls 5 [(0, .ref a0), (1, .int a1), (2, .int a2)] := hl
  refine lv_iload_n hx hb dX11_saves_0 rfl (lv_at hl 1 rfl) (hp_n (n := 1) rfl ?_)
  refine q_ci (pc' := 4) B (hp_runS (As := [.int a1]) (rest := []) C B (t_X11_isSet Γ l α B.2.2.1 a1) lb_X11_isSet ls_X11_isSet lk_X11_277 rfl (by decide) rfl hl.1 rfl (Nat.le_of_ble_eq_true rfl) dX11_saves_1 ⟨Nat.le_refl _, Nat.le_refl _⟩) (fun _ _ h => by rw [h.1]; exact B.2.2) rfl (fun rh_1 αh_1 Hh_1 Lh_1 ph_1 Bh_1 => ?_)
  rw [ph_1.1] at Bh_1
  have zh_1 := ph_1.2
  have J15 : ∀ (Hh_2 : Heap) (Lh_2 : List Loc) (Bh_2 : hp_B Γ (cw w_X11_saves) s α α Hh_2 Lh_2) (ls : Array Slot) (hl : lv_has ls 5 [(0, .ref a0)]), W p l e (hp_rm 5 0 0) s m ([.ref a0, .int a1, .int a2] : List Value).toArray below meth c Hh_2 Lh_2 0 0 (MQ below (hp_Qi Γ (fun r β => cw w_X11_saves α β)) ([.ref a0, .int a1, .int a2] : List Value).toArray s 0 0 (hp_A Γ)) (F0 m 15 ls []) := by
    intro Hh_2 Lh_2 Bh_2 ls hl
    refine lv_aload_n hx hb dX11_saves_15 rfl (lv_at hl 0 rfl) (hp_n (n := 16) rfl ?_)
    refine lv_iconst (v := 1) hx hb dX11_saves_16 (by decide) (hp_n (n := 17) rfl ?_)
    refine q_ci (pc' := 20) Bh_2 (hp_runV (As := [.int 1]) (rest := []) C Bh_2 (t_X11_refuse Γ l α Bh_2.2.2.1 a0 (cw_k Bh_2.2.2 k0) 1) lb_X11_refuse lv_X11_refuse lk_X11_98 (cw_k Bh_2.2.2 k0) rfl (by decide) rfl hl.1 rfl (Nat.le_of_ble_eq_true rfl) dX11_saves_17 ⟨Nat.le_refl _, Nat.le_refl _⟩) (fun _ _ h => cw_tr Bh_2.2.2 h (by decide)) rfl (fun rh_3 αh_3 Hh_3 Lh_3 ph_3 Bh_3 => ?_)
    exact q_iret C Bh_3 hr hlk Bh_3.2.2 dX11_saves_20
  refine lv_if_eq (tgt := 15) hx hb dX11_saves_4 (by decide) (fun c_4 => ?_) (fun c_4 => hp_n (n := 7) rfl ?_)
  ·
    have jc_4 := il_eq c_4
    exact J15 Hh_1 Lh_1 Bh_1 ls (lv_sub hl [0] rfl)
  ·
    have jc_4 := il_ne c_4
    refine lv_iload_n hx hb dX11_saves_7 rfl (lv_at hl 1 rfl) (hp_n (n := 8) rfl ?_)
    refine lv_iload_n hx hb dX11_saves_8 rfl (lv_at hl 2 rfl) (hp_n (n := 9) rfl ?_)
    refine q_ci (pc' := 12) Bh_1 (hp_runS (As := [.int a1, .int a2]) (rest := []) C Bh_1 (t_X11_lieBelow Γ l α Bh_1.2.2.1 a1 a2) lb_X11_lieBelow ls_X11_lieBelow lk_X11_280 rfl (by decide) rfl hl.1 rfl (Nat.le_of_ble_eq_true rfl) dX11_saves_9 ⟨Nat.le_refl _, Nat.le_refl _⟩) (fun _ _ h => by rw [h.1]; exact Bh_1.2.2) rfl (fun rh_5 αh_5 Hh_5 Lh_5 ph_5 Bh_5 => ?_)
    rw [ph_5.1] at Bh_5
    have zh_5 := ph_5.2
    refine lv_if_ne (tgt := 21) hx hb dX11_saves_12 (by decide) (fun c_6 => ?_) (fun c_6 => hp_n (n := 15) rfl ?_)
    ·
      have jc_6 := il_ne c_6
      refine lv_iconst (v := 0) hx hb dX11_saves_21 (by decide) (hp_n (n := 22) rfl ?_)
      refine lv_istore_n (lv' := [(3, .int 0), (0, .ref a0), (1, .int a1), (2, .int a2)]) hx hb dX11_saves_22 rfl hl (by decide) rfl (fun ls hl => hp_n (n := 23) rfl ?_)
      refine lv_iconst (v := 0) hx hb dX11_saves_23 (by decide) (hp_n (n := 24) rfl ?_)
      have J26 : ∀ (nq : Nat) (αh_7 : hp_T) (Hh_7 : Heap) (Lh_7 : List Loc) (Bh_7 : hp_B Γ (cw w_X11_saves) s α αh_7 Hh_7 Lh_7) (v3_h_7 : Int32) (v4_h_7 : Int32) (ih_7_0 : 0 ≤ v4_h_7.toInt) (ls : Array Slot) (hl : lv_has ls 5 [(0, .ref a0), (1, .int a1), (2, .int a2), (3, .int v3_h_7), (4, .int v4_h_7)]) (hmu26 : (2147483647 - v4_h_7.toInt).toNat = nq), W p l e (hp_rm 5 0 0) s m ([.ref a0, .int a1, .int a2] : List Value).toArray below meth c Hh_7 Lh_7 0 0 (MQ below (hp_Qi Γ (fun r β => cw w_X11_saves α β)) ([.ref a0, .int a1, .int a2] : List Value).toArray s 0 0 (hp_A Γ)) (F0 m 26 ls []) := by
        intro nq
        induction nq using Nat.strongRecOn with
        | ind nq ih26 =>
        intro αh_7 Hh_7 Lh_7 Bh_7 v3_h_7 v4_h_7 ih_7_0 ls hl hmu26
        have inv26_0 := ih_7_0
        refine lv_iload hx hb dX11_saves_26 (lv_at hl 4 rfl) (hp_n (n := 28) rfl ?_)
        refine lv_bipush (v := 30) hx hb dX11_saves_28 (by decide) (hp_n (n := 30) rfl ?_)
        refine lv_icmp_ge (tgt := 69) hx hb dX11_saves_30 (by decide) (fun c_8 => ?_) (fun c_8 => hp_n (n := 33) rfl ?_)
        ·
          have jc_8 := il_le c_8
          refine lv_aload_n hx hb dX11_saves_69 rfl (lv_at hl 0 rfl) (hp_n (n := 70) rfl ?_)
          refine q_getr (κ := 12) (k := 12) (φ := 612) (pc' := 73) C Bh_7 (cw_k Bh_7.2.2 k0) fl_X11_62 rfl rfl rfl (cw_r Bh_7.2.2 k0 rfl rfl (by decide) (by decide)) dX11_saves_70 rfl (fun b_9 eb_9 kb_9 => ?_)
          refine lv_iload_n hx hb dX11_saves_73 rfl (lv_at hl 1 rfl) (hp_n (n := 74) rfl ?_)
          refine lv_iload_n hx hb dX11_saves_74 rfl (lv_at hl 2 rfl) (hp_n (n := 75) rfl ?_)
          refine q_cv (pc' := 78) Bh_7 (hp_runV (As := [.int a1, .int a2]) (rest := []) C Bh_7 (t_X8_toBundle Γ l αh_7 Bh_7.2.2.1 b_9 (cw_k Bh_7.2.2 kb_9) a1 a2) lb_X8_toBundle lv_X8_toBundle lk_X11_284 (cw_k Bh_7.2.2 kb_9) rfl (by decide) rfl hl.1 rfl (Nat.le_of_ble_eq_true rfl) dX11_saves_75 ⟨Nat.le_refl _, Nat.le_refl _⟩) (fun _ h => cw_tr Bh_7.2.2 h (by decide)) rfl (fun αh_10 Hh_10 Lh_10 ph_10 Bh_10 => ?_)
          refine lv_aload_n hx hb dX11_saves_78 rfl (lv_at hl 0 rfl) (hp_n (n := 79) rfl ?_)
          refine lv_iload_n hx hb dX11_saves_79 rfl (lv_at hl 3 rfl) (hp_n (n := 80) rfl ?_)
          refine lv_aload_n hx hb dX11_saves_80 rfl (lv_at hl 0 rfl) (hp_n (n := 81) rfl ?_)
          have t_11 : b_9 = hp_R αh_10 612 a0 := by rw [cw_R ph_10 a0 (by decide)]; exact eb_9
          refine q_gets (κ := 12) (k := 12) (φ := 612) (pc' := 84) C Bh_10 (cw_k Bh_10.2.2 k0) fl_X11_62 rfl rfl rfl t_11 dX11_saves_81 rfl ?_
          refine q_geti (κ := 9) (k := 3) (φ := 453) (pc' := 87) C Bh_10 (cw_k Bh_10.2.2 kb_9) fl_X11_312 rfl rfl rfl dX11_saves_84 rfl (fun x_12 ex_12 => ?_)
          obtain ⟨gx_12a, gx_12b⟩ : 0 ≤ x_12.toInt ∧ x_12.toInt ≤ 64 := by rw [ex_12]; exact Bh_10.2.2.1.1 453 b_9 rfl
          refine lv_isub hx hb dX11_saves_87 (hp_n (n := 88) rfl (lv_topi (fun x_13 ex_13 => ?_)))
          refine q_ci (pc' := 91) Bh_10 (hp_runV (As := [.int x_13]) (rest := []) C Bh_10 (t_X11_answer Γ l αh_10 Bh_10.2.2.1 a0 (cw_k Bh_10.2.2 k0) x_13) lb_X11_answer lv_X11_answer lk_X11_115 (cw_k Bh_10.2.2 k0) rfl (by decide) rfl hl.1 rfl (Nat.le_of_ble_eq_true rfl) dX11_saves_88 ⟨Nat.le_refl _, Nat.le_refl _⟩) (fun _ _ h => cw_tr Bh_10.2.2 h (by decide)) rfl (fun rh_14 αh_14 Hh_14 Lh_14 ph_14 Bh_14 => ?_)
          exact q_iret C Bh_14 hr hlk Bh_14.2.2 dX11_saves_91
        ·
          have jc_8 := il_nle c_8
          refine lv_iload_n hx hb dX11_saves_33 rfl (lv_at hl 1 rfl) (hp_n (n := 34) rfl ?_)
          refine lv_iload hx hb dX11_saves_34 (lv_at hl 4 rfl) (hp_n (n := 36) rfl ?_)
          refine lv_iconst (v := 1) hx hb dX11_saves_36 (by decide) (hp_n (n := 37) rfl ?_)
          refine q_ci (pc' := 40) Bh_7 (hp_runS (As := [.int a1, .int v4_h_7, .int 1]) (rest := []) C Bh_7 (t_X11_hasOneOf Γ l αh_7 Bh_7.2.2.1 a1 v4_h_7 1) lb_X11_hasOneOf ls_X11_hasOneOf lk_X11_431 rfl (by decide) rfl hl.1 rfl (Nat.le_of_ble_eq_true rfl) dX11_saves_37 ⟨Nat.le_refl _, Nat.le_refl _⟩) (fun _ _ h => by rw [h.1]; exact Bh_7.2.2) rfl (fun rh_15 αh_15 Hh_15 Lh_15 ph_15 Bh_15 => ?_)
          rw [ph_15.1] at Bh_15
          have zh_15 := ph_15.2
          refine lv_if_eq (tgt := 63) hx hb dX11_saves_40 (by decide) (fun c_16 => ?_) (fun c_16 => hp_n (n := 43) rfl ?_)
          ·
            have jc_16 := il_eq c_16
            obtain ⟨x_17, ex_17⟩ : ∃ y : Int32, y = v4_h_7 + 1 := ⟨_, rfl⟩
            have qx_17 : x_17.toInt = v4_h_7.toInt + 1 := by have qa := ib_lo v4_h_7; rw [ex_17]; exact ii_add (by omega) (by omega)
            refine lv_iinc (v := x_17) (lv' := [(4, .int x_17), (0, .ref a0), (1, .int a1), (2, .int a2), (3, .int v3_h_7)]) hx hb dX11_saves_63 hl (k := 4) rfl (by rw [ex_17]; rfl) (by decide) rfl (fun ls hl => hp_n (n := 66) rfl ?_)
            refine lv_goto (tgt := 26) hx hb dX11_saves_66 (by decide) ?_
            exact ih26 _ (by have qa := ib_hi v4_h_7; have qb := ib_lo v4_h_7; have qc : (v4_h_7 + 1).toInt = v4_h_7.toInt + (1 : Int32).toInt := ii_add (by omega) (by omega); rw [ex_17]; omega) αh_7 Hh_15 Lh_15 Bh_15 v3_h_7 x_17 (by omega) ls (lv_sub hl [1, 2, 3, 4, 0] rfl) rfl
          ·
            have jc_16 := il_ne c_16
            refine lv_aload_n hx hb dX11_saves_43 rfl (lv_at hl 0 rfl) (hp_n (n := 44) rfl ?_)
            refine q_getr (κ := 12) (k := 12) (φ := 612) (pc' := 47) C Bh_15 (cw_k Bh_15.2.2 k0) fl_X11_62 rfl rfl rfl (cw_r Bh_15.2.2 k0 rfl rfl (by decide) (by decide)) dX11_saves_44 rfl (fun b_18 eb_18 kb_18 => ?_)
            refine lv_iload hx hb dX11_saves_47 (lv_at hl 4 rfl) (hp_n (n := 49) rfl ?_)
            refine lv_iload_n hx hb dX11_saves_49 rfl (lv_at hl 2 rfl) (hp_n (n := 50) rfl ?_)
            refine q_cv (pc' := 53) Bh_15 (hp_runV (As := [.int v4_h_7, .int a2]) (rest := []) C Bh_15 (t_X8_toThing Γ l αh_7 Bh_15.2.2.1 b_18 (cw_k Bh_15.2.2 kb_18) v4_h_7 a2) lb_X8_toThing lv_X8_toThing lk_X11_267 (cw_k Bh_15.2.2 kb_18) rfl (by decide) rfl hl.1 rfl (Nat.le_of_ble_eq_true rfl) dX11_saves_50 ⟨Nat.le_refl _, Nat.le_refl _⟩) (fun _ h => cw_tr Bh_15.2.2 h (by decide)) rfl (fun αh_19 Hh_19 Lh_19 ph_19 Bh_19 => ?_)
            refine lv_iload_n hx hb dX11_saves_53 rfl (lv_at hl 3 rfl) (hp_n (n := 54) rfl ?_)
            refine lv_aload_n hx hb dX11_saves_54 rfl (lv_at hl 0 rfl) (hp_n (n := 55) rfl ?_)
            have t_20 : b_18 = hp_R αh_19 612 a0 := by rw [cw_R ph_19 a0 (by decide)]; exact eb_18
            refine q_gets (κ := 12) (k := 12) (φ := 612) (pc' := 58) C Bh_19 (cw_k Bh_19.2.2 k0) fl_X11_62 rfl rfl rfl t_20 dX11_saves_55 rfl ?_
            refine q_geti (κ := 9) (k := 3) (φ := 453) (pc' := 61) C Bh_19 (cw_k Bh_19.2.2 kb_18) fl_X11_312 rfl rfl rfl dX11_saves_58 rfl (fun x_21 ex_21 => ?_)
            obtain ⟨gx_21a, gx_21b⟩ : 0 ≤ x_21.toInt ∧ x_21.toInt ≤ 64 := by rw [ex_21]; exact Bh_19.2.2.1.1 453 b_18 rfl
            refine lv_iadd hx hb dX11_saves_61 (hp_n (n := 62) rfl (lv_topi (fun x_22 ex_22 => ?_)))
            refine lv_istore_n (lv' := [(3, .int x_22), (0, .ref a0), (1, .int a1), (2, .int a2), (4, .int v4_h_7)]) hx hb dX11_saves_62 rfl hl (by decide) rfl (fun ls hl => hp_n (n := 63) rfl ?_)
            obtain ⟨x_23, ex_23⟩ : ∃ y : Int32, y = v4_h_7 + 1 := ⟨_, rfl⟩
            have qx_23 : x_23.toInt = v4_h_7.toInt + 1 := by have qa := ib_lo v4_h_7; rw [ex_23]; exact ii_add (by omega) (by omega)
            refine lv_iinc (v := x_23) (lv' := [(4, .int x_23), (3, .int x_22), (0, .ref a0), (1, .int a1), (2, .int a2)]) hx hb dX11_saves_63 hl (k := 4) rfl (by rw [ex_23]; rfl) (by decide) rfl (fun ls hl => hp_n (n := 66) rfl ?_)
            refine lv_goto (tgt := 26) hx hb dX11_saves_66 (by decide) ?_
            exact ih26 _ (by have qa := ib_hi v4_h_7; have qb := ib_lo v4_h_7; have qc : (v4_h_7 + 1).toInt = v4_h_7.toInt + (1 : Int32).toInt := ii_add (by omega) (by omega); rw [ex_23]; omega) αh_19 Hh_19 Lh_19 Bh_19 x_22 x_23 (by omega) ls (lv_sub hl [2, 3, 4, 1, 0] rfl) rfl
      refine lv_istore (lv' := [(4, .int 0), (3, .int 0), (0, .ref a0), (1, .int a1), (2, .int a2)]) hx hb dX11_saves_24 hl (by decide) rfl (fun ls hl => hp_n (n := 26) rfl ?_)
      exact J26 _ α Hh_5 Lh_5 Bh_5 0 0 (by omega) ls (lv_sub hl [2, 3, 4, 1, 0] rfl) rfl
    ·
      have jc_6 := il_eq c_6
      exact J15 Hh_5 Lh_5 Bh_5 ls (lv_sub hl [0] rfl)
abbrev w_X11_who : cw_W := ([600], [], [33], [])
set_option maxRecDepth 100000 in
set_option maxHeartbeats 4000000 in
theorem t_X11_who (Γ : hp_G) (l : Launch) (α : hp_T) (g : GC α) (a0 : Nat) (k0 : hp_K α a0 = 12) (a1 : Int32) (a2 : Int32) : Met l yX11_who (hp_ws yX11_who cX11_who 5 (some .int)) (hp_rm 4 0 0) (hp_Pc Γ α [.ref a0, .int a1, .int a2]) (hp_Qi Γ (fun r β => cw w_X11_who α β)) 0 0 (hp_A Γ) := by
  refine hp_start (by decide) ?_
  intro p e s m below meth c C hr hlk B0 hnm
  have C : hp_C Γ p m c cX11_who 5 s ([.ref a0, .int a1, .int a2] : List Value).toArray RX11 := C
  have hx := C.1.1
  have hb := C.1.2.1
  have hown := C.1.2.2.2.1
  have hts := C.1.2.2.2.2
  have B : hp_B Γ (cw w_X11_who) s α α s.heap [] := ⟨B0.1, B0.2.1, cw_rf g⟩
  have lit0 : (0 : Int32).toInt = 0 := by decide
  have lit1 : (1 : Int32).toInt = 1 := by decide
  have hl := lv_entry ([.ref a0, .int a1, .int a2]) (n := 5) (Nat.le_of_ble_eq_true rfl)
  show W p l e (hp_rm 4 0 0) s m ([.ref a0, .int a1, .int a2] : List Value).toArray below meth c s.heap [] 0 0 (MQ below (hp_Qi Γ (fun r β => cw w_X11_who α β)) ([.ref a0, .int a1, .int a2] : List Value).toArray s 0 0 (hp_A Γ)) (entryFrame m ([.ref a0, .int a1, .int a2] : List Value).toArray 5)
  rw [lg_entry_eq]
  generalize (lg_sl ([.ref a0, .int a1, .int a2]) ++ List.replicate (5 - (lg_sl ([.ref a0, .int a1, .int a2])).length) Slot.unset).toArray = ls at hl ⊢
  have hl : lv_has ls 5 [(0, .ref a0), (1, .int a1), (2, .int a2)] := hl
  refine lv_iload_n hx hb dX11_who_0 rfl (lv_at hl 1 rfl) (hp_n (n := 1) rfl ?_)
  have J12 : ∀ (Hh_1 : Heap) (Lh_1 : List Loc) (Bh_1 : hp_B Γ (cw w_X11_who) s α α Hh_1 Lh_1) (ls : Array Slot) (hl : lv_has ls 5 [(0, .ref a0)]), W p l e (hp_rm 4 0 0) s m ([.ref a0, .int a1, .int a2] : List Value).toArray below meth c Hh_1 Lh_1 0 0 (MQ below (hp_Qi Γ (fun r β => cw w_X11_who α β)) ([.ref a0, .int a1, .int a2] : List Value).toArray s 0 0 (hp_A Γ)) (F0 m 12 ls []) := by
    intro Hh_1 Lh_1 Bh_1 ls hl
    refine lv_aload_n hx hb dX11_who_12 rfl (lv_at hl 0 rfl) (hp_n (n := 13) rfl ?_)
    refine lv_iconst (v := 1) hx hb dX11_who_13 (by decide) (hp_n (n := 14) rfl ?_)
    refine q_ci (pc' := 17) Bh_1 (hp_runV (As := [.int 1]) (rest := []) C Bh_1 (t_X11_refuse Γ l α Bh_1.2.2.1 a0 (cw_k Bh_1.2.2 k0) 1) lb_X11_refuse lv_X11_refuse lk_X11_98 (cw_k Bh_1.2.2 k0) rfl (by decide) rfl hl.1 rfl (Nat.le_of_ble_eq_true rfl) dX11_who_14 ⟨Nat.le_refl _, Nat.le_refl _⟩) (fun _ _ h => cw_tr Bh_1.2.2 h (by decide)) rfl (fun rh_2 αh_2 Hh_2 Lh_2 ph_2 Bh_2 => ?_)
    exact q_iret C Bh_2 hr hlk Bh_2.2.2 dX11_who_17
  refine lv_if_lt (tgt := 12) hx hb dX11_who_1 (by decide) (fun c_3 => ?_) (fun c_3 => hp_n (n := 4) rfl ?_)
  ·
    have jc_3 := il_lt c_3
    exact J12 s.heap [] B ls (lv_sub hl [0] rfl)
  ·
    have jc_3 := il_nlt c_3
    refine lv_aload_n hx hb dX11_who_4 rfl (lv_at hl 0 rfl) (hp_n (n := 5) rfl ?_)
    refine lv_iload_n hx hb dX11_who_5 rfl (lv_at hl 2 rfl) (hp_n (n := 6) rfl ?_)
    refine q_ci (pc' := 9) B (hp_runV (As := [.int a2]) (rest := []) C B (t_X11_isMark Γ l α B.2.2.1 a0 (cw_k B.2.2 k0) a2) lb_X11_isMark lv_X11_isMark lk_X11_188 (cw_k B.2.2 k0) rfl (by decide) rfl hl.1 rfl (Nat.le_of_ble_eq_true rfl) dX11_who_6 ⟨Nat.le_refl _, Nat.le_refl _⟩) (fun _ _ h => by rw [h.1]; exact B.2.2) rfl (fun rh_4 αh_4 Hh_4 Lh_4 ph_4 Bh_4 => ?_)
    rw [ph_4.1] at Bh_4
    have zh_4 := ph_4.2
    refine lv_if_ne (tgt := 18) hx hb dX11_who_9 (by decide) (fun c_5 => ?_) (fun c_5 => hp_n (n := 12) rfl ?_)
    ·
      have jc_5 := il_ne c_5
      refine lv_iconst (v := 0) hx hb dX11_who_18 (by decide) (hp_n (n := 19) rfl ?_)
      refine lv_istore_n (lv' := [(3, .int 0), (0, .ref a0), (1, .int a1), (2, .int a2)]) hx hb dX11_who_19 rfl hl (by decide) rfl (fun ls hl => hp_n (n := 20) rfl ?_)
      refine lv_iconst (v := 0) hx hb dX11_who_20 (by decide) (hp_n (n := 21) rfl ?_)
      have J23 : ∀ (nq : Nat) (αh_6 : hp_T) (Hh_6 : Heap) (Lh_6 : List Loc) (Bh_6 : hp_B Γ (cw w_X11_who) s α αh_6 Hh_6 Lh_6) (v3_h_6 : Int32) (v4_h_6 : Int32) (ih_6_0 : 0 ≤ v4_h_6.toInt) (ls : Array Slot) (hl : lv_has ls 5 [(0, .ref a0), (1, .int a1), (2, .int a2), (3, .int v3_h_6), (4, .int v4_h_6)]) (hmu23 : (2147483647 - v4_h_6.toInt).toNat = nq), W p l e (hp_rm 4 0 0) s m ([.ref a0, .int a1, .int a2] : List Value).toArray below meth c Hh_6 Lh_6 0 0 (MQ below (hp_Qi Γ (fun r β => cw w_X11_who α β)) ([.ref a0, .int a1, .int a2] : List Value).toArray s 0 0 (hp_A Γ)) (F0 m 23 ls []) := by
        intro nq
        induction nq using Nat.strongRecOn with
        | ind nq ih23 =>
        intro αh_6 Hh_6 Lh_6 Bh_6 v3_h_6 v4_h_6 ih_6_0 ls hl hmu23
        have inv23_0 := ih_6_0
        refine lv_iload hx hb dX11_who_23 (lv_at hl 4 rfl) (hp_n (n := 25) rfl ?_)
        refine lv_aload_n hx hb dX11_who_25 rfl (lv_at hl 0 rfl) (hp_n (n := 26) rfl ?_)
        refine q_getr (κ := 12) (k := 1) (φ := 601) (pc' := 29) C Bh_6 (cw_k Bh_6.2.2 k0) fl_X11_16 rfl rfl rfl (cw_r Bh_6.2.2 k0 rfl rfl (by decide) (by decide)) dX11_who_26 rfl (fun b_7 eb_7 kb_7 => ?_)
        refine q_geti (κ := 11) (k := 2) (φ := 552) (pc' := 32) C Bh_6 (cw_k Bh_6.2.2 kb_7) fl_X11_112 rfl rfl rfl dX11_who_29 rfl (fun x_8 ex_8 => ?_)
        refine lv_icmp_ge (tgt := 69) hx hb dX11_who_32 (by decide) (fun c_9 => ?_) (fun c_9 => hp_n (n := 35) rfl ?_)
        ·
          have jc_9 := il_le c_9
          refine lv_aload_n hx hb dX11_who_69 rfl (lv_at hl 0 rfl) (hp_n (n := 70) rfl ?_)
          refine lv_iload_n hx hb dX11_who_70 rfl (lv_at hl 3 rfl) (hp_n (n := 71) rfl ?_)
          refine q_ci (pc' := 74) Bh_6 (hp_runV (As := [.int v3_h_6]) (rest := []) C Bh_6 (t_X11_answer Γ l αh_6 Bh_6.2.2.1 a0 (cw_k Bh_6.2.2 k0) v3_h_6) lb_X11_answer lv_X11_answer lk_X11_115 (cw_k Bh_6.2.2 k0) rfl (by decide) rfl hl.1 rfl (Nat.le_of_ble_eq_true rfl) dX11_who_71 ⟨Nat.le_refl _, Nat.le_refl _⟩) (fun _ _ h => cw_tr Bh_6.2.2 h (by decide)) rfl (fun rh_10 αh_10 Hh_10 Lh_10 ph_10 Bh_10 => ?_)
          exact q_iret C Bh_10 hr hlk Bh_10.2.2 dX11_who_74
        ·
          have jc_9 := il_nle c_9
          refine lv_aload_n hx hb dX11_who_35 rfl (lv_at hl 0 rfl) (hp_n (n := 36) rfl ?_)
          refine q_gets (κ := 12) (k := 1) (φ := 601) (pc' := 39) C Bh_6 (cw_k Bh_6.2.2 k0) fl_X11_16 rfl rfl rfl eb_7 dX11_who_36 rfl ?_
          refine lv_aload_n hx hb dX11_who_39 rfl (lv_at hl 0 rfl) (hp_n (n := 40) rfl ?_)
          refine q_gets (κ := 12) (k := 1) (φ := 601) (pc' := 43) C Bh_6 (cw_k Bh_6.2.2 k0) fl_X11_16 rfl rfl rfl eb_7 dX11_who_40 rfl ?_
          refine lv_iload hx hb dX11_who_43 (lv_at hl 4 rfl) (hp_n (n := 45) rfl ?_)
          refine q_cq (pc' := 48) Bh_6 (hp_runV (As := [.int v4_h_6]) (rest := [.ref b_7]) C Bh_6 (t_X10_logAt Γ l αh_6 Bh_6.2.2.1 b_7 (cw_k Bh_6.2.2 kb_7) v4_h_6) lb_X10_logAt lv_X10_logAt lk_X11_163 (cw_k Bh_6.2.2 kb_7) rfl (by decide) rfl hl.1 rfl (Nat.le_of_ble_eq_true rfl) dX11_who_45 ⟨Nat.le_refl _, Nat.le_refl _⟩) (fun _ _ h => by rw [h.1]; exact Bh_6.2.2) rfl (fun rh_11 αh_11 Hh_11 Lh_11 ph_11 Bh_11 => ?_)
          rw [ph_11.1] at Bh_11
          rcases rh_11 with _ | bh_11
          ·
            refine lv_iload_n hx hb dX11_who_48 rfl (lv_at hl 1 rfl) (hp_n (n := 49) rfl ?_)
            refine lv_iload_n hx hb dX11_who_49 rfl (lv_at hl 2 rfl) (hp_n (n := 50) rfl ?_)
            refine q_ci (pc' := 53) Bh_11 (hp_runV (As := [va_rf none, .int a1, .int a2]) (rest := []) C Bh_11 (t_X10_hasHead Γ l αh_6 Bh_11.2.2.1 b_7 (cw_k Bh_11.2.2 kb_7) none (fun b h => by cases h) a1 a2) lb_X10_hasHead lv_X10_hasHead lk_X11_435 (cw_k Bh_11.2.2 kb_7) rfl (by decide) rfl hl.1 rfl (Nat.le_of_ble_eq_true rfl) dX11_who_50 ⟨Nat.le_refl _, Nat.le_refl _⟩) (fun _ _ h => cw_tr Bh_11.2.2 h.1 (by decide)) rfl (fun rh_12 αh_12 Hh_12 Lh_12 ph_12 Bh_12 => ?_)
            have zh_12 := ph_12.2
            refine lv_if_eq (tgt := 63) hx hb dX11_who_53 (by decide) (fun c_13 => ?_) (fun c_13 => hp_n (n := 56) rfl ?_)
            ·
              have jc_13 := il_eq c_13
              obtain ⟨x_14, ex_14⟩ : ∃ y : Int32, y = v4_h_6 + 1 := ⟨_, rfl⟩
              have qx_14 : x_14.toInt = v4_h_6.toInt + 1 := by have q0 := ib_hi x_8; have qa := ib_lo v4_h_6; rw [ex_14]; exact ii_add (by omega) (by omega)
              refine lv_iinc (v := x_14) (lv' := [(4, .int x_14), (0, .ref a0), (1, .int a1), (2, .int a2), (3, .int v3_h_6)]) hx hb dX11_who_63 hl (k := 4) rfl (by rw [ex_14]; rfl) (by decide) rfl (fun ls hl => hp_n (n := 66) rfl ?_)
              refine lv_goto (tgt := 23) hx hb dX11_who_66 (by decide) ?_
              exact ih23 _ (by have q0 := ib_hi x_8; have q1 := ib_lo x_8; have qa := ib_hi v4_h_6; have qb := ib_lo v4_h_6; have qc : (v4_h_6 + 1).toInt = v4_h_6.toInt + (1 : Int32).toInt := ii_add (by omega) (by omega); rw [ex_14]; omega) αh_12 Hh_12 Lh_12 Bh_12 v3_h_6 x_14 (by omega) ls (lv_sub hl [1, 2, 3, 4, 0] rfl) rfl
            ·
              have jc_13 := il_ne c_13
              refine lv_iload_n hx hb dX11_who_56 rfl (lv_at hl 3 rfl) (hp_n (n := 57) rfl ?_)
              refine lv_iconst (v := 1) hx hb dX11_who_57 (by decide) (hp_n (n := 58) rfl ?_)
              refine lv_iload hx hb dX11_who_58 (lv_at hl 4 rfl) (hp_n (n := 60) rfl ?_)
              refine lv_ishl hx hb dX11_who_60 (hp_n (n := 61) rfl (lv_topi (fun x_15 ex_15 => ?_)))
              refine lv_ior hx hb dX11_who_61 (hp_n (n := 62) rfl (lv_topi (fun x_16 ex_16 => ?_)))
              refine lv_istore_n (lv' := [(3, .int x_16), (0, .ref a0), (1, .int a1), (2, .int a2), (4, .int v4_h_6)]) hx hb dX11_who_62 rfl hl (by decide) rfl (fun ls hl => hp_n (n := 63) rfl ?_)
              obtain ⟨x_17, ex_17⟩ : ∃ y : Int32, y = v4_h_6 + 1 := ⟨_, rfl⟩
              have qx_17 : x_17.toInt = v4_h_6.toInt + 1 := by have q0 := ib_hi x_8; have qa := ib_lo v4_h_6; rw [ex_17]; exact ii_add (by omega) (by omega)
              refine lv_iinc (v := x_17) (lv' := [(4, .int x_17), (3, .int x_16), (0, .ref a0), (1, .int a1), (2, .int a2)]) hx hb dX11_who_63 hl (k := 4) rfl (by rw [ex_17]; rfl) (by decide) rfl (fun ls hl => hp_n (n := 66) rfl ?_)
              refine lv_goto (tgt := 23) hx hb dX11_who_66 (by decide) ?_
              exact ih23 _ (by have q0 := ib_hi x_8; have q1 := ib_lo x_8; have qa := ib_hi v4_h_6; have qb := ib_lo v4_h_6; have qc : (v4_h_6 + 1).toInt = v4_h_6.toInt + (1 : Int32).toInt := ii_add (by omega) (by omega); rw [ex_17]; omega) αh_12 Hh_12 Lh_12 Bh_12 x_16 x_17 (by omega) ls (lv_sub hl [2, 3, 4, 1, 0] rfl) rfl
          ·
            have kbh_11 : hp_K α bh_11 = 3 := cw_k' Bh_11.2.2 (ph_11.2 bh_11 rfl)
            refine lv_iload_n hx hb dX11_who_48 rfl (lv_at hl 1 rfl) (hp_n (n := 49) rfl ?_)
            refine lv_iload_n hx hb dX11_who_49 rfl (lv_at hl 2 rfl) (hp_n (n := 50) rfl ?_)
            refine q_ci (pc' := 53) Bh_11 (hp_runV (As := [va_rf (some bh_11), .int a1, .int a2]) (rest := []) C Bh_11 (t_X10_hasHead Γ l αh_6 Bh_11.2.2.1 b_7 (cw_k Bh_11.2.2 kb_7) (some bh_11) (fun b h => by cases h; exact (cw_k Bh_11.2.2 kbh_11)) a1 a2) lb_X10_hasHead lv_X10_hasHead lk_X11_435 (cw_k Bh_11.2.2 kb_7) rfl (by decide) rfl hl.1 rfl (Nat.le_of_ble_eq_true rfl) dX11_who_50 ⟨Nat.le_refl _, Nat.le_refl _⟩) (fun _ _ h => cw_tr Bh_11.2.2 h.1 (by decide)) rfl (fun rh_18 αh_18 Hh_18 Lh_18 ph_18 Bh_18 => ?_)
            have zh_18 := ph_18.2
            refine lv_if_eq (tgt := 63) hx hb dX11_who_53 (by decide) (fun c_19 => ?_) (fun c_19 => hp_n (n := 56) rfl ?_)
            ·
              have jc_19 := il_eq c_19
              obtain ⟨x_20, ex_20⟩ : ∃ y : Int32, y = v4_h_6 + 1 := ⟨_, rfl⟩
              have qx_20 : x_20.toInt = v4_h_6.toInt + 1 := by have q0 := ib_hi x_8; have qa := ib_lo v4_h_6; rw [ex_20]; exact ii_add (by omega) (by omega)
              refine lv_iinc (v := x_20) (lv' := [(4, .int x_20), (0, .ref a0), (1, .int a1), (2, .int a2), (3, .int v3_h_6)]) hx hb dX11_who_63 hl (k := 4) rfl (by rw [ex_20]; rfl) (by decide) rfl (fun ls hl => hp_n (n := 66) rfl ?_)
              refine lv_goto (tgt := 23) hx hb dX11_who_66 (by decide) ?_
              exact ih23 _ (by have q0 := ib_hi x_8; have q1 := ib_lo x_8; have qa := ib_hi v4_h_6; have qb := ib_lo v4_h_6; have qc : (v4_h_6 + 1).toInt = v4_h_6.toInt + (1 : Int32).toInt := ii_add (by omega) (by omega); rw [ex_20]; omega) αh_18 Hh_18 Lh_18 Bh_18 v3_h_6 x_20 (by omega) ls (lv_sub hl [1, 2, 3, 4, 0] rfl) rfl
            ·
              have jc_19 := il_ne c_19
              refine lv_iload_n hx hb dX11_who_56 rfl (lv_at hl 3 rfl) (hp_n (n := 57) rfl ?_)
              refine lv_iconst (v := 1) hx hb dX11_who_57 (by decide) (hp_n (n := 58) rfl ?_)
              refine lv_iload hx hb dX11_who_58 (lv_at hl 4 rfl) (hp_n (n := 60) rfl ?_)
              refine lv_ishl hx hb dX11_who_60 (hp_n (n := 61) rfl (lv_topi (fun x_21 ex_21 => ?_)))
              refine lv_ior hx hb dX11_who_61 (hp_n (n := 62) rfl (lv_topi (fun x_22 ex_22 => ?_)))
              refine lv_istore_n (lv' := [(3, .int x_22), (0, .ref a0), (1, .int a1), (2, .int a2), (4, .int v4_h_6)]) hx hb dX11_who_62 rfl hl (by decide) rfl (fun ls hl => hp_n (n := 63) rfl ?_)
              obtain ⟨x_23, ex_23⟩ : ∃ y : Int32, y = v4_h_6 + 1 := ⟨_, rfl⟩
              have qx_23 : x_23.toInt = v4_h_6.toInt + 1 := by have q0 := ib_hi x_8; have qa := ib_lo v4_h_6; rw [ex_23]; exact ii_add (by omega) (by omega)
              refine lv_iinc (v := x_23) (lv' := [(4, .int x_23), (3, .int x_22), (0, .ref a0), (1, .int a1), (2, .int a2)]) hx hb dX11_who_63 hl (k := 4) rfl (by rw [ex_23]; rfl) (by decide) rfl (fun ls hl => hp_n (n := 66) rfl ?_)
              refine lv_goto (tgt := 23) hx hb dX11_who_66 (by decide) ?_
              exact ih23 _ (by have q0 := ib_hi x_8; have q1 := ib_lo x_8; have qa := ib_hi v4_h_6; have qb := ib_lo v4_h_6; have qc : (v4_h_6 + 1).toInt = v4_h_6.toInt + (1 : Int32).toInt := ii_add (by omega) (by omega); rw [ex_23]; omega) αh_18 Hh_18 Lh_18 Bh_18 x_22 x_23 (by omega) ls (lv_sub hl [2, 3, 4, 1, 0] rfl) rfl
      refine lv_istore (lv' := [(4, .int 0), (3, .int 0), (0, .ref a0), (1, .int a1), (2, .int a2)]) hx hb dX11_who_21 hl (by decide) rfl (fun ls hl => hp_n (n := 23) rfl ?_)
      exact J23 _ α Hh_4 Lh_4 Bh_4 0 0 (by omega) ls (lv_sub hl [2, 3, 4, 1, 0] rfl) rfl
    ·
      have jc_5 := il_eq c_5
      exact J12 Hh_4 Lh_4 Bh_4 ls (lv_sub hl [0] rfl)
