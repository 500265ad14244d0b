section JN4_0
abbrev w_X11_clashingStep : cw_W := ([], [], [], [])
set_option maxRecDepth 100000 in
set_option maxHeartbeats 4000000 in
theorem t_X11_clashingStep (Γ : hp_G) (l : Launch) (α : hp_T) (g : GC α) (a0 : Nat) (k0 : hp_K α a0 = 12) (a1 : Int32) (a2 : Int32) : Met l yX11_clashingStep (hp_ws yX11_clashingStep cX11_clashingStep 7 (some .int)) (hp_rm 2 0 0) (hp_Pc Γ α [.ref a0, .int a1, .int a2]) (hp_Qi Γ (fun r β => β = α)) 0 0 (hp_A Γ) := by
  refine hp_start (by decide) ?_
  intro p e s m below meth c C hr hlk B0 hnm
  have C : hp_C Γ p m c cX11_clashingStep 7 s ([.ref a0, .int a1, .int a2] : List Value).toArray RX11 := C
  have hx := C.1.1
  have hb := C.1.2.1
  have hown := C.1.2.2.2.1
  have hts := C.1.2.2.2.2
  have B : hp_B Γ (cw w_X11_clashingStep) s α α s.heap [] := ⟨B0.1, B0.2.1, cw_rf g⟩
  have litm1 : ((-1) : Int32).toInt = (-1) := by decide
  have lit0 : (0 : Int32).toInt = 0 := by decide
  have lit1 : (1 : Int32).toInt = 1 := by decide
  have hl := lv_entry ([.ref a0, .int a1, .int a2]) (n := 7) (Nat.le_of_ble_eq_true rfl)
  show W p l e (hp_rm 2 0 0) s m ([.ref a0, .int a1, .int a2] : List Value).toArray below meth c s.heap [] 0 0 (MQ below (hp_Qi Γ (fun r β => β = α)) ([.ref a0, .int a1, .int a2] : List Value).toArray s 0 0 (hp_A Γ)) (entryFrame m ([.ref a0, .int a1, .int a2] : List Value).toArray 7)
  rw [lg_entry_eq]
  generalize (lg_sl ([.ref a0, .int a1, .int a2]) ++ List.replicate (7 - (lg_sl ([.ref a0, .int a1, .int a2])).length) Slot.unset).toArray = ls at hl ⊢
  have hl : lv_has ls 7 [(0, .ref a0), (1, .int a1), (2, .int a2)] := hl
  refine lv_iload_n hx hb dX11_clashingStep_0 rfl (lv_at hl 1 rfl) (hp_n (n := 1) rfl ?_)
  refine lv_istore_n (lv' := [(3, .int a1), (0, .ref a0), (1, .int a1), (2, .int a2)]) hx hb dX11_clashingStep_1 rfl hl (by decide) rfl (fun ls hl => hp_n (n := 2) rfl ?_)
  refine lv_iload_n hx hb dX11_clashingStep_2 rfl (lv_at hl 3 rfl) (hp_n (n := 3) rfl ?_)
  refine lv_istore (lv' := [(4, .int a2), (3, .int a1), (0, .ref a0), (1, .int a1), (2, .int a2)]) hx hb dX11_clashingStep_3 hl (by decide) rfl (fun ls hl => hp_n (n := 5) rfl ?_)
  refine lv_iconst (v := 0) hx hb dX11_clashingStep_5 (by decide) (hp_n (n := 6) rfl ?_)
  have J8 : ∀ (nq : Nat) (Hh_1 : Heap) (Lh_1 : List Loc) (Bh_1 : hp_B Γ (cw w_X11_clashingStep) s α α Hh_1 Lh_1) (v3_h_1 : Int32) (v4_h_1 : Int32) (v5_h_1 : Int32) (ih_1_0 : 0 ≤ v5_h_1.toInt) (ls : Array Slot) (hl : lv_has ls 7 [(0, .ref a0), (3, .int v3_h_1), (4, .int v4_h_1), (5, .int v5_h_1)]) (hmu8 : (2147483647 - v5_h_1.toInt).toNat = nq), W p l e (hp_rm 2 0 0) s m ([.ref a0, .int a1, .int a2] : List Value).toArray below meth c Hh_1 Lh_1 0 0 (MQ below (hp_Qi Γ (fun r β => β = α)) ([.ref a0, .int a1, .int a2] : List Value).toArray s 0 0 (hp_A Γ)) (F0 m 8 ls []) := by
    intro nq
    induction nq using Nat.strongRecOn with
    | ind nq ih8 =>
    intro Hh_1 Lh_1 Bh_1 v3_h_1 v4_h_1 v5_h_1 ih_1_0 ls hl hmu8
    have inv8_0 := ih_1_0
    refine lv_iload hx hb dX11_clashingStep_8 (lv_at hl 3 rfl) (hp_n (n := 10) rfl ?_)
    refine lv_aload_n hx hb dX11_clashingStep_10 rfl (lv_at hl 0 rfl) (hp_n (n := 11) rfl ?_)
    refine q_getr (κ := 12) (k := 12) (φ := 612) (pc' := 14) C Bh_1 (cw_k Bh_1.2.2 k0) fl_X11_62 rfl rfl rfl (cw_r Bh_1.2.2 k0 rfl rfl (by decide) (by decide)) dX11_clashingStep_11 rfl (fun b_2 eb_2 kb_2 => ?_)
    refine q_geti (κ := 9) (k := 3) (φ := 453) (pc' := 17) C Bh_1 (cw_k Bh_1.2.2 kb_2) fl_X11_312 rfl rfl rfl dX11_clashingStep_14 rfl (fun x_3 ex_3 => ?_)
    obtain ⟨gx_3a, gx_3b⟩ : 0 ≤ x_3.toInt ∧ x_3.toInt ≤ 64 := by rw [ex_3]; exact Bh_1.2.2.1.1 453 b_2 rfl
    refine lv_icmp_ge (tgt := 130) hx hb dX11_clashingStep_17 (by decide) (fun c_4 => ?_) (fun c_4 => hp_n (n := 20) rfl ?_)
    ·
      have jc_4 := il_le c_4
      refine lv_iconst (v := (-1)) hx hb dX11_clashingStep_130 (by decide) (hp_n (n := 131) rfl ?_)
      exact q_iret C Bh_1 hr hlk rfl dX11_clashingStep_131
    ·
      have jc_4 := il_nle c_4
      refine lv_iload_n hx hb dX11_clashingStep_20 rfl (lv_at hl 1 rfl) (hp_n (n := 21) rfl ?_)
      refine lv_iload hx hb dX11_clashingStep_21 (lv_at hl 2 rfl) (hp_n (n := 23) rfl ?_)
      have J47 : ∀ (Hh_5 : Heap) (Lh_5 : List Loc) (Bh_5 : hp_B Γ (cw w_X11_clashingStep) s α α Hh_5 Lh_5) (ls : Array Slot) (hl : lv_has ls 7 [(0, .ref a0), (3, .int v3_h_1), (4, .int v4_h_1), (5, .int v5_h_1)]), W p l e (hp_rm 2 0 0) s m ([.ref a0, .int a1, .int a2] : List Value).toArray below meth c Hh_5 Lh_5 0 0 (MQ below (hp_Qi Γ (fun r β => β = α)) ([.ref a0, .int a1, .int a2] : List Value).toArray s 0 0 (hp_A Γ)) (F0 m 47 ls []) := by
        intro Hh_5 Lh_5 Bh_5 ls hl
        refine lv_iconst (v := 1) hx hb dX11_clashingStep_47 (by decide) (hp_n (n := 48) rfl ?_)
        refine lv_goto (tgt := 52) hx hb dX11_clashingStep_48 (by decide) ?_
        refine lv_istore (lv' := [(6, .int 1), (0, .ref a0), (3, .int v3_h_1), (4, .int v4_h_1), (5, .int v5_h_1)]) hx hb dX11_clashingStep_52 hl (by decide) rfl (fun ls hl => hp_n (n := 54) rfl ?_)
        refine lv_aload_n hx hb dX11_clashingStep_54 rfl (lv_at hl 1 rfl) (hp_n (n := 55) rfl ?_)
        refine q_gets (κ := 12) (k := 12) (φ := 612) (pc' := 58) C Bh_5 (cw_k Bh_5.2.2 k0) fl_X11_62 rfl rfl rfl eb_2 dX11_clashingStep_55 rfl ?_
        refine lv_aload_n hx hb dX11_clashingStep_58 rfl (lv_at hl 1 rfl) (hp_n (n := 59) rfl ?_)
        refine q_getr (κ := 12) (k := 1) (φ := 601) (pc' := 62) C Bh_5 (cw_k Bh_5.2.2 k0) fl_X11_16 rfl rfl rfl (cw_r Bh_5.2.2 k0 rfl rfl (by decide) (by decide)) dX11_clashingStep_59 rfl (fun b_6 eb_6 kb_6 => ?_)
        refine q_geti (κ := 11) (k := 0) (φ := 550) (pc' := 65) C Bh_5 (cw_k Bh_5.2.2 kb_6) fl_X11_122 rfl rfl rfl dX11_clashingStep_62 rfl (fun x_7 ex_7 => ?_)
        refine lv_iload hx hb dX11_clashingStep_65 (lv_at hl 4 rfl) (hp_n (n := 67) rfl ?_)
        refine lv_iload_n hx hb dX11_clashingStep_67 rfl (lv_at hl 2 rfl) (hp_n (n := 68) rfl ?_)
        refine lv_aload_n hx hb dX11_clashingStep_68 rfl (lv_at hl 1 rfl) (hp_n (n := 69) rfl ?_)
        refine q_getr (κ := 12) (k := 14) (φ := 614) (pc' := 72) C Bh_5 (cw_k Bh_5.2.2 k0) fl_X11_69 rfl rfl rfl (cw_r Bh_5.2.2 k0 rfl rfl (by decide) (by decide)) dX11_clashingStep_69 rfl (fun b_8 eb_8 kb_8 => ?_)
        refine lv_iload hx hb dX11_clashingStep_72 (lv_at hl 4 rfl) (hp_n (n := 74) rfl ?_)
        refine q_ci (pc' := 77) Bh_5 (hp_runV (As := [.int v5_h_1]) (rest := [.int v3_h_1, .int v5_h_1, .int x_7, .ref b_2]) C Bh_5 (t_X5_at Γ l α Bh_5.2.2.1 b_8 (cw_k Bh_5.2.2 kb_8) v5_h_1) lb_X5_at lv_X5_at lk_X11_135 (cw_k Bh_5.2.2 kb_8) rfl (by decide) rfl hl.1 rfl (Nat.le_of_ble_eq_true rfl) dX11_clashingStep_74 ⟨Nat.le_refl _, Nat.le_refl _⟩) (fun _ _ h => by rw [h]; exact Bh_5.2.2) rfl (fun rh_9 αh_9 Hh_9 Lh_9 ph_9 Bh_9 => ?_)
        rw [ph_9] at Bh_9
        refine q_ci (pc' := 80) Bh_9 (hp_runV (As := [.int x_7, .int v5_h_1, .int v3_h_1, .int rh_9]) (rest := []) C Bh_9 (t_X8_joined Γ l α Bh_9.2.2.1 b_2 (cw_k Bh_9.2.2 kb_2) x_7 v5_h_1 v3_h_1 rh_9) lb_X8_joined lv_X8_joined lk_X11_478 (cw_k Bh_9.2.2 kb_2) rfl (by decide) rfl hl.1 rfl (Nat.le_of_ble_eq_true rfl) dX11_clashingStep_77 ⟨Nat.le_refl _, Nat.le_refl _⟩) (fun _ _ h => by rw [h]; exact Bh_9.2.2) rfl (fun rh_10 αh_10 Hh_10 Lh_10 ph_10 Bh_10 => ?_)
        rw [ph_10] at Bh_10
        refine lv_istore_n (lv' := [(3, .int rh_10), (6, .int 1), (0, .ref a0), (4, .int v4_h_1), (5, .int v5_h_1)]) hx hb dX11_clashingStep_80 rfl hl (by decide) rfl (fun ls hl => hp_n (n := 81) rfl ?_)
        refine lv_aload_n hx hb dX11_clashingStep_81 rfl (lv_at hl 2 rfl) (hp_n (n := 82) rfl ?_)
        refine q_gets (κ := 12) (k := 12) (φ := 612) (pc' := 85) C Bh_10 (cw_k Bh_10.2.2 k0) fl_X11_62 rfl rfl rfl eb_2 dX11_clashingStep_82 rfl ?_
        refine lv_aload_n hx hb dX11_clashingStep_85 rfl (lv_at hl 2 rfl) (hp_n (n := 86) rfl ?_)
        refine q_gets (κ := 12) (k := 1) (φ := 601) (pc' := 89) C Bh_10 (cw_k Bh_10.2.2 k0) fl_X11_16 rfl rfl rfl eb_6 dX11_clashingStep_86 rfl ?_
        refine q_getj (κ := 11) (k := 0) (φ := 550) (pc' := 92) C Bh_10 (cw_k Bh_10.2.2 kb_6) fl_X11_122 rfl rfl rfl ex_7 dX11_clashingStep_89 rfl ?_
        refine lv_iload hx hb dX11_clashingStep_92 (lv_at hl 4 rfl) (hp_n (n := 94) rfl ?_)
        refine lv_iload hx hb dX11_clashingStep_94 (lv_at hl 3 rfl) (hp_n (n := 96) rfl ?_)
        refine lv_aload_n hx hb dX11_clashingStep_96 rfl (lv_at hl 2 rfl) (hp_n (n := 97) rfl ?_)
        refine q_getr (κ := 12) (k := 3) (φ := 603) (pc' := 100) C Bh_10 (cw_k Bh_10.2.2 k0) fl_X11_26 rfl rfl rfl (cw_r Bh_10.2.2 k0 rfl rfl (by decide) (by decide)) dX11_clashingStep_97 rfl (fun b_11 eb_11 kb_11 => ?_)
        refine lv_iload hx hb dX11_clashingStep_100 (lv_at hl 4 rfl) (hp_n (n := 102) rfl ?_)
        refine q_ci (pc' := 105) Bh_10 (hp_runV (As := [.int v5_h_1]) (rest := [.int v4_h_1, .int v5_h_1, .int x_7, .ref b_2]) C Bh_10 (t_X5_at Γ l α Bh_10.2.2.1 b_11 (cw_k Bh_10.2.2 kb_11) v5_h_1) lb_X5_at lv_X5_at lk_X11_135 (cw_k Bh_10.2.2 kb_11) rfl (by decide) rfl hl.1 rfl (Nat.le_of_ble_eq_true rfl) dX11_clashingStep_102 ⟨Nat.le_refl _, Nat.le_refl _⟩) (fun _ _ h => by rw [h]; exact Bh_10.2.2) rfl (fun rh_12 αh_12 Hh_12 Lh_12 ph_12 Bh_12 => ?_)
        rw [ph_12] at Bh_12
        refine q_ci (pc' := 108) Bh_12 (hp_runV (As := [.int x_7, .int v5_h_1, .int v4_h_1, .int rh_12]) (rest := []) C Bh_12 (t_X8_joined Γ l α Bh_12.2.2.1 b_2 (cw_k Bh_12.2.2 kb_2) x_7 v5_h_1 v4_h_1 rh_12) lb_X8_joined lv_X8_joined lk_X11_478 (cw_k Bh_12.2.2 kb_2) rfl (by decide) rfl hl.1 rfl (Nat.le_of_ble_eq_true rfl) dX11_clashingStep_105 ⟨Nat.le_refl _, Nat.le_refl _⟩) (fun _ _ h => by rw [h]; exact Bh_12.2.2) rfl (fun rh_13 αh_13 Hh_13 Lh_13 ph_13 Bh_13 => ?_)
        rw [ph_13] at Bh_13
        refine lv_istore (lv' := [(4, .int rh_13), (3, .int rh_10), (6, .int 1), (0, .ref a0), (5, .int v5_h_1)]) hx hb dX11_clashingStep_108 hl (by decide) rfl (fun ls hl => hp_n (n := 110) rfl ?_)
        refine lv_iload hx hb dX11_clashingStep_110 (lv_at hl 2 rfl) (hp_n (n := 112) rfl ?_)
        refine lv_if_eq (tgt := 124) hx hb dX11_clashingStep_112 (by decide) (fun c_14 => ?_) (fun c_14 => hp_n (n := 115) rfl ?_)
        · exact absurd c_14 (by decide)
        refine lv_iload_n hx hb dX11_clashingStep_115 rfl (lv_at hl 1 rfl) (hp_n (n := 116) rfl ?_)
        refine lv_iload hx hb dX11_clashingStep_116 (lv_at hl 0 rfl) (hp_n (n := 118) rfl ?_)
        refine lv_icmp_ne (tgt := 124) hx hb dX11_clashingStep_118 (by decide) (fun c_15 => ?_) (fun c_15 => hp_n (n := 121) rfl ?_)
        ·
          have jc_15 := il_ne c_15
          obtain ⟨x_16, ex_16⟩ : ∃ y : Int32, y = v5_h_1 + 1 := ⟨_, rfl⟩
          have qx_16 : x_16.toInt = v5_h_1.toInt + 1 := by have q0 := ib_hi x_3; have qa := ib_lo v5_h_1; rw [ex_16]; exact ii_add (by omega) (by omega)
          refine lv_iinc (v := x_16) (lv' := [(5, .int x_16), (4, .int rh_13), (3, .int rh_10), (6, .int 1), (0, .ref a0)]) hx hb dX11_clashingStep_124 hl (k := 4) rfl (by rw [ex_16]; rfl) (by decide) rfl (fun ls hl => hp_n (n := 127) rfl ?_)
          refine lv_goto (tgt := 8) hx hb dX11_clashingStep_127 (by decide) ?_
          exact ih8 _ (by have q0 := ib_hi x_3; have q1 := ib_lo x_3; have qa := ib_hi v5_h_1; have qb := ib_lo v5_h_1; have qc : (v5_h_1 + 1).toInt = v5_h_1.toInt + (1 : Int32).toInt := ii_add (by omega) (by omega); rw [ex_16]; omega) Hh_13 Lh_13 Bh_13 rh_10 rh_13 x_16 (by omega) ls (lv_sub hl [4, 2, 1, 0] rfl) rfl
        ·
          have jc_15 := il_eq c_15
          refine lv_iload hx hb dX11_clashingStep_121 (lv_at hl 4 rfl) (hp_n (n := 123) rfl ?_)
          exact q_iret C Bh_13 hr hlk rfl dX11_clashingStep_123
      refine lv_icmp_ne (tgt := 47) hx hb dX11_clashingStep_23 (by decide) (fun c_17 => ?_) (fun c_17 => hp_n (n := 26) rfl ?_)
      ·
        have jc_17 := il_ne c_17
        exact J47 Hh_1 Lh_1 Bh_1 ls (lv_sub hl [0, 1, 2, 3] rfl)
      ·
        have jc_17 := il_eq c_17
        refine lv_aload_n hx hb dX11_clashingStep_26 rfl (lv_at hl 0 rfl) (hp_n (n := 27) rfl ?_)
        refine q_getr (κ := 12) (k := 14) (φ := 614) (pc' := 30) C Bh_1 (cw_k Bh_1.2.2 k0) fl_X11_69 rfl rfl rfl (cw_r Bh_1.2.2 k0 rfl rfl (by decide) (by decide)) dX11_clashingStep_27 rfl (fun b_18 eb_18 kb_18 => ?_)
        refine lv_iload hx hb dX11_clashingStep_30 (lv_at hl 3 rfl) (hp_n (n := 32) rfl ?_)
        refine q_ci (pc' := 35) Bh_1 (hp_runV (As := [.int v5_h_1]) (rest := []) C Bh_1 (t_X5_at Γ l α Bh_1.2.2.1 b_18 (cw_k Bh_1.2.2 kb_18) v5_h_1) lb_X5_at lv_X5_at lk_X11_135 (cw_k Bh_1.2.2 kb_18) rfl (by decide) rfl hl.1 rfl (Nat.le_of_ble_eq_true rfl) dX11_clashingStep_32 ⟨Nat.le_refl _, Nat.le_refl _⟩) (fun _ _ h => by rw [h]; exact Bh_1.2.2) rfl (fun rh_19 αh_19 Hh_19 Lh_19 ph_19 Bh_19 => ?_)
        rw [ph_19] at Bh_19
        refine lv_aload_n hx hb dX11_clashingStep_35 rfl (lv_at hl 0 rfl) (hp_n (n := 36) rfl ?_)
        refine q_getr (κ := 12) (k := 3) (φ := 603) (pc' := 39) C Bh_19 (cw_k Bh_19.2.2 k0) fl_X11_26 rfl rfl rfl (cw_r Bh_19.2.2 k0 rfl rfl (by decide) (by decide)) dX11_clashingStep_36 rfl (fun b_20 eb_20 kb_20 => ?_)
        refine lv_iload hx hb dX11_clashingStep_39 (lv_at hl 3 rfl) (hp_n (n := 41) rfl ?_)
        refine q_ci (pc' := 44) Bh_19 (hp_runV (As := [.int v5_h_1]) (rest := [.int rh_19]) C Bh_19 (t_X5_at Γ l α Bh_19.2.2.1 b_20 (cw_k Bh_19.2.2 kb_20) v5_h_1) lb_X5_at lv_X5_at lk_X11_135 (cw_k Bh_19.2.2 kb_20) rfl (by decide) rfl hl.1 rfl (Nat.le_of_ble_eq_true rfl) dX11_clashingStep_41 ⟨Nat.le_refl _, Nat.le_refl _⟩) (fun _ _ h => by rw [h]; exact Bh_19.2.2) rfl (fun rh_21 αh_21 Hh_21 Lh_21 ph_21 Bh_21 => ?_)
        rw [ph_21] at Bh_21
        refine lv_icmp_eq (tgt := 51) hx hb dX11_clashingStep_44 (by decide) (fun c_22 => ?_) (fun c_22 => hp_n (n := 47) rfl ?_)
        ·
          have jc_22 := il_eq c_22
          refine lv_iconst (v := 0) hx hb dX11_clashingStep_51 (by decide) (hp_n (n := 52) rfl ?_)
          refine lv_istore (lv' := [(6, .int 0), (0, .ref a0), (3, .int v3_h_1), (4, .int v4_h_1), (5, .int v5_h_1)]) hx hb dX11_clashingStep_52 hl (by decide) rfl (fun ls hl => hp_n (n := 54) rfl ?_)
          refine lv_aload_n hx hb dX11_clashingStep_54 rfl (lv_at hl 1 rfl) (hp_n (n := 55) rfl ?_)
          refine q_gets (κ := 12) (k := 12) (φ := 612) (pc' := 58) C Bh_21 (cw_k Bh_21.2.2 k0) fl_X11_62 rfl rfl rfl eb_2 dX11_clashingStep_55 rfl ?_
          refine lv_aload_n hx hb dX11_clashingStep_58 rfl (lv_at hl 1 rfl) (hp_n (n := 59) rfl ?_)
          refine q_getr (κ := 12) (k := 1) (φ := 601) (pc' := 62) C Bh_21 (cw_k Bh_21.2.2 k0) fl_X11_16 rfl rfl rfl (cw_r Bh_21.2.2 k0 rfl rfl (by decide) (by decide)) dX11_clashingStep_59 rfl (fun b_23 eb_23 kb_23 => ?_)
          refine q_geti (κ := 11) (k := 0) (φ := 550) (pc' := 65) C Bh_21 (cw_k Bh_21.2.2 kb_23) fl_X11_122 rfl rfl rfl dX11_clashingStep_62 rfl (fun x_24 ex_24 => ?_)
          refine lv_iload hx hb dX11_clashingStep_65 (lv_at hl 4 rfl) (hp_n (n := 67) rfl ?_)
          refine lv_iload_n hx hb dX11_clashingStep_67 rfl (lv_at hl 2 rfl) (hp_n (n := 68) rfl ?_)
          refine lv_aload_n hx hb dX11_clashingStep_68 rfl (lv_at hl 1 rfl) (hp_n (n := 69) rfl ?_)
          refine q_gets (κ := 12) (k := 14) (φ := 614) (pc' := 72) C Bh_21 (cw_k Bh_21.2.2 k0) fl_X11_69 rfl rfl rfl eb_18 dX11_clashingStep_69 rfl ?_
          refine lv_iload hx hb dX11_clashingStep_72 (lv_at hl 4 rfl) (hp_n (n := 74) rfl ?_)
          refine q_ci (pc' := 77) Bh_21 (hp_runV (As := [.int v5_h_1]) (rest := [.int v3_h_1, .int v5_h_1, .int x_24, .ref b_2]) C Bh_21 (t_X5_at Γ l α Bh_21.2.2.1 b_18 (cw_k Bh_21.2.2 kb_18) v5_h_1) lb_X5_at lv_X5_at lk_X11_135 (cw_k Bh_21.2.2 kb_18) rfl (by decide) rfl hl.1 rfl (Nat.le_of_ble_eq_true rfl) dX11_clashingStep_74 ⟨Nat.le_refl _, Nat.le_refl _⟩) (fun _ _ h => by rw [h]; exact Bh_21.2.2) rfl (fun rh_25 αh_25 Hh_25 Lh_25 ph_25 Bh_25 => ?_)
          rw [ph_25] at Bh_25
          refine q_ci (pc' := 80) Bh_25 (hp_runV (As := [.int x_24, .int v5_h_1, .int v3_h_1, .int rh_25]) (rest := []) C Bh_25 (t_X8_joined Γ l α Bh_25.2.2.1 b_2 (cw_k Bh_25.2.2 kb_2) x_24 v5_h_1 v3_h_1 rh_25) lb_X8_joined lv_X8_joined lk_X11_478 (cw_k Bh_25.2.2 kb_2) rfl (by decide) rfl hl.1 rfl (Nat.le_of_ble_eq_true rfl) dX11_clashingStep_77 ⟨Nat.le_refl _, Nat.le_refl _⟩) (fun _ _ h => by rw [h]; exact Bh_25.2.2) rfl (fun rh_26 αh_26 Hh_26 Lh_26 ph_26 Bh_26 => ?_)
          rw [ph_26] at Bh_26
          refine lv_istore_n (lv' := [(3, .int rh_26), (6, .int 0), (0, .ref a0), (4, .int v4_h_1), (5, .int v5_h_1)]) hx hb dX11_clashingStep_80 rfl hl (by decide) rfl (fun ls hl => hp_n (n := 81) rfl ?_)
          refine lv_aload_n hx hb dX11_clashingStep_81 rfl (lv_at hl 2 rfl) (hp_n (n := 82) rfl ?_)
          refine q_gets (κ := 12) (k := 12) (φ := 612) (pc' := 85) C Bh_26 (cw_k Bh_26.2.2 k0) fl_X11_62 rfl rfl rfl eb_2 dX11_clashingStep_82 rfl ?_
          refine lv_aload_n hx hb dX11_clashingStep_85 rfl (lv_at hl 2 rfl) (hp_n (n := 86) rfl ?_)
          refine q_gets (κ := 12) (k := 1) (φ := 601) (pc' := 89) C Bh_26 (cw_k Bh_26.2.2 k0) fl_X11_16 rfl rfl rfl eb_23 dX11_clashingStep_86 rfl ?_
          refine q_getj (κ := 11) (k := 0) (φ := 550) (pc' := 92) C Bh_26 (cw_k Bh_26.2.2 kb_23) fl_X11_122 rfl rfl rfl ex_24 dX11_clashingStep_89 rfl ?_
          refine lv_iload hx hb dX11_clashingStep_92 (lv_at hl 4 rfl) (hp_n (n := 94) rfl ?_)
          refine lv_iload hx hb dX11_clashingStep_94 (lv_at hl 3 rfl) (hp_n (n := 96) rfl ?_)
          refine lv_aload_n hx hb dX11_clashingStep_96 rfl (lv_at hl 2 rfl) (hp_n (n := 97) rfl ?_)
          refine q_gets (κ := 12) (k := 3) (φ := 603) (pc' := 100) C Bh_26 (cw_k Bh_26.2.2 k0) fl_X11_26 rfl rfl rfl eb_20 dX11_clashingStep_97 rfl ?_
          refine lv_iload hx hb dX11_clashingStep_100 (lv_at hl 4 rfl) (hp_n (n := 102) rfl ?_)
          refine q_ci (pc' := 105) Bh_26 (hp_runV (As := [.int v5_h_1]) (rest := [.int v4_h_1, .int v5_h_1, .int x_24, .ref b_2]) C Bh_26 (t_X5_at Γ l α Bh_26.2.2.1 b_20 (cw_k Bh_26.2.2 kb_20) v5_h_1) lb_X5_at lv_X5_at lk_X11_135 (cw_k Bh_26.2.2 kb_20) rfl (by decide) rfl hl.1 rfl (Nat.le_of_ble_eq_true rfl) dX11_clashingStep_102 ⟨Nat.le_refl _, Nat.le_refl _⟩) (fun _ _ h => by rw [h]; exact Bh_26.2.2) rfl (fun rh_27 αh_27 Hh_27 Lh_27 ph_27 Bh_27 => ?_)
          rw [ph_27] at Bh_27
          refine q_ci (pc' := 108) Bh_27 (hp_runV (As := [.int x_24, .int v5_h_1, .int v4_h_1, .int rh_27]) (rest := []) C Bh_27 (t_X8_joined Γ l α Bh_27.2.2.1 b_2 (cw_k Bh_27.2.2 kb_2) x_24 v5_h_1 v4_h_1 rh_27) lb_X8_joined lv_X8_joined lk_X11_478 (cw_k Bh_27.2.2 kb_2) rfl (by decide) rfl hl.1 rfl (Nat.le_of_ble_eq_true rfl) dX11_clashingStep_105 ⟨Nat.le_refl _, Nat.le_refl _⟩) (fun _ _ h => by rw [h]; exact Bh_27.2.2) rfl (fun rh_28 αh_28 Hh_28 Lh_28 ph_28 Bh_28 => ?_)
          rw [ph_28] at Bh_28
          refine lv_istore (lv' := [(4, .int rh_28), (3, .int rh_26), (6, .int 0), (0, .ref a0), (5, .int v5_h_1)]) hx hb dX11_clashingStep_108 hl (by decide) rfl (fun ls hl => hp_n (n := 110) rfl ?_)
          refine lv_iload hx hb dX11_clashingStep_110 (lv_at hl 2 rfl) (hp_n (n := 112) rfl ?_)
          refine lv_if_eq (tgt := 124) hx hb dX11_clashingStep_112 (by decide) (fun c_29 => ?_) (fun c_29 => hp_n (n := 115) rfl ?_)
          rotate_left
          · exact absurd c_29 (by decide)
          obtain ⟨x_30, ex_30⟩ : ∃ y : Int32, y = v5_h_1 + 1 := ⟨_, rfl⟩
          have qx_30 : x_30.toInt = v5_h_1.toInt + 1 := by have q0 := ib_hi x_3; have qa := ib_lo v5_h_1; rw [ex_30]; exact ii_add (by omega) (by omega)
          refine lv_iinc (v := x_30) (lv' := [(5, .int x_30), (4, .int rh_28), (3, .int rh_26), (6, .int 0), (0, .ref a0)]) hx hb dX11_clashingStep_124 hl (k := 4) rfl (by rw [ex_30]; rfl) (by decide) rfl (fun ls hl => hp_n (n := 127) rfl ?_)
          refine lv_goto (tgt := 8) hx hb dX11_clashingStep_127 (by decide) ?_
          exact ih8 _ (by have q0 := ib_hi x_3; have q1 := ib_lo x_3; have qa := ib_hi v5_h_1; have qb := ib_lo v5_h_1; have qc : (v5_h_1 + 1).toInt = v5_h_1.toInt + (1 : Int32).toInt := ii_add (by omega) (by omega); rw [ex_30]; omega) Hh_28 Lh_28 Bh_28 rh_26 rh_28 x_30 (by omega) ls (lv_sub hl [4, 2, 1, 0] rfl) rfl
        ·
          have jc_22 := il_ne c_22
          exact J47 Hh_21 Lh_21 Bh_21 ls (lv_sub hl [0, 1, 2, 3] rfl)
  refine lv_istore (lv' := [(5, .int 0), (4, .int a2), (3, .int a1), (0, .ref a0), (1, .int a1), (2, .int a2)]) hx hb dX11_clashingStep_6 hl (by decide) rfl (fun ls hl => hp_n (n := 8) rfl ?_)
  exact J8 _ s.heap [] B a1 a2 0 (by omega) ls (lv_sub hl [3, 2, 1, 0] rfl) rfl
abbrev w_X11_clash : cw_W := ([301, 453, 454, 600], [], [20, 21, 22, 23, 33], [])
set_option maxRecDepth 100000 in
set_option maxHeartbeats 4000000 in
theorem t_X11_clash (Γ : hp_G) (l : Launch) (α : hp_T) (g : GC α) (a0 : Nat) (k0 : hp_K α a0 = 12) (a1 : Int32) (a2 : Int32) (a3 : Int32) (a4 : Int32) (a5 : Int32) : Met l yX11_clash (hp_ws yX11_clash cX11_clash 13 (some .int)) (hp_rm 4 0 0) (hp_Pc Γ α [.ref a0, .int a1, .int a2, .int a3, .int a4, .int a5]) (hp_Qi Γ (fun r β => cw w_X11_clash α β)) 0 0 (hp_A Γ) := by
  refine hp_start (by decide) ?_
  intro p e s m below meth c C hr hlk B0 hnm
  have C : hp_C Γ p m c cX11_clash 13 s ([.ref a0, .int a1, .int a2, .int a3, .int a4, .int a5] : List Value).toArray RX11 := C
  have hx := C.1.1
  have hb := C.1.2.1
  have hown := C.1.2.2.2.1
  have hts := C.1.2.2.2.2
  have B : hp_B Γ (cw w_X11_clash) s α α s.heap [] := ⟨B0.1, B0.2.1, cw_rf g⟩
  have lit0 : (0 : Int32).toInt = 0 := by decide
  have lit1 : (1 : Int32).toInt = 1 := by decide
  have lit2 : (2 : Int32).toInt = 2 := by decide
  have lit3 : (3 : Int32).toInt = 3 := by decide
  have lit4 : (4 : Int32).toInt = 4 := by decide
  have lit5 : (5 : Int32).toInt = 5 := by decide
  have hl := lv_entry ([.ref a0, .int a1, .int a2, .int a3, .int a4, .int a5]) (n := 13) (Nat.le_of_ble_eq_true rfl)
  show W p l e (hp_rm 4 0 0) s m ([.ref a0, .int a1, .int a2, .int a3, .int a4, .int a5] : List Value).toArray below meth c s.heap [] 0 0 (MQ below (hp_Qi Γ (fun r β => cw w_X11_clash α β)) ([.ref a0, .int a1, .int a2, .int a3, .int a4, .int a5] : List Value).toArray s 0 0 (hp_A Γ)) (entryFrame m ([.ref a0, .int a1, .int a2, .int a3, .int a4, .int a5] : List Value).toArray 13)
  rw [lg_entry_eq]
  generalize (lg_sl ([.ref a0, .int a1, .int a2, .int a3, .int a4, .int a5]) ++ List.replicate (13 - (lg_sl ([.ref a0, .int a1, .int a2, .int a3, .int a4, .int a5])).length) Slot.unset).toArray = ls at hl ⊢
  have hl : lv_has ls 13 [(0, .ref a0), (1, .int a1), (2, .int a2), (3, .int a3), (4, .int a4), (5, .int a5)] := hl
  refine lv_iload hx hb dX11_clash_0 (lv_at hl 5 rfl) (hp_n (n := 2) rfl ?_)
  have J20 : ∀ (Hh_1 : Heap) (Lh_1 : List Loc) (Bh_1 : hp_B Γ (cw w_X11_clash) s α α Hh_1 Lh_1) (ls : Array Slot) (hl : lv_has ls 13 [(0, .ref a0)]), W p l e (hp_rm 4 0 0) s m ([.ref a0, .int a1, .int a2, .int a3, .int a4, .int a5] : List Value).toArray below meth c Hh_1 Lh_1 0 0 (MQ below (hp_Qi Γ (fun r β => cw w_X11_clash α β)) ([.ref a0, .int a1, .int a2, .int a3, .int a4, .int a5] : List Value).toArray s 0 0 (hp_A Γ)) (F0 m 20 ls []) := by
    intro Hh_1 Lh_1 Bh_1 ls hl
    refine lv_aload_n hx hb dX11_clash_20 rfl (lv_at hl 0 rfl) (hp_n (n := 21) rfl ?_)
    refine lv_iconst (v := 1) hx hb dX11_clash_21 (by decide) (hp_n (n := 22) rfl ?_)
    refine q_ci (pc' := 25) Bh_1 (hp_runV (As := [.int 1]) (rest := []) C Bh_1 (t_X11_refuse Γ l α Bh_1.2.2.1 a0 (cw_k Bh_1.2.2 k0) 1) lb_X11_refuse lv_X11_refuse lk_X11_98 (cw_k Bh_1.2.2 k0) rfl (by decide) rfl hl.1 rfl (Nat.le_of_ble_eq_true rfl) dX11_clash_22 ⟨Nat.le_refl _, Nat.le_refl _⟩) (fun _ _ h => cw_tr Bh_1.2.2 h (by decide)) rfl (fun rh_2 αh_2 Hh_2 Lh_2 ph_2 Bh_2 => ?_)
    exact q_iret C Bh_2 hr hlk Bh_2.2.2 dX11_clash_25
  refine lv_if_lt (tgt := 20) hx hb dX11_clash_2 (by decide) (fun c_3 => ?_) (fun c_3 => hp_n (n := 5) rfl ?_)
  ·
    have jc_3 := il_lt c_3
    exact J20 s.heap [] B ls (lv_sub hl [0] rfl)
  ·
    have jc_3 := il_nlt c_3
    refine lv_iload hx hb dX11_clash_5 (lv_at hl 5 rfl) (hp_n (n := 7) rfl ?_)
    refine lv_iconst (v := 4) hx hb dX11_clash_7 (by decide) (hp_n (n := 8) rfl ?_)
    refine lv_icmp_gt (tgt := 20) hx hb dX11_clash_8 (by decide) (fun c_4 => ?_) (fun c_4 => hp_n (n := 11) rfl ?_)
    ·
      have jc_4 := il_lt c_4
      exact J20 s.heap [] B ls (lv_sub hl [0] rfl)
    ·
      have jc_4 := il_nlt c_4
      refine lv_aload_n hx hb dX11_clash_11 rfl (lv_at hl 0 rfl) (hp_n (n := 12) rfl ?_)
      refine lv_iload hx hb dX11_clash_12 (lv_at hl 4 rfl) (hp_n (n := 14) rfl ?_)
      refine q_ci (pc' := 17) B (hp_runV (As := [.int a4]) (rest := []) C B (t_X11_isMark Γ l α B.2.2.1 a0 (cw_k B.2.2 k0) a4) lb_X11_isMark lv_X11_isMark lk_X11_188 (cw_k B.2.2 k0) rfl (by decide) rfl hl.1 rfl (Nat.le_of_ble_eq_true rfl) dX11_clash_14 ⟨Nat.le_refl _, Nat.le_refl _⟩) (fun _ _ h => by rw [h.1]; exact B.2.2) rfl (fun rh_5 αh_5 Hh_5 Lh_5 ph_5 Bh_5 => ?_)
      rw [ph_5.1] at Bh_5
      have zh_5 := ph_5.2
      refine lv_if_ne (tgt := 26) hx hb dX11_clash_17 (by decide) (fun c_6 => ?_) (fun c_6 => hp_n (n := 20) rfl ?_)
      ·
        have jc_6 := il_ne c_6
        refine lv_aload_n hx hb dX11_clash_26 rfl (lv_at hl 0 rfl) (hp_n (n := 27) rfl ?_)
        refine q_getr (κ := 12) (k := 1) (φ := 601) (pc' := 30) C Bh_5 (cw_k Bh_5.2.2 k0) fl_X11_16 rfl rfl rfl (cw_r Bh_5.2.2 k0 rfl rfl (by decide) (by decide)) dX11_clash_27 rfl (fun b_7 eb_7 kb_7 => ?_)
        refine lv_iload_n hx hb dX11_clash_30 rfl (lv_at hl 1 rfl) (hp_n (n := 31) rfl ?_)
        refine q_cq (pc' := 34) Bh_5 (hp_runV (As := [.int a1]) (rest := []) C Bh_5 (t_X10_logAt Γ l α Bh_5.2.2.1 b_7 (cw_k Bh_5.2.2 kb_7) a1) lb_X10_logAt lv_X10_logAt lk_X11_163 (cw_k Bh_5.2.2 kb_7) rfl (by decide) rfl hl.1 rfl (Nat.le_of_ble_eq_true rfl) dX11_clash_31 ⟨Nat.le_refl _, Nat.le_refl _⟩) (fun _ _ h => by rw [h.1]; exact Bh_5.2.2) rfl (fun rh_8 αh_8 Hh_8 Lh_8 ph_8 Bh_8 => ?_)
        rw [ph_8.1] at Bh_8
        rcases rh_8 with _ | bh_8
        ·
          refine lv_astoreN (lv' := [(6, .null), (0, .ref a0), (1, .int a1), (2, .int a2), (3, .int a3), (4, .int a4), (5, .int a5)]) hx hb dX11_clash_34 hl (by decide) rfl (fun ls hl => hp_n (n := 36) rfl ?_)
          refine lv_aloadN hx hb dX11_clash_36 (lv_at hl 0 rfl) (hp_n (n := 38) rfl ?_)
          refine lv_iload_n hx hb dX11_clash_38 rfl (lv_at hl 3 rfl) (hp_n (n := 39) rfl ?_)
          refine lv_iload_n hx hb dX11_clash_39 rfl (lv_at hl 4 rfl) (hp_n (n := 40) rfl ?_)
          refine q_ci (pc' := 43) Bh_8 (hp_runS (As := [va_rf none, .int a2, .int a3]) (rest := []) C Bh_8 (t_X11_wrongInclusion Γ l α Bh_8.2.2.1 none (fun b h => by cases h) a2 a3) lb_X11_wrongInclusion ls_X11_wrongInclusion lk_X11_264 rfl (by decide) rfl hl.1 rfl (Nat.le_of_ble_eq_true rfl) dX11_clash_40 ⟨Nat.le_refl _, Nat.le_refl _⟩) (fun _ _ h => by rw [h]; exact Bh_8.2.2) rfl (fun rh_9 αh_9 Hh_9 Lh_9 ph_9 Bh_9 => ?_)
          rw [ph_9] at Bh_9
          refine lv_istore (lv' := [(7, .int rh_9), (6, .null), (0, .ref a0), (1, .int a1), (2, .int a2), (3, .int a3), (4, .int a4), (5, .int a5)]) hx hb dX11_clash_43 hl (by decide) rfl (fun ls hl => hp_n (n := 45) rfl ?_)
          refine lv_iload hx hb dX11_clash_45 (lv_at hl 0 rfl) (hp_n (n := 47) rfl ?_)
          have J55 : ∀ (Hh_10 : Heap) (Lh_10 : List Loc) (Bh_10 : hp_B Γ (cw w_X11_clash) s α α Hh_10 Lh_10) (ls : Array Slot) (hl : lv_has ls 13 [(0, .ref a0), (7, .int rh_9)]), W p l e (hp_rm 4 0 0) s m ([.ref a0, .int a1, .int a2, .int a3, .int a4, .int a5] : List Value).toArray below meth c Hh_10 Lh_10 0 0 (MQ below (hp_Qi Γ (fun r β => cw w_X11_clash α β)) ([.ref a0, .int a1, .int a2, .int a3, .int a4, .int a5] : List Value).toArray s 0 0 (hp_A Γ)) (F0 m 55 ls []) := by
            intro Hh_10 Lh_10 Bh_10 ls hl
            refine lv_aload_n hx hb dX11_clash_55 rfl (lv_at hl 0 rfl) (hp_n (n := 56) rfl ?_)
            refine lv_iload hx hb dX11_clash_56 (lv_at hl 1 rfl) (hp_n (n := 58) rfl ?_)
            refine q_ci (pc' := 61) Bh_10 (hp_runV (As := [.int rh_9]) (rest := []) C Bh_10 (t_X11_refuse Γ l α Bh_10.2.2.1 a0 (cw_k Bh_10.2.2 k0) rh_9) lb_X11_refuse lv_X11_refuse lk_X11_98 (cw_k Bh_10.2.2 k0) rfl (by decide) rfl hl.1 rfl (Nat.le_of_ble_eq_true rfl) dX11_clash_58 ⟨Nat.le_refl _, Nat.le_refl _⟩) (fun _ _ h => cw_tr Bh_10.2.2 h (by decide)) rfl (fun rh_11 αh_11 Hh_11 Lh_11 ph_11 Bh_11 => ?_)
            exact q_iret C Bh_11 hr hlk Bh_11.2.2 dX11_clash_61
          refine lv_if_ne (tgt := 55) hx hb dX11_clash_47 (by decide) (fun c_12 => ?_) (fun c_12 => hp_n (n := 50) rfl ?_)
          ·
            have jc_12 := il_ne c_12
            exact J55 Hh_9 Lh_9 Bh_9 ls (lv_sub hl [2, 0] rfl)
          ·
            have jc_12 := il_eq c_12
            refine lv_aloadN hx hb dX11_clash_50 (lv_at hl 1 rfl) (hp_n (n := 52) rfl ?_)
            refine lv_ifnonnullN hx hb dX11_clash_52 (hp_n (n := 55) rfl ?_)
            exact J55 Hh_9 Lh_9 Bh_9 ls (lv_sub hl [2, 0] rfl)
        ·
          have kbh_8 : hp_K α bh_8 = 3 := cw_k' Bh_8.2.2 (ph_8.2 bh_8 rfl)
          refine lv_astore (lv' := [(6, .ref bh_8), (0, .ref a0), (1, .int a1), (2, .int a2), (3, .int a3), (4, .int a4), (5, .int a5)]) hx hb dX11_clash_34 hl (by decide) rfl (fun ls hl => hp_n (n := 36) rfl ?_)
          refine lv_aload hx hb dX11_clash_36 (lv_at hl 0 rfl) (hp_n (n := 38) rfl ?_)
          refine lv_iload_n hx hb dX11_clash_38 rfl (lv_at hl 3 rfl) (hp_n (n := 39) rfl ?_)
          refine lv_iload_n hx hb dX11_clash_39 rfl (lv_at hl 4 rfl) (hp_n (n := 40) rfl ?_)
          refine q_ci (pc' := 43) Bh_8 (hp_runS (As := [va_rf (some bh_8), .int a2, .int a3]) (rest := []) C Bh_8 (t_X11_wrongInclusion Γ l α Bh_8.2.2.1 (some bh_8) (fun b h => by cases h; exact (cw_k Bh_8.2.2 kbh_8)) a2 a3) lb_X11_wrongInclusion ls_X11_wrongInclusion lk_X11_264 rfl (by decide) rfl hl.1 rfl (Nat.le_of_ble_eq_true rfl) dX11_clash_40 ⟨Nat.le_refl _, Nat.le_refl _⟩) (fun _ _ h => by rw [h]; exact Bh_8.2.2) rfl (fun rh_13 αh_13 Hh_13 Lh_13 ph_13 Bh_13 => ?_)
          rw [ph_13] at Bh_13
          refine lv_istore (lv' := [(7, .int rh_13), (6, .ref bh_8), (0, .ref a0), (1, .int a1), (2, .int a2), (3, .int a3), (4, .int a4), (5, .int a5)]) hx hb dX11_clash_43 hl (by decide) rfl (fun ls hl => hp_n (n := 45) rfl ?_)
          refine lv_iload hx hb dX11_clash_45 (lv_at hl 0 rfl) (hp_n (n := 47) rfl ?_)
          have J55 : ∀ (Hh_14 : Heap) (Lh_14 : List Loc) (Bh_14 : hp_B Γ (cw w_X11_clash) s α α Hh_14 Lh_14) (ls : Array Slot) (hl : lv_has ls 13 [(0, .ref a0), (7, .int rh_13)]), W p l e (hp_rm 4 0 0) s m ([.ref a0, .int a1, .int a2, .int a3, .int a4, .int a5] : List Value).toArray below meth c Hh_14 Lh_14 0 0 (MQ below (hp_Qi Γ (fun r β => cw w_X11_clash α β)) ([.ref a0, .int a1, .int a2, .int a3, .int a4, .int a5] : List Value).toArray s 0 0 (hp_A Γ)) (F0 m 55 ls []) := by
            intro Hh_14 Lh_14 Bh_14 ls hl
            refine lv_aload_n hx hb dX11_clash_55 rfl (lv_at hl 0 rfl) (hp_n (n := 56) rfl ?_)
            refine lv_iload hx hb dX11_clash_56 (lv_at hl 1 rfl) (hp_n (n := 58) rfl ?_)
            refine q_ci (pc' := 61) Bh_14 (hp_runV (As := [.int rh_13]) (rest := []) C Bh_14 (t_X11_refuse Γ l α Bh_14.2.2.1 a0 (cw_k Bh_14.2.2 k0) rh_13) lb_X11_refuse lv_X11_refuse lk_X11_98 (cw_k Bh_14.2.2 k0) rfl (by decide) rfl hl.1 rfl (Nat.le_of_ble_eq_true rfl) dX11_clash_58 ⟨Nat.le_refl _, Nat.le_refl _⟩) (fun _ _ h => cw_tr Bh_14.2.2 h (by decide)) rfl (fun rh_15 αh_15 Hh_15 Lh_15 ph_15 Bh_15 => ?_)
            exact q_iret C Bh_15 hr hlk Bh_15.2.2 dX11_clash_61
          refine lv_if_ne (tgt := 55) hx hb dX11_clash_47 (by decide) (fun c_16 => ?_) (fun c_16 => hp_n (n := 50) rfl ?_)
          ·
            have jc_16 := il_ne c_16
            exact J55 Hh_13 Lh_13 Bh_13 ls (lv_sub hl [2, 0] rfl)
          ·
            have jc_16 := il_eq c_16
            refine lv_aload hx hb dX11_clash_50 (lv_at hl 1 rfl) (hp_n (n := 52) rfl ?_)
            refine lv_ifnonnull (tgt := 62) hx hb dX11_clash_52 (by decide) ?_
            refine lv_aload_n hx hb dX11_clash_62 rfl (lv_at hl 2 rfl) (hp_n (n := 63) rfl ?_)
            refine q_getr (κ := 12) (k := 12) (φ := 612) (pc' := 66) C Bh_13 (cw_k Bh_13.2.2 k0) fl_X11_62 rfl rfl rfl (cw_r Bh_13.2.2 k0 rfl rfl (by decide) (by decide)) dX11_clash_63 rfl (fun b_17 eb_17 kb_17 => ?_)
            refine lv_iload_n hx hb dX11_clash_66 rfl (lv_at hl 4 rfl) (hp_n (n := 67) rfl ?_)
            refine lv_iload_n hx hb dX11_clash_67 rfl (lv_at hl 5 rfl) (hp_n (n := 68) rfl ?_)
            refine q_cv (pc' := 71) Bh_13 (hp_runV (As := [.int a2, .int a3]) (rest := []) C Bh_13 (t_X8_toThing Γ l α Bh_13.2.2.1 b_17 (cw_k Bh_13.2.2 kb_17) a2 a3) lb_X8_toThing lv_X8_toThing lk_X11_267 (cw_k Bh_13.2.2 kb_17) rfl (by decide) rfl hl.1 rfl (Nat.le_of_ble_eq_true rfl) dX11_clash_68 ⟨Nat.le_refl _, Nat.le_refl _⟩) (fun _ h => cw_tr Bh_13.2.2 h (by decide)) rfl (fun αh_18 Hh_18 Lh_18 ph_18 Bh_18 => ?_)
            refine lv_aload_n hx hb dX11_clash_71 rfl (lv_at hl 2 rfl) (hp_n (n := 72) rfl ?_)
            have t_19 : b_17 = hp_R αh_18 612 a0 := by rw [cw_R ph_18 a0 (by decide)]; exact eb_17
            refine q_gets (κ := 12) (k := 12) (φ := 612) (pc' := 75) C Bh_18 (cw_k Bh_18.2.2 k0) fl_X11_62 rfl rfl rfl t_19 dX11_clash_72 rfl ?_
            refine lv_aload_n hx hb dX11_clash_75 rfl (lv_at hl 2 rfl) (hp_n (n := 76) rfl ?_)
            have t_20 : b_7 = hp_R αh_18 601 a0 := by rw [cw_R ph_18 a0 (by decide)]; exact eb_7
            refine q_gets (κ := 12) (k := 1) (φ := 601) (pc' := 79) C Bh_18 (cw_k Bh_18.2.2 k0) fl_X11_16 rfl rfl rfl t_20 dX11_clash_76 rfl ?_
            refine q_geti (κ := 11) (k := 0) (φ := 550) (pc' := 82) C Bh_18 (cw_k Bh_18.2.2 kb_7) fl_X11_122 rfl rfl rfl dX11_clash_79 rfl (fun x_21 ex_21 => ?_)
            refine lv_aload_n hx hb dX11_clash_82 rfl (lv_at hl 2 rfl) (hp_n (n := 83) rfl ?_)
            refine q_getr (κ := 12) (k := 3) (φ := 603) (pc' := 86) C Bh_18 (cw_k Bh_18.2.2 k0) fl_X11_26 rfl rfl rfl (cw_r Bh_18.2.2 k0 rfl rfl (by decide) (by decide)) dX11_clash_83 rfl (fun b_22 eb_22 kb_22 => ?_)
            refine lv_iload hx hb dX11_clash_86 (lv_at hl 6 rfl) (hp_n (n := 88) rfl ?_)
            refine lv_aload_n hx hb dX11_clash_88 rfl (lv_at hl 2 rfl) (hp_n (n := 89) rfl ?_)
            refine q_gets (κ := 12) (k := 1) (φ := 601) (pc' := 92) C Bh_18 (cw_k Bh_18.2.2 k0) fl_X11_16 rfl rfl rfl t_20 dX11_clash_89 rfl ?_
            refine lv_aload hx hb dX11_clash_92 (lv_at hl 1 rfl) (hp_n (n := 94) rfl ?_)
            refine lv_iload_n hx hb dX11_clash_94 rfl (lv_at hl 5 rfl) (hp_n (n := 95) rfl ?_)
            refine q_ci (pc' := 98) Bh_18 (hp_runV (As := [va_rf (some bh_8), .int a3]) (rest := [.int a4, .ref b_22, .int x_21, .ref b_17]) C Bh_18 (t_X10_headOf Γ l αh_18 Bh_18.2.2.1 b_7 (cw_k Bh_18.2.2 kb_7) (some bh_8) (fun b h => by cases h; exact (cw_k Bh_18.2.2 kbh_8)) a3) lb_X10_headOf lv_X10_headOf lk_X11_184 (cw_k Bh_18.2.2 kb_7) rfl (by decide) rfl hl.1 rfl (Nat.le_of_ble_eq_true rfl) dX11_clash_95 ⟨Nat.le_refl _, Nat.le_refl _⟩) (fun _ _ h => cw_tr Bh_18.2.2 h (by decide)) rfl (fun rh_23 αh_23 Hh_23 Lh_23 ph_23 Bh_23 => ?_)
            refine q_ci (pc' := 101) Bh_23 (hp_runV (As := [.int x_21, .ref b_22, .int a4, .int rh_23]) (rest := []) C Bh_23 (t_X8_whyInclusion Γ l αh_23 Bh_23.2.2.1 b_17 (cw_k Bh_23.2.2 kb_17) x_21 b_22 (cw_k Bh_23.2.2 kb_22) a4 rh_23) lb_X8_whyInclusion lv_X8_whyInclusion lk_X11_304 (cw_k Bh_23.2.2 kb_17) rfl (by decide) rfl hl.1 rfl (Nat.le_of_ble_eq_true rfl) dX11_clash_98 ⟨Nat.le_refl _, Nat.le_refl _⟩) (fun _ _ h => by rw [h]; exact Bh_23.2.2) rfl (fun rh_24 αh_24 Hh_24 Lh_24 ph_24 Bh_24 => ?_)
            rw [ph_24] at Bh_24
            refine lv_if_eq (tgt := 110) hx hb dX11_clash_101 (by decide) (fun c_25 => ?_) (fun c_25 => hp_n (n := 104) rfl ?_)
            ·
              have jc_25 := il_eq c_25
              refine lv_aload_n hx hb dX11_clash_110 rfl (lv_at hl 2 rfl) (hp_n (n := 111) rfl ?_)
              have t_26 : b_7 = hp_R αh_23 601 a0 := by rw [cw_R ph_23 a0 (by decide)]; exact t_20
              refine q_gets (κ := 12) (k := 1) (φ := 601) (pc' := 114) C Bh_24 (cw_k Bh_24.2.2 k0) fl_X11_16 rfl rfl rfl t_26 dX11_clash_111 rfl ?_
              refine lv_aload_n hx hb dX11_clash_114 rfl (lv_at hl 2 rfl) (hp_n (n := 115) rfl ?_)
              have t_27 : b_17 = hp_R αh_23 612 a0 := by rw [cw_R ph_23 a0 (by decide)]; exact t_19
              refine q_gets (κ := 12) (k := 12) (φ := 612) (pc' := 118) C Bh_24 (cw_k Bh_24.2.2 k0) fl_X11_62 rfl rfl rfl t_27 dX11_clash_115 rfl ?_
              refine lv_aload hx hb dX11_clash_118 (lv_at hl 1 rfl) (hp_n (n := 120) rfl ?_)
              refine lv_aload_n hx hb dX11_clash_120 rfl (lv_at hl 2 rfl) (hp_n (n := 121) rfl ?_)
              refine q_getr (κ := 12) (k := 14) (φ := 614) (pc' := 124) C Bh_24 (cw_k Bh_24.2.2 k0) fl_X11_69 rfl rfl rfl (cw_r Bh_24.2.2 k0 rfl rfl (by decide) (by decide)) dX11_clash_121 rfl (fun b_28 eb_28 kb_28 => ?_)
              refine q_cv (pc' := 127) Bh_24 (hp_runV (As := [.ref b_17, va_rf (some bh_8), .ref b_28]) (rest := []) C Bh_24 (t_X10_marksAlong Γ l αh_23 Bh_24.2.2.1 b_7 (cw_k Bh_24.2.2 kb_7) b_17 (cw_k Bh_24.2.2 kb_17) (some bh_8) (fun b h => by cases h; exact (cw_k Bh_24.2.2 kbh_8)) b_28 (cw_k Bh_24.2.2 kb_28)) lb_X10_marksAlong lv_X10_marksAlong lk_X11_270 (cw_k Bh_24.2.2 kb_7) rfl (by decide) rfl hl.1 rfl (Nat.le_of_ble_eq_true rfl) dX11_clash_124 ⟨Nat.le_refl _, Nat.le_refl _⟩) (fun _ h => cw_tr Bh_24.2.2 h (by decide)) rfl (fun αh_29 Hh_29 Lh_29 ph_29 Bh_29 => ?_)
              refine lv_aload_n hx hb dX11_clash_127 rfl (lv_at hl 2 rfl) (hp_n (n := 128) rfl ?_)
              refine lv_aload hx hb dX11_clash_128 (lv_at hl 1 rfl) (hp_n (n := 130) rfl ?_)
              refine lv_iload_n hx hb dX11_clash_130 rfl (lv_at hl 4 rfl) (hp_n (n := 131) rfl ?_)
              refine q_ci (pc' := 134) Bh_29 (hp_runV (As := [.int a2]) (rest := [.ref a0]) C Bh_29 (t_X2_markAt Γ l αh_29 Bh_29.2.2.1 bh_8 (cw_k Bh_29.2.2 kbh_8) a2) lb_X2_markAt lv_X2_markAt lk_X11_174 (cw_k Bh_29.2.2 kbh_8) rfl (by decide) rfl hl.1 rfl (Nat.le_of_ble_eq_true rfl) dX11_clash_131 ⟨Nat.le_refl _, Nat.le_refl _⟩) (fun _ _ h => by rw [h]; exact Bh_29.2.2) rfl (fun rh_30 αh_30 Hh_30 Lh_30 ph_30 Bh_30 => ?_)
              rw [ph_30] at Bh_30
              refine lv_iload hx hb dX11_clash_134 (lv_at hl 6 rfl) (hp_n (n := 136) rfl ?_)
              refine q_ci (pc' := 139) Bh_30 (hp_runV (As := [.int rh_30, .int a4]) (rest := []) C Bh_30 (t_X11_clashingStep Γ l αh_29 Bh_30.2.2.1 a0 (cw_k Bh_30.2.2 k0) rh_30 a4) lb_X11_clashingStep lv_X11_clashingStep lk_X11_379 (cw_k Bh_30.2.2 k0) rfl (by decide) rfl hl.1 rfl (Nat.le_of_ble_eq_true rfl) dX11_clash_136 ⟨Nat.le_refl _, Nat.le_refl _⟩) (fun _ _ h => by rw [h]; exact Bh_30.2.2) rfl (fun rh_31 αh_31 Hh_31 Lh_31 ph_31 Bh_31 => ?_)
              rw [ph_31] at Bh_31
              refine lv_istore (lv' := [(8, .int rh_31), (7, .int rh_13), (6, .ref bh_8), (0, .ref a0), (1, .int a1), (2, .int a2), (3, .int a3), (4, .int a4), (5, .int a5)]) hx hb dX11_clash_139 hl (by decide) rfl (fun ls hl => hp_n (n := 141) rfl ?_)
              refine lv_iload hx hb dX11_clash_141 (lv_at hl 0 rfl) (hp_n (n := 143) rfl ?_)
              refine lv_if_ge (tgt := 152) hx hb dX11_clash_143 (by decide) (fun c_32 => ?_) (fun c_32 => hp_n (n := 146) rfl ?_)
              ·
                have jc_32 := il_le c_32
                refine lv_iload hx hb dX11_clash_152 (lv_at hl 8 rfl) (hp_n (n := 154) rfl ?_)
                refine lv_if_ne (tgt := 164) hx hb dX11_clash_154 (by decide) (fun c_33 => ?_) (fun c_33 => hp_n (n := 157) rfl ?_)
                ·
                  have jc_33 := il_ne c_33
                  refine lv_iload hx hb dX11_clash_164 (lv_at hl 8 rfl) (hp_n (n := 166) rfl ?_)
                  refine lv_iconst (v := 2) hx hb dX11_clash_166 (by decide) (hp_n (n := 167) rfl ?_)
                  refine lv_icmp_gt (tgt := 174) hx hb dX11_clash_167 (by decide) (fun c_34 => ?_) (fun c_34 => hp_n (n := 170) rfl ?_)
                  ·
                    have jc_34 := il_lt c_34
                    refine lv_iconst (v := 0) hx hb dX11_clash_174 (by decide) (hp_n (n := 175) rfl ?_)
                    refine lv_istore (lv' := [(9, .int 0), (8, .int rh_31), (7, .int rh_13), (6, .ref bh_8), (0, .ref a0), (1, .int a1), (2, .int a2), (3, .int a3), (4, .int a4), (5, .int a5)]) hx hb dX11_clash_175 hl (by decide) rfl (fun ls hl => hp_n (n := 177) rfl ?_)
                    refine lv_iload hx hb dX11_clash_177 (lv_at hl 0 rfl) (hp_n (n := 179) rfl ?_)
                    refine lv_if_eq (tgt := 189) hx hb dX11_clash_179 (by decide) (fun c_35 => ?_) (fun c_35 => hp_n (n := 182) rfl ?_)
                    rotate_left
                    · exact absurd c_35 (by decide)
                    refine lv_aload_n hx hb dX11_clash_189 rfl (lv_at hl 4 rfl) (hp_n (n := 190) rfl ?_)
                    have t_36 : b_22 = hp_R αh_23 603 a0 := by rw [cw_R ph_23 a0 (by decide)]; exact eb_22
                    have t_37 : b_22 = hp_R αh_29 603 a0 := by rw [cw_R ph_29 a0 (by decide)]; exact t_36
                    refine q_gets (κ := 12) (k := 3) (φ := 603) (pc' := 193) C Bh_31 (cw_k Bh_31.2.2 k0) fl_X11_26 rfl rfl rfl t_37 dX11_clash_190 rfl ?_
                    refine lv_astore (lv' := [(10, .ref b_22), (9, .int 0), (8, .int rh_31), (7, .int rh_13), (6, .ref bh_8), (0, .ref a0), (1, .int a1), (2, .int a2), (3, .int a3), (4, .int a4), (5, .int a5)]) hx hb dX11_clash_193 hl (by decide) rfl (fun ls hl => hp_n (n := 195) rfl ?_)
                    refine lv_aload_n hx hb dX11_clash_195 rfl (lv_at hl 5 rfl) (hp_n (n := 196) rfl ?_)
                    have t_38 : b_17 = hp_R αh_29 612 a0 := by rw [cw_R ph_29 a0 (by decide)]; exact t_27
                    refine q_gets (κ := 12) (k := 12) (φ := 612) (pc' := 199) C Bh_31 (cw_k Bh_31.2.2 k0) fl_X11_62 rfl rfl rfl t_38 dX11_clash_196 rfl ?_
                    refine lv_aload_n hx hb dX11_clash_199 rfl (lv_at hl 5 rfl) (hp_n (n := 200) rfl ?_)
                    have t_39 : b_7 = hp_R αh_29 601 a0 := by rw [cw_R ph_29 a0 (by decide)]; exact t_26
                    refine q_gets (κ := 12) (k := 1) (φ := 601) (pc' := 203) C Bh_31 (cw_k Bh_31.2.2 k0) fl_X11_16 rfl rfl rfl t_39 dX11_clash_200 rfl ?_
                    have t_40 : x_21 = hp_I αh_23 550 b_7 := by rw [cw_I ph_23 b_7 (by decide)]; exact ex_21
                    have t_41 : x_21 = hp_I αh_29 550 b_7 := by rw [cw_I ph_29 b_7 (by decide)]; exact t_40
                    refine q_getj (κ := 11) (k := 0) (φ := 550) (pc' := 206) C Bh_31 (cw_k Bh_31.2.2 kb_7) fl_X11_122 rfl rfl rfl t_41 dX11_clash_203 rfl ?_
                    refine lv_aload hx hb dX11_clash_206 (lv_at hl 0 rfl) (hp_n (n := 208) rfl ?_)
                    refine lv_iload hx hb dX11_clash_208 (lv_at hl 1 rfl) (hp_n (n := 210) rfl ?_)
                    refine lv_if_eq (tgt := 222) hx hb dX11_clash_210 (by decide) (fun c_42 => ?_) (fun c_42 => hp_n (n := 213) rfl ?_)
                    rotate_left
                    · exact absurd c_42 (by decide)
                    refine lv_iload hx hb dX11_clash_222 (lv_at hl 9 rfl) (hp_n (n := 224) rfl ?_)
                    refine lv_iload hx hb dX11_clash_224 (lv_at hl 2 rfl) (hp_n (n := 226) rfl ?_)
                    refine q_ci (pc' := 229) Bh_31 (hp_runV (As := [.int x_21, .ref b_22, .int a4, .int rh_31]) (rest := []) C Bh_31 (t_X8_folded Γ l αh_29 Bh_31.2.2.1 b_17 (cw_k Bh_31.2.2 kb_17) x_21 b_22 (cw_k Bh_31.2.2 kb_22) a4 rh_31) lb_X8_folded lv_X8_folded lk_X11_382 (cw_k Bh_31.2.2 kb_17) rfl (by decide) rfl hl.1 rfl (Nat.le_of_ble_eq_true rfl) dX11_clash_226 ⟨Nat.le_refl _, Nat.le_refl _⟩) (fun _ _ h => by rw [h]; exact Bh_31.2.2) rfl (fun rh_43 αh_43 Hh_43 Lh_43 ph_43 Bh_43 => ?_)
                    rw [ph_43] at Bh_43
                    refine lv_istore (lv' := [(11, .int rh_43), (10, .ref b_22), (9, .int 0), (8, .int rh_31), (7, .int rh_13), (6, .ref bh_8), (0, .ref a0), (1, .int a1), (2, .int a2), (3, .int a3), (4, .int a4), (5, .int a5)]) hx hb dX11_clash_229 hl (by decide) rfl (fun ls hl => hp_n (n := 231) rfl ?_)
                    refine lv_iload hx hb dX11_clash_231 (lv_at hl 11 rfl) (hp_n (n := 233) rfl ?_)
                    refine lv_iconst (v := 1) hx hb dX11_clash_233 (by decide) (hp_n (n := 234) rfl ?_)
                    have J243 : ∀ (Hh_44 : Heap) (Lh_44 : List Loc) (Bh_44 : hp_B Γ (cw w_X11_clash) s α αh_29 Hh_44 Lh_44) (ls : Array Slot) (hl : lv_has ls 13 [(0, .ref a0), (8, .int rh_31), (10, .ref b_22), (11, .int rh_43)]), W p l e (hp_rm 4 0 0) s m ([.ref a0, .int a1, .int a2, .int a3, .int a4, .int a5] : List Value).toArray below meth c Hh_44 Lh_44 0 0 (MQ below (hp_Qi Γ (fun r β => cw w_X11_clash α β)) ([.ref a0, .int a1, .int a2, .int a3, .int a4, .int a5] : List Value).toArray s 0 0 (hp_A Γ)) (F0 m 243 ls []) := by
                      intro Hh_44 Lh_44 Bh_44 ls hl
                      refine lv_iconst (v := 1) hx hb dX11_clash_243 (by decide) (hp_n (n := 244) rfl ?_)
                      refine lv_goto (tgt := 248) hx hb dX11_clash_244 (by decide) ?_
                      refine lv_istore (lv' := [(12, .int 1), (0, .ref a0), (8, .int rh_31), (10, .ref b_22), (11, .int rh_43)]) hx hb dX11_clash_248 hl (by decide) rfl (fun ls hl => hp_n (n := 250) rfl ?_)
                      refine lv_aload_n hx hb dX11_clash_250 rfl (lv_at hl 1 rfl) (hp_n (n := 251) rfl ?_)
                      refine lv_iload hx hb dX11_clash_251 (lv_at hl 0 rfl) (hp_n (n := 253) rfl ?_)
                      refine lv_aload_n hx hb dX11_clash_253 rfl (lv_at hl 1 rfl) (hp_n (n := 254) rfl ?_)
                      refine q_gets (κ := 12) (k := 12) (φ := 612) (pc' := 257) C Bh_44 (cw_k Bh_44.2.2 k0) fl_X11_62 rfl rfl rfl t_38 dX11_clash_254 rfl ?_
                      refine lv_iload hx hb dX11_clash_257 (lv_at hl 2 rfl) (hp_n (n := 259) rfl ?_)
                      refine q_ci (pc' := 262) Bh_44 (hp_runV (As := [.int rh_31]) (rest := [.int 1, .ref a0]) C Bh_44 (t_X8_isAhead Γ l αh_29 Bh_44.2.2.1 b_17 (cw_k Bh_44.2.2 kb_17) rh_31) lb_X8_isAhead lv_X8_isAhead lk_X11_385 (cw_k Bh_44.2.2 kb_17) rfl (by decide) rfl hl.1 rfl (Nat.le_of_ble_eq_true rfl) dX11_clash_259 ⟨Nat.le_refl _, Nat.le_refl _⟩) (fun _ _ h => by rw [h.1]; exact Bh_44.2.2) rfl (fun rh_45 αh_45 Hh_45 Lh_45 ph_45 Bh_45 => ?_)
                      rw [ph_45.1] at Bh_45
                      have zh_45 := ph_45.2
                      refine lv_icmp_ne (tgt := 275) hx hb dX11_clash_262 (by decide) (fun c_46 => ?_) (fun c_46 => hp_n (n := 265) rfl ?_)
                      ·
                        have jc_46 := il_ne c_46
                        refine lv_iload hx hb dX11_clash_275 (lv_at hl 4 rfl) (hp_n (n := 277) rfl ?_)
                        refine q_ci (pc' := 280) Bh_45 (hp_runV (As := [.int rh_43]) (rest := []) C Bh_45 (t_X11_answer Γ l αh_29 Bh_45.2.2.1 a0 (cw_k Bh_45.2.2 k0) rh_43) lb_X11_answer lv_X11_answer lk_X11_115 (cw_k Bh_45.2.2 k0) rfl (by decide) rfl hl.1 rfl (Nat.le_of_ble_eq_true rfl) dX11_clash_277 ⟨Nat.le_refl _, Nat.le_refl _⟩) (fun _ _ h => cw_tr Bh_45.2.2 h (by decide)) rfl (fun rh_47 αh_47 Hh_47 Lh_47 ph_47 Bh_47 => ?_)
                        exact q_iret C Bh_47 hr hlk Bh_47.2.2 dX11_clash_280
                      ·
                        have jc_46 := il_eq c_46
                        refine lv_aload hx hb dX11_clash_265 (lv_at hl 3 rfl) (hp_n (n := 267) rfl ?_)
                        refine lv_iload hx hb dX11_clash_267 (lv_at hl 2 rfl) (hp_n (n := 269) rfl ?_)
                        refine q_ci (pc' := 272) Bh_45 (hp_runV (As := [.int rh_31]) (rest := [.ref a0]) C Bh_45 (t_X5_at Γ l αh_29 Bh_45.2.2.1 b_22 (cw_k Bh_45.2.2 kb_22) rh_31) lb_X5_at lv_X5_at lk_X11_135 (cw_k Bh_45.2.2 kb_22) rfl (by decide) rfl hl.1 rfl (Nat.le_of_ble_eq_true rfl) dX11_clash_269 ⟨Nat.le_refl _, Nat.le_refl _⟩) (fun _ _ h => by rw [h]; exact Bh_45.2.2) rfl (fun rh_48 αh_48 Hh_48 Lh_48 ph_48 Bh_48 => ?_)
                        rw [ph_48] at Bh_48
                        refine lv_goto (tgt := 277) hx hb dX11_clash_272 (by decide) ?_
                        refine q_ci (pc' := 280) Bh_48 (hp_runV (As := [.int rh_48]) (rest := []) C Bh_48 (t_X11_answer Γ l αh_29 Bh_48.2.2.1 a0 (cw_k Bh_48.2.2 k0) rh_48) lb_X11_answer lv_X11_answer lk_X11_115 (cw_k Bh_48.2.2 k0) rfl (by decide) rfl hl.1 rfl (Nat.le_of_ble_eq_true rfl) dX11_clash_277 ⟨Nat.le_refl _, Nat.le_refl _⟩) (fun _ _ h => cw_tr Bh_48.2.2 h (by decide)) rfl (fun rh_49 αh_49 Hh_49 Lh_49 ph_49 Bh_49 => ?_)
                        exact q_iret C Bh_49 hr hlk Bh_49.2.2 dX11_clash_280
                    refine lv_icmp_eq (tgt := 243) hx hb dX11_clash_234 (by decide) (fun c_50 => ?_) (fun c_50 => hp_n (n := 237) rfl ?_)
                    ·
                      have jc_50 := il_eq c_50
                      exact J243 Hh_43 Lh_43 Bh_43 ls (lv_sub hl [6, 3, 1, 0] rfl)
                    ·
                      have jc_50 := il_ne c_50
                      refine lv_iload hx hb dX11_clash_237 (lv_at hl 11 rfl) (hp_n (n := 239) rfl ?_)
                      refine lv_iconst (v := 3) hx hb dX11_clash_239 (by decide) (hp_n (n := 240) rfl ?_)
                      refine lv_icmp_ne (tgt := 247) hx hb dX11_clash_240 (by decide) (fun c_51 => ?_) (fun c_51 => hp_n (n := 243) rfl ?_)
                      ·
                        have jc_51 := il_ne c_51
                        refine lv_iconst (v := 0) hx hb dX11_clash_247 (by decide) (hp_n (n := 248) rfl ?_)
                        refine lv_istore (lv' := [(12, .int 0), (11, .int rh_43), (10, .ref b_22), (9, .int 0), (8, .int rh_31), (7, .int rh_13), (6, .ref bh_8), (0, .ref a0), (1, .int a1), (2, .int a2), (3, .int a3), (4, .int a4), (5, .int a5)]) hx hb dX11_clash_248 hl (by decide) rfl (fun ls hl => hp_n (n := 250) rfl ?_)
                        refine lv_aload_n hx hb dX11_clash_250 rfl (lv_at hl 7 rfl) (hp_n (n := 251) rfl ?_)
                        refine lv_iload hx hb dX11_clash_251 (lv_at hl 0 rfl) (hp_n (n := 253) rfl ?_)
                        refine lv_aload_n hx hb dX11_clash_253 rfl (lv_at hl 7 rfl) (hp_n (n := 254) rfl ?_)
                        refine q_gets (κ := 12) (k := 12) (φ := 612) (pc' := 257) C Bh_43 (cw_k Bh_43.2.2 k0) fl_X11_62 rfl rfl rfl t_38 dX11_clash_254 rfl ?_
                        refine lv_iload hx hb dX11_clash_257 (lv_at hl 4 rfl) (hp_n (n := 259) rfl ?_)
                        refine q_ci (pc' := 262) Bh_43 (hp_runV (As := [.int rh_31]) (rest := [.int 0, .ref a0]) C Bh_43 (t_X8_isAhead Γ l αh_29 Bh_43.2.2.1 b_17 (cw_k Bh_43.2.2 kb_17) rh_31) lb_X8_isAhead lv_X8_isAhead lk_X11_385 (cw_k Bh_43.2.2 kb_17) rfl (by decide) rfl hl.1 rfl (Nat.le_of_ble_eq_true rfl) dX11_clash_259 ⟨Nat.le_refl _, Nat.le_refl _⟩) (fun _ _ h => by rw [h.1]; exact Bh_43.2.2) rfl (fun rh_52 αh_52 Hh_52 Lh_52 ph_52 Bh_52 => ?_)
                        rw [ph_52.1] at Bh_52
                        have zh_52 := ph_52.2
                        refine lv_icmp_ne (tgt := 275) hx hb dX11_clash_262 (by decide) (fun c_53 => ?_) (fun c_53 => hp_n (n := 265) rfl ?_)
                        ·
                          have jc_53 := il_ne c_53
                          refine lv_iload hx hb dX11_clash_275 (lv_at hl 1 rfl) (hp_n (n := 277) rfl ?_)
                          refine q_ci (pc' := 280) Bh_52 (hp_runV (As := [.int rh_43]) (rest := []) C Bh_52 (t_X11_answer Γ l αh_29 Bh_52.2.2.1 a0 (cw_k Bh_52.2.2 k0) rh_43) lb_X11_answer lv_X11_answer lk_X11_115 (cw_k Bh_52.2.2 k0) rfl (by decide) rfl hl.1 rfl (Nat.le_of_ble_eq_true rfl) dX11_clash_277 ⟨Nat.le_refl _, Nat.le_refl _⟩) (fun _ _ h => cw_tr Bh_52.2.2 h (by decide)) rfl (fun rh_54 αh_54 Hh_54 Lh_54 ph_54 Bh_54 => ?_)
                          exact q_iret C Bh_54 hr hlk Bh_54.2.2 dX11_clash_280
                        ·
                          have jc_53 := il_eq c_53
                          refine lv_aload hx hb dX11_clash_265 (lv_at hl 2 rfl) (hp_n (n := 267) rfl ?_)
                          refine lv_iload hx hb dX11_clash_267 (lv_at hl 4 rfl) (hp_n (n := 269) rfl ?_)
                          refine q_ci (pc' := 272) Bh_52 (hp_runV (As := [.int rh_31]) (rest := [.ref a0]) C Bh_52 (t_X5_at Γ l αh_29 Bh_52.2.2.1 b_22 (cw_k Bh_52.2.2 kb_22) rh_31) lb_X5_at lv_X5_at lk_X11_135 (cw_k Bh_52.2.2 kb_22) rfl (by decide) rfl hl.1 rfl (Nat.le_of_ble_eq_true rfl) dX11_clash_269 ⟨Nat.le_refl _, Nat.le_refl _⟩) (fun _ _ h => by rw [h]; exact Bh_52.2.2) rfl (fun rh_55 αh_55 Hh_55 Lh_55 ph_55 Bh_55 => ?_)
                          rw [ph_55] at Bh_55
                          refine lv_goto (tgt := 277) hx hb dX11_clash_272 (by decide) ?_
                          refine q_ci (pc' := 280) Bh_55 (hp_runV (As := [.int rh_55]) (rest := []) C Bh_55 (t_X11_answer Γ l αh_29 Bh_55.2.2.1 a0 (cw_k Bh_55.2.2 k0) rh_55) lb_X11_answer lv_X11_answer lk_X11_115 (cw_k Bh_55.2.2 k0) rfl (by decide) rfl hl.1 rfl (Nat.le_of_ble_eq_true rfl) dX11_clash_277 ⟨Nat.le_refl _, Nat.le_refl _⟩) (fun _ _ h => cw_tr Bh_55.2.2 h (by decide)) rfl (fun rh_56 αh_56 Hh_56 Lh_56 ph_56 Bh_56 => ?_)
                          exact q_iret C Bh_56 hr hlk Bh_56.2.2 dX11_clash_280
                      ·
                        have jc_51 := il_eq c_51
                        exact J243 Hh_43 Lh_43 Bh_43 ls (lv_sub hl [6, 3, 1, 0] rfl)
                  ·
                    have jc_34 := il_nlt c_34
                    refine lv_iconst (v := 1) hx hb dX11_clash_170 (by decide) (hp_n (n := 171) rfl ?_)
                    refine lv_goto (tgt := 175) hx hb dX11_clash_171 (by decide) ?_
                    refine lv_istore (lv' := [(9, .int 1), (8, .int rh_31), (7, .int rh_13), (6, .ref bh_8), (0, .ref a0), (1, .int a1), (2, .int a2), (3, .int a3), (4, .int a4), (5, .int a5)]) hx hb dX11_clash_175 hl (by decide) rfl (fun ls hl => hp_n (n := 177) rfl ?_)
                    refine lv_iload hx hb dX11_clash_177 (lv_at hl 0 rfl) (hp_n (n := 179) rfl ?_)
                    refine lv_if_eq (tgt := 189) hx hb dX11_clash_179 (by decide) (fun c_57 => ?_) (fun c_57 => hp_n (n := 182) rfl ?_)
                    · exact absurd c_57 (by decide)
                    refine lv_aload_n hx hb dX11_clash_182 rfl (lv_at hl 4 rfl) (hp_n (n := 183) rfl ?_)
                    have t_58 : b_28 = hp_R αh_29 614 a0 := by rw [cw_R ph_29 a0 (by decide)]; exact eb_28
                    refine q_gets (κ := 12) (k := 14) (φ := 614) (pc' := 186) C Bh_31 (cw_k Bh_31.2.2 k0) fl_X11_69 rfl rfl rfl t_58 dX11_clash_183 rfl ?_
                    refine lv_goto (tgt := 193) hx hb dX11_clash_186 (by decide) ?_
                    refine lv_astore (lv' := [(10, .ref b_28), (9, .int 1), (8, .int rh_31), (7, .int rh_13), (6, .ref bh_8), (0, .ref a0), (1, .int a1), (2, .int a2), (3, .int a3), (4, .int a4), (5, .int a5)]) hx hb dX11_clash_193 hl (by decide) rfl (fun ls hl => hp_n (n := 195) rfl ?_)
                    refine lv_aload_n hx hb dX11_clash_195 rfl (lv_at hl 5 rfl) (hp_n (n := 196) rfl ?_)
                    have t_59 : b_17 = hp_R αh_29 612 a0 := by rw [cw_R ph_29 a0 (by decide)]; exact t_27
                    refine q_gets (κ := 12) (k := 12) (φ := 612) (pc' := 199) C Bh_31 (cw_k Bh_31.2.2 k0) fl_X11_62 rfl rfl rfl t_59 dX11_clash_196 rfl ?_
                    refine lv_aload_n hx hb dX11_clash_199 rfl (lv_at hl 5 rfl) (hp_n (n := 200) rfl ?_)
                    have t_60 : b_7 = hp_R αh_29 601 a0 := by rw [cw_R ph_29 a0 (by decide)]; exact t_26
                    refine q_gets (κ := 12) (k := 1) (φ := 601) (pc' := 203) C Bh_31 (cw_k Bh_31.2.2 k0) fl_X11_16 rfl rfl rfl t_60 dX11_clash_200 rfl ?_
                    have t_61 : x_21 = hp_I αh_23 550 b_7 := by rw [cw_I ph_23 b_7 (by decide)]; exact ex_21
                    have t_62 : x_21 = hp_I αh_29 550 b_7 := by rw [cw_I ph_29 b_7 (by decide)]; exact t_61
                    refine q_getj (κ := 11) (k := 0) (φ := 550) (pc' := 206) C Bh_31 (cw_k Bh_31.2.2 kb_7) fl_X11_122 rfl rfl rfl t_62 dX11_clash_203 rfl ?_
                    refine lv_aload hx hb dX11_clash_206 (lv_at hl 0 rfl) (hp_n (n := 208) rfl ?_)
                    refine lv_iload hx hb dX11_clash_208 (lv_at hl 1 rfl) (hp_n (n := 210) rfl ?_)
                    refine lv_if_eq (tgt := 222) hx hb dX11_clash_210 (by decide) (fun c_63 => ?_) (fun c_63 => hp_n (n := 213) rfl ?_)
                    · exact absurd c_63 (by decide)
                    refine lv_aload hx hb dX11_clash_213 (lv_at hl 4 rfl) (hp_n (n := 215) rfl ?_)
                    refine lv_iload_n hx hb dX11_clash_215 rfl (lv_at hl 7 rfl) (hp_n (n := 216) rfl ?_)
                    refine q_ci (pc' := 219) Bh_31 (hp_runV (As := [.int a2]) (rest := [.ref b_28, .int x_21, .ref b_17]) C Bh_31 (t_X2_markAt Γ l αh_29 Bh_31.2.2.1 bh_8 (cw_k Bh_31.2.2 kbh_8) a2) lb_X2_markAt lv_X2_markAt lk_X11_174 (cw_k Bh_31.2.2 kbh_8) rfl (by decide) rfl hl.1 rfl (Nat.le_of_ble_eq_true rfl) dX11_clash_216 ⟨Nat.le_refl _, Nat.le_refl _⟩) (fun _ _ h => by rw [h]; exact Bh_31.2.2) rfl (fun rh_64 αh_64 Hh_64 Lh_64 ph_64 Bh_64 => ?_)
                    rw [ph_64] at Bh_64
                    refine lv_goto (tgt := 224) hx hb dX11_clash_219 (by decide) ?_
                    refine lv_iload hx hb dX11_clash_224 (lv_at hl 2 rfl) (hp_n (n := 226) rfl ?_)
                    refine q_ci (pc' := 229) Bh_64 (hp_runV (As := [.int x_21, .ref b_28, .int rh_64, .int rh_31]) (rest := []) C Bh_64 (t_X8_folded Γ l αh_29 Bh_64.2.2.1 b_17 (cw_k Bh_64.2.2 kb_17) x_21 b_28 (cw_k Bh_64.2.2 kb_28) rh_64 rh_31) lb_X8_folded lv_X8_folded lk_X11_382 (cw_k Bh_64.2.2 kb_17) rfl (by decide) rfl hl.1 rfl (Nat.le_of_ble_eq_true rfl) dX11_clash_226 ⟨Nat.le_refl _, Nat.le_refl _⟩) (fun _ _ h => by rw [h]; exact Bh_64.2.2) rfl (fun rh_65 αh_65 Hh_65 Lh_65 ph_65 Bh_65 => ?_)
                    rw [ph_65] at Bh_65
                    refine lv_istore (lv' := [(11, .int rh_65), (10, .ref b_28), (9, .int 1), (8, .int rh_31), (7, .int rh_13), (6, .ref bh_8), (0, .ref a0), (1, .int a1), (2, .int a2), (3, .int a3), (4, .int a4), (5, .int a5)]) hx hb dX11_clash_229 hl (by decide) rfl (fun ls hl => hp_n (n := 231) rfl ?_)
                    refine lv_iload hx hb dX11_clash_231 (lv_at hl 11 rfl) (hp_n (n := 233) rfl ?_)
                    refine lv_iconst (v := 1) hx hb dX11_clash_233 (by decide) (hp_n (n := 234) rfl ?_)
                    have J243 : ∀ (Hh_66 : Heap) (Lh_66 : List Loc) (Bh_66 : hp_B Γ (cw w_X11_clash) s α αh_29 Hh_66 Lh_66) (ls : Array Slot) (hl : lv_has ls 13 [(0, .ref a0), (8, .int rh_31), (10, .ref b_28), (11, .int rh_65)]), W p l e (hp_rm 4 0 0) s m ([.ref a0, .int a1, .int a2, .int a3, .int a4, .int a5] : List Value).toArray below meth c Hh_66 Lh_66 0 0 (MQ below (hp_Qi Γ (fun r β => cw w_X11_clash α β)) ([.ref a0, .int a1, .int a2, .int a3, .int a4, .int a5] : List Value).toArray s 0 0 (hp_A Γ)) (F0 m 243 ls []) := by
                      intro Hh_66 Lh_66 Bh_66 ls hl
                      refine lv_iconst (v := 1) hx hb dX11_clash_243 (by decide) (hp_n (n := 244) rfl ?_)
                      refine lv_goto (tgt := 248) hx hb dX11_clash_244 (by decide) ?_
                      refine lv_istore (lv' := [(12, .int 1), (0, .ref a0), (8, .int rh_31), (10, .ref b_28), (11, .int rh_65)]) hx hb dX11_clash_248 hl (by decide) rfl (fun ls hl => hp_n (n := 250) rfl ?_)
                      refine lv_aload_n hx hb dX11_clash_250 rfl (lv_at hl 1 rfl) (hp_n (n := 251) rfl ?_)
                      refine lv_iload hx hb dX11_clash_251 (lv_at hl 0 rfl) (hp_n (n := 253) rfl ?_)
                      refine lv_aload_n hx hb dX11_clash_253 rfl (lv_at hl 1 rfl) (hp_n (n := 254) rfl ?_)
                      refine q_gets (κ := 12) (k := 12) (φ := 612) (pc' := 257) C Bh_66 (cw_k Bh_66.2.2 k0) fl_X11_62 rfl rfl rfl t_59 dX11_clash_254 rfl ?_
                      refine lv_iload hx hb dX11_clash_257 (lv_at hl 2 rfl) (hp_n (n := 259) rfl ?_)
                      refine q_ci (pc' := 262) Bh_66 (hp_runV (As := [.int rh_31]) (rest := [.int 1, .ref a0]) C Bh_66 (t_X8_isAhead Γ l αh_29 Bh_66.2.2.1 b_17 (cw_k Bh_66.2.2 kb_17) rh_31) lb_X8_isAhead lv_X8_isAhead lk_X11_385 (cw_k Bh_66.2.2 kb_17) rfl (by decide) rfl hl.1 rfl (Nat.le_of_ble_eq_true rfl) dX11_clash_259 ⟨Nat.le_refl _, Nat.le_refl _⟩) (fun _ _ h => by rw [h.1]; exact Bh_66.2.2) rfl (fun rh_67 αh_67 Hh_67 Lh_67 ph_67 Bh_67 => ?_)
                      rw [ph_67.1] at Bh_67
                      have zh_67 := ph_67.2
                      refine lv_icmp_ne (tgt := 275) hx hb dX11_clash_262 (by decide) (fun c_68 => ?_) (fun c_68 => hp_n (n := 265) rfl ?_)
                      ·
                        have jc_68 := il_ne c_68
                        refine lv_iload hx hb dX11_clash_275 (lv_at hl 4 rfl) (hp_n (n := 277) rfl ?_)
                        refine q_ci (pc' := 280) Bh_67 (hp_runV (As := [.int rh_65]) (rest := []) C Bh_67 (t_X11_answer Γ l αh_29 Bh_67.2.2.1 a0 (cw_k Bh_67.2.2 k0) rh_65) lb_X11_answer lv_X11_answer lk_X11_115 (cw_k Bh_67.2.2 k0) rfl (by decide) rfl hl.1 rfl (Nat.le_of_ble_eq_true rfl) dX11_clash_277 ⟨Nat.le_refl _, Nat.le_refl _⟩) (fun _ _ h => cw_tr Bh_67.2.2 h (by decide)) rfl (fun rh_69 αh_69 Hh_69 Lh_69 ph_69 Bh_69 => ?_)
                        exact q_iret C Bh_69 hr hlk Bh_69.2.2 dX11_clash_280
                      ·
                        have jc_68 := il_eq c_68
                        refine lv_aload hx hb dX11_clash_265 (lv_at hl 3 rfl) (hp_n (n := 267) rfl ?_)
                        refine lv_iload hx hb dX11_clash_267 (lv_at hl 2 rfl) (hp_n (n := 269) rfl ?_)
                        refine q_ci (pc' := 272) Bh_67 (hp_runV (As := [.int rh_31]) (rest := [.ref a0]) C Bh_67 (t_X5_at Γ l αh_29 Bh_67.2.2.1 b_28 (cw_k Bh_67.2.2 kb_28) rh_31) lb_X5_at lv_X5_at lk_X11_135 (cw_k Bh_67.2.2 kb_28) rfl (by decide) rfl hl.1 rfl (Nat.le_of_ble_eq_true rfl) dX11_clash_269 ⟨Nat.le_refl _, Nat.le_refl _⟩) (fun _ _ h => by rw [h]; exact Bh_67.2.2) rfl (fun rh_70 αh_70 Hh_70 Lh_70 ph_70 Bh_70 => ?_)
                        rw [ph_70] at Bh_70
                        refine lv_goto (tgt := 277) hx hb dX11_clash_272 (by decide) ?_
                        refine q_ci (pc' := 280) Bh_70 (hp_runV (As := [.int rh_70]) (rest := []) C Bh_70 (t_X11_answer Γ l αh_29 Bh_70.2.2.1 a0 (cw_k Bh_70.2.2 k0) rh_70) lb_X11_answer lv_X11_answer lk_X11_115 (cw_k Bh_70.2.2 k0) rfl (by decide) rfl hl.1 rfl (Nat.le_of_ble_eq_true rfl) dX11_clash_277 ⟨Nat.le_refl _, Nat.le_refl _⟩) (fun _ _ h => cw_tr Bh_70.2.2 h (by decide)) rfl (fun rh_71 αh_71 Hh_71 Lh_71 ph_71 Bh_71 => ?_)
                        exact q_iret C Bh_71 hr hlk Bh_71.2.2 dX11_clash_280
                    refine lv_icmp_eq (tgt := 243) hx hb dX11_clash_234 (by decide) (fun c_72 => ?_) (fun c_72 => hp_n (n := 237) rfl ?_)
                    ·
                      have jc_72 := il_eq c_72
                      exact J243 Hh_65 Lh_65 Bh_65 ls (lv_sub hl [6, 3, 1, 0] rfl)
                    ·
                      have jc_72 := il_ne c_72
                      refine lv_iload hx hb dX11_clash_237 (lv_at hl 11 rfl) (hp_n (n := 239) rfl ?_)
                      refine lv_iconst (v := 3) hx hb dX11_clash_239 (by decide) (hp_n (n := 240) rfl ?_)
                      refine lv_icmp_ne (tgt := 247) hx hb dX11_clash_240 (by decide) (fun c_73 => ?_) (fun c_73 => hp_n (n := 243) rfl ?_)
                      ·
                        have jc_73 := il_ne c_73
                        refine lv_iconst (v := 0) hx hb dX11_clash_247 (by decide) (hp_n (n := 248) rfl ?_)
                        refine lv_istore (lv' := [(12, .int 0), (11, .int rh_65), (10, .ref b_28), (9, .int 1), (8, .int rh_31), (7, .int rh_13), (6, .ref bh_8), (0, .ref a0), (1, .int a1), (2, .int a2), (3, .int a3), (4, .int a4), (5, .int a5)]) hx hb dX11_clash_248 hl (by decide) rfl (fun ls hl => hp_n (n := 250) rfl ?_)
                        refine lv_aload_n hx hb dX11_clash_250 rfl (lv_at hl 7 rfl) (hp_n (n := 251) rfl ?_)
                        refine lv_iload hx hb dX11_clash_251 (lv_at hl 0 rfl) (hp_n (n := 253) rfl ?_)
                        refine lv_aload_n hx hb dX11_clash_253 rfl (lv_at hl 7 rfl) (hp_n (n := 254) rfl ?_)
                        refine q_gets (κ := 12) (k := 12) (φ := 612) (pc' := 257) C Bh_65 (cw_k Bh_65.2.2 k0) fl_X11_62 rfl rfl rfl t_59 dX11_clash_254 rfl ?_
                        refine lv_iload hx hb dX11_clash_257 (lv_at hl 4 rfl) (hp_n (n := 259) rfl ?_)
                        refine q_ci (pc' := 262) Bh_65 (hp_runV (As := [.int rh_31]) (rest := [.int 0, .ref a0]) C Bh_65 (t_X8_isAhead Γ l αh_29 Bh_65.2.2.1 b_17 (cw_k Bh_65.2.2 kb_17) rh_31) lb_X8_isAhead lv_X8_isAhead lk_X11_385 (cw_k Bh_65.2.2 kb_17) rfl (by decide) rfl hl.1 rfl (Nat.le_of_ble_eq_true rfl) dX11_clash_259 ⟨Nat.le_refl _, Nat.le_refl _⟩) (fun _ _ h => by rw [h.1]; exact Bh_65.2.2) rfl (fun rh_74 αh_74 Hh_74 Lh_74 ph_74 Bh_74 => ?_)
                        rw [ph_74.1] at Bh_74
                        have zh_74 := ph_74.2
                        refine lv_icmp_ne (tgt := 275) hx hb dX11_clash_262 (by decide) (fun c_75 => ?_) (fun c_75 => hp_n (n := 265) rfl ?_)
                        ·
                          have jc_75 := il_ne c_75
                          refine lv_iload hx hb dX11_clash_275 (lv_at hl 1 rfl) (hp_n (n := 277) rfl ?_)
                          refine q_ci (pc' := 280) Bh_74 (hp_runV (As := [.int rh_65]) (rest := []) C Bh_74 (t_X11_answer Γ l αh_29 Bh_74.2.2.1 a0 (cw_k Bh_74.2.2 k0) rh_65) lb_X11_answer lv_X11_answer lk_X11_115 (cw_k Bh_74.2.2 k0) rfl (by decide) rfl hl.1 rfl (Nat.le_of_ble_eq_true rfl) dX11_clash_277 ⟨Nat.le_refl _, Nat.le_refl _⟩) (fun _ _ h => cw_tr Bh_74.2.2 h (by decide)) rfl (fun rh_76 αh_76 Hh_76 Lh_76 ph_76 Bh_76 => ?_)
                          exact q_iret C Bh_76 hr hlk Bh_76.2.2 dX11_clash_280
                        ·
                          have jc_75 := il_eq c_75
                          refine lv_aload hx hb dX11_clash_265 (lv_at hl 2 rfl) (hp_n (n := 267) rfl ?_)
                          refine lv_iload hx hb dX11_clash_267 (lv_at hl 4 rfl) (hp_n (n := 269) rfl ?_)
                          refine q_ci (pc' := 272) Bh_74 (hp_runV (As := [.int rh_31]) (rest := [.ref a0]) C Bh_74 (t_X5_at Γ l αh_29 Bh_74.2.2.1 b_28 (cw_k Bh_74.2.2 kb_28) rh_31) lb_X5_at lv_X5_at lk_X11_135 (cw_k Bh_74.2.2 kb_28) rfl (by decide) rfl hl.1 rfl (Nat.le_of_ble_eq_true rfl) dX11_clash_269 ⟨Nat.le_refl _, Nat.le_refl _⟩) (fun _ _ h => by rw [h]; exact Bh_74.2.2) rfl (fun rh_77 αh_77 Hh_77 Lh_77 ph_77 Bh_77 => ?_)
                          rw [ph_77] at Bh_77
                          refine lv_goto (tgt := 277) hx hb dX11_clash_272 (by decide) ?_
                          refine q_ci (pc' := 280) Bh_77 (hp_runV (As := [.int rh_77]) (rest := []) C Bh_77 (t_X11_answer Γ l αh_29 Bh_77.2.2.1 a0 (cw_k Bh_77.2.2 k0) rh_77) lb_X11_answer lv_X11_answer lk_X11_115 (cw_k Bh_77.2.2 k0) rfl (by decide) rfl hl.1 rfl (Nat.le_of_ble_eq_true rfl) dX11_clash_277 ⟨Nat.le_refl _, Nat.le_refl _⟩) (fun _ _ h => cw_tr Bh_77.2.2 h (by decide)) rfl (fun rh_78 αh_78 Hh_78 Lh_78 ph_78 Bh_78 => ?_)
                          exact q_iret C Bh_78 hr hlk Bh_78.2.2 dX11_clash_280
                      ·
                        have jc_73 := il_eq c_73
                        exact J243 Hh_65 Lh_65 Bh_65 ls (lv_sub hl [6, 3, 1, 0] rfl)
                ·
                  have jc_33 := il_eq c_33
                  refine lv_aload_n hx hb dX11_clash_157 rfl (lv_at hl 3 rfl) (hp_n (n := 158) rfl ?_)
                  refine lv_iload hx hb dX11_clash_158 (lv_at hl 0 rfl) (hp_n (n := 160) rfl ?_)
                  refine q_ci (pc' := 163) Bh_31 (hp_runV (As := [.int rh_31]) (rest := []) C Bh_31 (t_X11_answer Γ l αh_29 Bh_31.2.2.1 a0 (cw_k Bh_31.2.2 k0) rh_31) lb_X11_answer lv_X11_answer lk_X11_115 (cw_k Bh_31.2.2 k0) rfl (by decide) rfl hl.1 rfl (Nat.le_of_ble_eq_true rfl) dX11_clash_160 ⟨Nat.le_refl _, Nat.le_refl _⟩) (fun _ _ h => cw_tr Bh_31.2.2 h (by decide)) rfl (fun rh_79 αh_79 Hh_79 Lh_79 ph_79 Bh_79 => ?_)
                  exact q_iret C Bh_79 hr hlk Bh_79.2.2 dX11_clash_163
              ·
                have jc_32 := il_nle c_32
                refine lv_aload_n hx hb dX11_clash_146 rfl (lv_at hl 3 rfl) (hp_n (n := 147) rfl ?_)
                refine lv_iconst (v := 5) hx hb dX11_clash_147 (by decide) (hp_n (n := 148) rfl ?_)
                refine q_ci (pc' := 151) Bh_31 (hp_runV (As := [.int 5]) (rest := []) C Bh_31 (t_X11_refuse Γ l αh_29 Bh_31.2.2.1 a0 (cw_k Bh_31.2.2 k0) 5) lb_X11_refuse lv_X11_refuse lk_X11_98 (cw_k Bh_31.2.2 k0) rfl (by decide) rfl hl.1 rfl (Nat.le_of_ble_eq_true rfl) dX11_clash_148 ⟨Nat.le_refl _, Nat.le_refl _⟩) (fun _ _ h => cw_tr Bh_31.2.2 h (by decide)) rfl (fun rh_80 αh_80 Hh_80 Lh_80 ph_80 Bh_80 => ?_)
                exact q_iret C Bh_80 hr hlk Bh_80.2.2 dX11_clash_151
            ·
              have jc_25 := il_ne c_25
              refine lv_aload_n hx hb dX11_clash_104 rfl (lv_at hl 2 rfl) (hp_n (n := 105) rfl ?_)
              refine lv_iconst (v := 5) hx hb dX11_clash_105 (by decide) (hp_n (n := 106) rfl ?_)
              refine q_ci (pc' := 109) Bh_24 (hp_runV (As := [.int 5]) (rest := []) C Bh_24 (t_X11_refuse Γ l αh_23 Bh_24.2.2.1 a0 (cw_k Bh_24.2.2 k0) 5) lb_X11_refuse lv_X11_refuse lk_X11_98 (cw_k Bh_24.2.2 k0) rfl (by decide) rfl hl.1 rfl (Nat.le_of_ble_eq_true rfl) dX11_clash_106 ⟨Nat.le_refl _, Nat.le_refl _⟩) (fun _ _ h => cw_tr Bh_24.2.2 h (by decide)) rfl (fun rh_81 αh_81 Hh_81 Lh_81 ph_81 Bh_81 => ?_)
              exact q_iret C Bh_81 hr hlk Bh_81.2.2 dX11_clash_109
      ·
        have jc_6 := il_eq c_6
        exact J20 Hh_5 Lh_5 Bh_5 ls (lv_sub hl [0] rfl)
abbrev w_X11_trace : cw_W := ([453, 454, 600], [], [21, 22, 23], [])
set_option maxRecDepth 100000 in
set_option maxHeartbeats 4000000 in
theorem t_X11_trace (Γ : hp_G) (l : Launch) (α : hp_T) (g : GC α) (a0 : Nat) (k0 : hp_K α a0 = 12) (a1 : Int32) (a2 : Int32) (a3 : Int32) (a4 : Int32) : Met l yX11_trace (hp_ws yX11_trace cX11_trace 5 (some .int)) (hp_rm 4 0 0) (hp_Pc Γ α [.ref a0, .int a1, .int a2, .int a3, .int a4]) (hp_Qi Γ (fun r β => cw w_X11_trace α β)) 0 0 (hp_A Γ) := by
  refine hp_start (by decide) ?_
  intro p e s m below meth c C hr hlk B0 hnm
  have C : hp_C Γ p m c cX11_trace 5 s ([.ref a0, .int a1, .int a2, .int a3, .int a4] : List Value).toArray RX11 := C
  have hx := C.1.1
  have hb := C.1.2.1
  have hown := C.1.2.2.2.1
  have hts := C.1.2.2.2.2
  have B : hp_B Γ (cw w_X11_trace) s α α s.heap [] := ⟨B0.1, B0.2.1, cw_rf g⟩
  have lit0 : (0 : Int32).toInt = 0 := by decide
  have lit1 : (1 : Int32).toInt = 1 := by decide
  have lit5 : (5 : Int32).toInt = 5 := by decide
  have hl := lv_entry ([.ref a0, .int a1, .int a2, .int a3, .int a4]) (n := 5) (Nat.le_of_ble_eq_true rfl)
  show W p l e (hp_rm 4 0 0) s m ([.ref a0, .int a1, .int a2, .int a3, .int a4] : List Value).toArray below meth c s.heap [] 0 0 (MQ below (hp_Qi Γ (fun r β => cw w_X11_trace α β)) ([.ref a0, .int a1, .int a2, .int a3, .int a4] : List Value).toArray s 0 0 (hp_A Γ)) (entryFrame m ([.ref a0, .int a1, .int a2, .int a3, .int a4] : List Value).toArray 5)
  rw [lg_entry_eq]
  generalize (lg_sl ([.ref a0, .int a1, .int a2, .int a3, .int a4]) ++ List.replicate (5 - (lg_sl ([.ref a0, .int a1, .int a2, .int a3, .int a4])).length) Slot.unset).toArray = ls at hl ⊢
  have hl : lv_has ls 5 [(0, .ref a0), (1, .int a1), (2, .int a2), (3, .int a3), (4, .int a4)] := hl
  refine lv_iload_n hx hb dX11_trace_0 rfl (lv_at hl 2 rfl) (hp_n (n := 1) rfl ?_)
  refine lv_iload_n hx hb dX11_trace_1 rfl (lv_at hl 3 rfl) (hp_n (n := 2) rfl ?_)
  refine q_ci (pc' := 5) B (hp_runS (As := [.int a2, .int a3]) (rest := []) C B (t_X11_isThing Γ l α B.2.2.1 a2 a3) lb_X11_isThing ls_X11_isThing lk_X11_301 rfl (by decide) rfl hl.1 rfl (Nat.le_of_ble_eq_true rfl) dX11_trace_2 ⟨Nat.le_refl _, Nat.le_refl _⟩) (fun _ _ h => by rw [h.1]; exact B.2.2) rfl (fun rh_1 αh_1 Hh_1 Lh_1 ph_1 Bh_1 => ?_)
  rw [ph_1.1] at Bh_1
  have zh_1 := ph_1.2
  have J21 : ∀ (Hh_2 : Heap) (Lh_2 : List Loc) (Bh_2 : hp_B Γ (cw w_X11_trace) s α α Hh_2 Lh_2) (ls : Array Slot) (hl : lv_has ls 5 [(0, .ref a0)]), W p l e (hp_rm 4 0 0) s m ([.ref a0, .int a1, .int a2, .int a3, .int a4] : List Value).toArray below meth c Hh_2 Lh_2 0 0 (MQ below (hp_Qi Γ (fun r β => cw w_X11_trace α β)) ([.ref a0, .int a1, .int a2, .int a3, .int a4] : List Value).toArray s 0 0 (hp_A Γ)) (F0 m 21 ls []) := by
    intro Hh_2 Lh_2 Bh_2 ls hl
    refine lv_aload_n hx hb dX11_trace_21 rfl (lv_at hl 0 rfl) (hp_n (n := 22) rfl ?_)
    refine lv_iconst (v := 1) hx hb dX11_trace_22 (by decide) (hp_n (n := 23) rfl ?_)
    refine q_ci (pc' := 26) Bh_2 (hp_runV (As := [.int 1]) (rest := []) C Bh_2 (t_X11_refuse Γ l α Bh_2.2.2.1 a0 (cw_k Bh_2.2.2 k0) 1) lb_X11_refuse lv_X11_refuse lk_X11_98 (cw_k Bh_2.2.2 k0) rfl (by decide) rfl hl.1 rfl (Nat.le_of_ble_eq_true rfl) dX11_trace_23 ⟨Nat.le_refl _, Nat.le_refl _⟩) (fun _ _ h => cw_tr Bh_2.2.2 h (by decide)) rfl (fun rh_3 αh_3 Hh_3 Lh_3 ph_3 Bh_3 => ?_)
    exact q_iret C Bh_3 hr hlk Bh_3.2.2 dX11_trace_26
  refine lv_if_eq (tgt := 21) hx hb dX11_trace_5 (by decide) (fun c_4 => ?_) (fun c_4 => hp_n (n := 8) rfl ?_)
  ·
    have jc_4 := il_eq c_4
    exact J21 Hh_1 Lh_1 Bh_1 ls (lv_sub hl [0] rfl)
  ·
    have jc_4 := il_ne c_4
    refine lv_iload hx hb dX11_trace_8 (lv_at hl 4 rfl) (hp_n (n := 10) rfl ?_)
    refine lv_if_lt (tgt := 21) hx hb dX11_trace_10 (by decide) (fun c_5 => ?_) (fun c_5 => hp_n (n := 13) rfl ?_)
    ·
      have jc_5 := il_lt c_5
      exact J21 Hh_1 Lh_1 Bh_1 ls (lv_sub hl [0] rfl)
    ·
      have jc_5 := il_nlt c_5
      refine lv_aload_n hx hb dX11_trace_13 rfl (lv_at hl 0 rfl) (hp_n (n := 14) rfl ?_)
      refine lv_iload_n hx hb dX11_trace_14 rfl (lv_at hl 1 rfl) (hp_n (n := 15) rfl ?_)
      refine q_ci (pc' := 18) Bh_1 (hp_runV (As := [.int a1]) (rest := []) C Bh_1 (t_X11_isMark Γ l α Bh_1.2.2.1 a0 (cw_k Bh_1.2.2 k0) a1) lb_X11_isMark lv_X11_isMark lk_X11_188 (cw_k Bh_1.2.2 k0) rfl (by decide) rfl hl.1 rfl (Nat.le_of_ble_eq_true rfl) dX11_trace_15 ⟨Nat.le_refl _, Nat.le_refl _⟩) (fun _ _ h => by rw [h.1]; exact Bh_1.2.2) rfl (fun rh_6 αh_6 Hh_6 Lh_6 ph_6 Bh_6 => ?_)
      rw [ph_6.1] at Bh_6
      have zh_6 := ph_6.2
      refine lv_if_ne (tgt := 27) hx hb dX11_trace_18 (by decide) (fun c_7 => ?_) (fun c_7 => hp_n (n := 21) rfl ?_)
      ·
        have jc_7 := il_ne c_7
        refine lv_aload_n hx hb dX11_trace_27 rfl (lv_at hl 0 rfl) (hp_n (n := 28) rfl ?_)
        refine q_getr (κ := 12) (k := 12) (φ := 612) (pc' := 31) C Bh_6 (cw_k Bh_6.2.2 k0) fl_X11_62 rfl rfl rfl (cw_r Bh_6.2.2 k0 rfl rfl (by decide) (by decide)) dX11_trace_28 rfl (fun b_8 eb_8 kb_8 => ?_)
        refine lv_iload_n hx hb dX11_trace_31 rfl (lv_at hl 2 rfl) (hp_n (n := 32) rfl ?_)
        refine lv_iload_n hx hb dX11_trace_32 rfl (lv_at hl 3 rfl) (hp_n (n := 33) rfl ?_)
        refine q_cv (pc' := 36) Bh_6 (hp_runV (As := [.int a2, .int a3]) (rest := []) C Bh_6 (t_X8_toThing Γ l α Bh_6.2.2.1 b_8 (cw_k Bh_6.2.2 kb_8) a2 a3) lb_X8_toThing lv_X8_toThing lk_X11_267 (cw_k Bh_6.2.2 kb_8) rfl (by decide) rfl hl.1 rfl (Nat.le_of_ble_eq_true rfl) dX11_trace_33 ⟨Nat.le_refl _, Nat.le_refl _⟩) (fun _ h => cw_tr Bh_6.2.2 h (by decide)) rfl (fun αh_9 Hh_9 Lh_9 ph_9 Bh_9 => ?_)
        refine lv_iload hx hb dX11_trace_36 (lv_at hl 4 rfl) (hp_n (n := 38) rfl ?_)
        refine lv_aload_n hx hb dX11_trace_38 rfl (lv_at hl 0 rfl) (hp_n (n := 39) rfl ?_)
        have t_10 : b_8 = hp_R αh_9 612 a0 := by rw [cw_R ph_9 a0 (by decide)]; exact eb_8
        refine q_gets (κ := 12) (k := 12) (φ := 612) (pc' := 42) C Bh_9 (cw_k Bh_9.2.2 k0) fl_X11_62 rfl rfl rfl t_10 dX11_trace_39 rfl ?_
        refine q_geti (κ := 9) (k := 3) (φ := 453) (pc' := 45) C Bh_9 (cw_k Bh_9.2.2 kb_8) fl_X11_312 rfl rfl rfl dX11_trace_42 rfl (fun x_11 ex_11 => ?_)
        obtain ⟨gx_11a, gx_11b⟩ : 0 ≤ x_11.toInt ∧ x_11.toInt ≤ 64 := by rw [ex_11]; exact Bh_9.2.2.1.1 453 b_8 rfl
        have J60 : ∀ (Hh_12 : Heap) (Lh_12 : List Loc) (Bh_12 : hp_B Γ (cw w_X11_trace) s α αh_9 Hh_12 Lh_12) (ls : Array Slot) (hl : lv_has ls 5 [(0, .ref a0)]), W p l e (hp_rm 4 0 0) s m ([.ref a0, .int a1, .int a2, .int a3, .int a4] : List Value).toArray below meth c Hh_12 Lh_12 0 0 (MQ below (hp_Qi Γ (fun r β => cw w_X11_trace α β)) ([.ref a0, .int a1, .int a2, .int a3, .int a4] : List Value).toArray s 0 0 (hp_A Γ)) (F0 m 60 ls []) := by
          intro Hh_12 Lh_12 Bh_12 ls hl
          refine lv_aload_n hx hb dX11_trace_60 rfl (lv_at hl 0 rfl) (hp_n (n := 61) rfl ?_)
          refine lv_iconst (v := 5) hx hb dX11_trace_61 (by decide) (hp_n (n := 62) rfl ?_)
          refine q_ci (pc' := 65) Bh_12 (hp_runV (As := [.int 5]) (rest := []) C Bh_12 (t_X11_refuse Γ l αh_9 Bh_12.2.2.1 a0 (cw_k Bh_12.2.2 k0) 5) lb_X11_refuse lv_X11_refuse lk_X11_98 (cw_k Bh_12.2.2 k0) rfl (by decide) rfl hl.1 rfl (Nat.le_of_ble_eq_true rfl) dX11_trace_62 ⟨Nat.le_refl _, Nat.le_refl _⟩) (fun _ _ h => cw_tr Bh_12.2.2 h (by decide)) rfl (fun rh_13 αh_13 Hh_13 Lh_13 ph_13 Bh_13 => ?_)
          exact q_iret C Bh_13 hr hlk Bh_13.2.2 dX11_trace_65
        refine lv_icmp_gt (tgt := 60) hx hb dX11_trace_45 (by decide) (fun c_14 => ?_) (fun c_14 => hp_n (n := 48) rfl ?_)
        ·
          have jc_14 := il_lt c_14
          exact J60 Hh_9 Lh_9 Bh_9 ls (lv_sub hl [0] rfl)
        ·
          have jc_14 := il_nlt c_14
          refine lv_iload hx hb dX11_trace_48 (lv_at hl 4 rfl) (hp_n (n := 50) rfl ?_)
          refine lv_aload_n hx hb dX11_trace_50 rfl (lv_at hl 0 rfl) (hp_n (n := 51) rfl ?_)
          refine q_getr (κ := 12) (k := 3) (φ := 603) (pc' := 54) C Bh_9 (cw_k Bh_9.2.2 k0) fl_X11_26 rfl rfl rfl (cw_r Bh_9.2.2 k0 rfl rfl (by decide) (by decide)) dX11_trace_51 rfl (fun b_15 eb_15 kb_15 => ?_)
          refine q_geti (κ := 6) (k := 1) (φ := 301) (pc' := 57) C Bh_9 (cw_k Bh_9.2.2 kb_15) fl_X11_132 rfl rfl rfl dX11_trace_54 rfl (fun x_16 ex_16 => ?_)
          refine lv_icmp_le (tgt := 66) hx hb dX11_trace_57 (by decide) (fun c_17 => ?_) (fun c_17 => hp_n (n := 60) rfl ?_)
          ·
            have jc_17 := il_le c_17
            refine lv_aload_n hx hb dX11_trace_66 rfl (lv_at hl 0 rfl) (hp_n (n := 67) rfl ?_)
            refine lv_aload_n hx hb dX11_trace_67 rfl (lv_at hl 0 rfl) (hp_n (n := 68) rfl ?_)
            refine q_gets (κ := 12) (k := 12) (φ := 612) (pc' := 71) C Bh_9 (cw_k Bh_9.2.2 k0) fl_X11_62 rfl rfl rfl t_10 dX11_trace_68 rfl ?_
            refine lv_aload_n hx hb dX11_trace_71 rfl (lv_at hl 0 rfl) (hp_n (n := 72) rfl ?_)
            refine q_getr (κ := 12) (k := 1) (φ := 601) (pc' := 75) C Bh_9 (cw_k Bh_9.2.2 k0) fl_X11_16 rfl rfl rfl (cw_r Bh_9.2.2 k0 rfl rfl (by decide) (by decide)) dX11_trace_72 rfl (fun b_18 eb_18 kb_18 => ?_)
            refine q_geti (κ := 11) (k := 0) (φ := 550) (pc' := 78) C Bh_9 (cw_k Bh_9.2.2 kb_18) fl_X11_122 rfl rfl rfl dX11_trace_75 rfl (fun x_19 ex_19 => ?_)
            refine lv_aload_n hx hb dX11_trace_78 rfl (lv_at hl 0 rfl) (hp_n (n := 79) rfl ?_)
            refine q_gets (κ := 12) (k := 3) (φ := 603) (pc' := 82) C Bh_9 (cw_k Bh_9.2.2 k0) fl_X11_26 rfl rfl rfl eb_15 dX11_trace_79 rfl ?_
            refine lv_iload_n hx hb dX11_trace_82 rfl (lv_at hl 1 rfl) (hp_n (n := 83) rfl ?_)
            refine lv_iload hx hb dX11_trace_83 (lv_at hl 4 rfl) (hp_n (n := 85) rfl ?_)
            refine q_ci (pc' := 88) Bh_9 (hp_runV (As := [.int x_19, .ref b_15, .int a1, .int a4]) (rest := [.ref a0]) C Bh_9 (t_X8_folded Γ l αh_9 Bh_9.2.2.1 b_8 (cw_k Bh_9.2.2 kb_8) x_19 b_15 (cw_k Bh_9.2.2 kb_15) a1 a4) lb_X8_folded lv_X8_folded lk_X11_382 (cw_k Bh_9.2.2 kb_8) rfl (by decide) rfl hl.1 rfl (Nat.le_of_ble_eq_true rfl) dX11_trace_85 ⟨Nat.le_refl _, Nat.le_refl _⟩) (fun _ _ h => by rw [h]; exact Bh_9.2.2) rfl (fun rh_20 αh_20 Hh_20 Lh_20 ph_20 Bh_20 => ?_)
            rw [ph_20] at Bh_20
            refine q_ci (pc' := 91) Bh_20 (hp_runV (As := [.int rh_20]) (rest := []) C Bh_20 (t_X11_answer Γ l αh_9 Bh_20.2.2.1 a0 (cw_k Bh_20.2.2 k0) rh_20) lb_X11_answer lv_X11_answer lk_X11_115 (cw_k Bh_20.2.2 k0) rfl (by decide) rfl hl.1 rfl (Nat.le_of_ble_eq_true rfl) dX11_trace_88 ⟨Nat.le_refl _, Nat.le_refl _⟩) (fun _ _ h => cw_tr Bh_20.2.2 h (by decide)) rfl (fun rh_21 αh_21 Hh_21 Lh_21 ph_21 Bh_21 => ?_)
            exact q_iret C Bh_21 hr hlk Bh_21.2.2 dX11_trace_91
          ·
            have jc_17 := il_nle c_17
            exact J60 Hh_9 Lh_9 Bh_9 ls (lv_sub hl [0] rfl)
      ·
        have jc_7 := il_eq c_7
        exact J21 Hh_6 Lh_6 Bh_6 ls (lv_sub hl [0] rfl)
abbrev w_X11_treeOfWay : cw_W := ([600], [], [], [])
set_option maxRecDepth 100000 in
set_option maxHeartbeats 4000000 in
theorem t_X11_treeOfWay (Γ : hp_G) (l : Launch) (α : hp_T) (g : GC α) (a0 : Nat) (k0 : hp_K α a0 = 12) (a1 : Int32) (a2 : Int32) : Met l yX11_treeOfWay (hp_ws yX11_treeOfWay cX11_treeOfWay 3 (some .int)) (hp_rm 1 0 0) (hp_Pc Γ α [.ref a0, .int a1, .int a2]) (hp_Qi Γ (fun r β => cw w_X11_treeOfWay α β)) 0 0 (hp_A Γ) := by
  refine hp_start (by decide) ?_
  intro p e s m below meth c C hr hlk B0 hnm
  have C : hp_C Γ p m c cX11_treeOfWay 3 s ([.ref a0, .int a1, .int a2] : List Value).toArray RX11 := C
  have hx := C.1.1
  have hb := C.1.2.1
  have hown := C.1.2.2.2.1
  have hts := C.1.2.2.2.2
  have B : hp_B Γ (cw w_X11_treeOfWay) s α α s.heap [] := ⟨B0.1, B0.2.1, cw_rf g⟩
  have lit0 : (0 : Int32).toInt = 0 := by decide
  have lit5 : (5 : Int32).toInt = 5 := by decide
  have hl := lv_entry ([.ref a0, .int a1, .int a2]) (n := 3) (Nat.le_of_ble_eq_true rfl)
  show W p l e (hp_rm 1 0 0) s m ([.ref a0, .int a1, .int a2] : List Value).toArray below meth c s.heap [] 0 0 (MQ below (hp_Qi Γ (fun r β => cw w_X11_treeOfWay α β)) ([.ref a0, .int a1, .int a2] : List Value).toArray s 0 0 (hp_A Γ)) (entryFrame m ([.ref a0, .int a1, .int a2] : List Value).toArray 3)
  rw [lg_entry_eq]
  generalize (lg_sl ([.ref a0, .int a1, .int a2]) ++ List.replicate (3 - (lg_sl ([.ref a0, .int a1, .int a2])).length) Slot.unset).toArray = ls at hl ⊢
  have hl : lv_has ls 3 [(0, .ref a0), (1, .int a1), (2, .int a2)] := hl
  refine lv_iload_n hx hb dX11_treeOfWay_0 rfl (lv_at hl 1 rfl) (hp_n (n := 1) rfl ?_)
  refine lv_aload_n hx hb dX11_treeOfWay_1 rfl (lv_at hl 0 rfl) (hp_n (n := 2) rfl ?_)
  refine q_getr (κ := 12) (k := 12) (φ := 612) (pc' := 5) C B (cw_k B.2.2 k0) fl_X11_62 rfl rfl rfl (cw_r B.2.2 k0 rfl rfl (by decide) (by decide)) dX11_treeOfWay_2 rfl (fun b_1 eb_1 kb_1 => ?_)
  refine q_geti (κ := 9) (k := 3) (φ := 453) (pc' := 8) C B (cw_k B.2.2 kb_1) fl_X11_312 rfl rfl rfl dX11_treeOfWay_5 rfl (fun x_2 ex_2 => ?_)
  obtain ⟨gx_2a, gx_2b⟩ : 0 ≤ x_2.toInt ∧ x_2.toInt ≤ 64 := by rw [ex_2]; exact B.2.2.1.1 453 b_1 rfl
  refine lv_icmp_lt (tgt := 17) hx hb dX11_treeOfWay_8 (by decide) (fun c_3 => ?_) (fun c_3 => hp_n (n := 11) rfl ?_)
  ·
    have jc_3 := il_lt c_3
    refine lv_aload_n hx hb dX11_treeOfWay_17 rfl (lv_at hl 0 rfl) (hp_n (n := 18) rfl ?_)
    refine lv_iload_n hx hb dX11_treeOfWay_18 rfl (lv_at hl 2 rfl) (hp_n (n := 19) rfl ?_)
    refine lv_if_ne (tgt := 33) hx hb dX11_treeOfWay_19 (by decide) (fun c_4 => ?_) (fun c_4 => hp_n (n := 22) rfl ?_)
    ·
      have jc_4 := il_ne c_4
      refine lv_aload_n hx hb dX11_treeOfWay_33 rfl (lv_at hl 0 rfl) (hp_n (n := 34) rfl ?_)
      refine q_gets (κ := 12) (k := 12) (φ := 612) (pc' := 37) C B (cw_k B.2.2 k0) fl_X11_62 rfl rfl rfl eb_1 dX11_treeOfWay_34 rfl ?_
      refine lv_iload_n hx hb dX11_treeOfWay_37 rfl (lv_at hl 1 rfl) (hp_n (n := 38) rfl ?_)
      refine q_ci (pc' := 41) B (hp_runV (As := [.int a1]) (rest := [.ref a0]) C B (t_X8_manyAt Γ l α B.2.2.1 b_1 (cw_k B.2.2 kb_1) a1) lb_X8_manyAt lv_X8_manyAt lk_X11_336 (cw_k B.2.2 kb_1) rfl (by decide) rfl hl.1 rfl (Nat.le_of_ble_eq_true rfl) dX11_treeOfWay_38 ⟨Nat.le_refl _, Nat.le_refl _⟩) (fun _ _ h => by rw [h]; exact B.2.2) rfl (fun rh_5 αh_5 Hh_5 Lh_5 ph_5 Bh_5 => ?_)
      rw [ph_5] at Bh_5
      refine q_ci (pc' := 44) Bh_5 (hp_runV (As := [.int rh_5]) (rest := []) C Bh_5 (t_X11_answer Γ l α Bh_5.2.2.1 a0 (cw_k Bh_5.2.2 k0) rh_5) lb_X11_answer lv_X11_answer lk_X11_115 (cw_k Bh_5.2.2 k0) rfl (by decide) rfl hl.1 rfl (Nat.le_of_ble_eq_true rfl) dX11_treeOfWay_41 ⟨Nat.le_refl _, Nat.le_refl _⟩) (fun _ _ h => cw_tr Bh_5.2.2 h (by decide)) rfl (fun rh_6 αh_6 Hh_6 Lh_6 ph_6 Bh_6 => ?_)
      exact q_iret C Bh_6 hr hlk Bh_6.2.2 dX11_treeOfWay_44
    ·
      have jc_4 := il_eq c_4
      refine lv_aload_n hx hb dX11_treeOfWay_22 rfl (lv_at hl 0 rfl) (hp_n (n := 23) rfl ?_)
      refine q_gets (κ := 12) (k := 12) (φ := 612) (pc' := 26) C B (cw_k B.2.2 k0) fl_X11_62 rfl rfl rfl eb_1 dX11_treeOfWay_23 rfl ?_
      refine lv_iload_n hx hb dX11_treeOfWay_26 rfl (lv_at hl 1 rfl) (hp_n (n := 27) rfl ?_)
      refine q_ci (pc' := 30) B (hp_runV (As := [.int a1]) (rest := [.ref a0]) C B (t_X8_firstAt Γ l α B.2.2.1 b_1 (cw_k B.2.2 kb_1) a1) lb_X8_firstAt lv_X8_firstAt lk_X11_333 (cw_k B.2.2 kb_1) rfl (by decide) rfl hl.1 rfl (Nat.le_of_ble_eq_true rfl) dX11_treeOfWay_27 ⟨Nat.le_refl _, Nat.le_refl _⟩) (fun _ _ h => by rw [h]; exact B.2.2) rfl (fun rh_7 αh_7 Hh_7 Lh_7 ph_7 Bh_7 => ?_)
      rw [ph_7] at Bh_7
      refine lv_goto (tgt := 41) hx hb dX11_treeOfWay_30 (by decide) ?_
      refine q_ci (pc' := 44) Bh_7 (hp_runV (As := [.int rh_7]) (rest := []) C Bh_7 (t_X11_answer Γ l α Bh_7.2.2.1 a0 (cw_k Bh_7.2.2 k0) rh_7) lb_X11_answer lv_X11_answer lk_X11_115 (cw_k Bh_7.2.2 k0) rfl (by decide) rfl hl.1 rfl (Nat.le_of_ble_eq_true rfl) dX11_treeOfWay_41 ⟨Nat.le_refl _, Nat.le_refl _⟩) (fun _ _ h => cw_tr Bh_7.2.2 h (by decide)) rfl (fun rh_8 αh_8 Hh_8 Lh_8 ph_8 Bh_8 => ?_)
      exact q_iret C Bh_8 hr hlk Bh_8.2.2 dX11_treeOfWay_44
  ·
    have jc_3 := il_nlt c_3
    refine lv_aload_n hx hb dX11_treeOfWay_11 rfl (lv_at hl 0 rfl) (hp_n (n := 12) rfl ?_)
    refine lv_iconst (v := 5) hx hb dX11_treeOfWay_12 (by decide) (hp_n (n := 13) rfl ?_)
    refine q_ci (pc' := 16) B (hp_runV (As := [.int 5]) (rest := []) C B (t_X11_refuse Γ l α B.2.2.1 a0 (cw_k B.2.2 k0) 5) lb_X11_refuse lv_X11_refuse lk_X11_98 (cw_k B.2.2 k0) rfl (by decide) rfl hl.1 rfl (Nat.le_of_ble_eq_true rfl) dX11_treeOfWay_13 ⟨Nat.le_refl _, Nat.le_refl _⟩) (fun _ _ h => cw_tr B.2.2 h (by decide)) rfl (fun rh_9 αh_9 Hh_9 Lh_9 ph_9 Bh_9 => ?_)
    exact q_iret C Bh_9 hr hlk Bh_9.2.2 dX11_treeOfWay_16
abbrev w_X11_span : cw_W := ([453, 454, 600], [], [21, 22, 23], [])
set_option maxRecDepth 100000 in
set_option maxHeartbeats 4000000 in
theorem t_X11_span (Γ : hp_G) (l : Launch) (α : hp_T) (g : GC α) (a0 : Nat) (k0 : hp_K α a0 = 12) (a1 : Int32) (a2 : Int32) (a3 : Int32) (a4 : Int32) : Met l yX11_span (hp_ws yX11_span cX11_span 5 (some .int)) (hp_rm 4 0 0) (hp_Pc Γ α [.ref a0, .int a1, .int a2, .int a3, .int a4]) (hp_Qi Γ (fun r β => cw w_X11_span α β)) 0 0 (hp_A Γ) := by
  refine hp_start (by decide) ?_
  intro p e s m below meth c C hr hlk B0 hnm
  have C : hp_C Γ p m c cX11_span 5 s ([.ref a0, .int a1, .int a2, .int a3, .int a4] : List Value).toArray RX11 := C
  have hx := C.1.1
  have hb := C.1.2.1
  have hown := C.1.2.2.2.1
  have hts := C.1.2.2.2.2
  have B : hp_B Γ (cw w_X11_span) s α α s.heap [] := ⟨B0.1, B0.2.1, cw_rf g⟩
  have lit0 : (0 : Int32).toInt = 0 := by decide
  have lit1 : (1 : Int32).toInt = 1 := by decide
  have hl := lv_entry ([.ref a0, .int a1, .int a2, .int a3, .int a4]) (n := 5) (Nat.le_of_ble_eq_true rfl)
  show W p l e (hp_rm 4 0 0) s m ([.ref a0, .int a1, .int a2, .int a3, .int a4] : List Value).toArray below meth c s.heap [] 0 0 (MQ below (hp_Qi Γ (fun r β => cw w_X11_span α β)) ([.ref a0, .int a1, .int a2, .int a3, .int a4] : List Value).toArray s 0 0 (hp_A Γ)) (entryFrame m ([.ref a0, .int a1, .int a2, .int a3, .int a4] : List Value).toArray 5)
  rw [lg_entry_eq]
  generalize (lg_sl ([.ref a0, .int a1, .int a2, .int a3, .int a4]) ++ List.replicate (5 - (lg_sl ([.ref a0, .int a1, .int a2, .int a3, .int a4])).length) Slot.unset).toArray = ls at hl ⊢
  have hl : lv_has ls 5 [(0, .ref a0), (1, .int a1), (2, .int a2), (3, .int a3), (4, .int a4)] := hl
  refine lv_iload_n hx hb dX11_span_0 rfl (lv_at hl 1 rfl) (hp_n (n := 1) rfl ?_)
  refine lv_iload_n hx hb dX11_span_1 rfl (lv_at hl 2 rfl) (hp_n (n := 2) rfl ?_)
  refine q_ci (pc' := 5) B (hp_runS (As := [.int a1, .int a2]) (rest := []) C B (t_X11_isThing Γ l α B.2.2.1 a1 a2) lb_X11_isThing ls_X11_isThing lk_X11_301 rfl (by decide) rfl hl.1 rfl (Nat.le_of_ble_eq_true rfl) dX11_span_2 ⟨Nat.le_refl _, Nat.le_refl _⟩) (fun _ _ h => by rw [h.1]; exact B.2.2) rfl (fun rh_1 αh_1 Hh_1 Lh_1 ph_1 Bh_1 => ?_)
  rw [ph_1.1] at Bh_1
  have zh_1 := ph_1.2
  have J23 : ∀ (Hh_2 : Heap) (Lh_2 : List Loc) (Bh_2 : hp_B Γ (cw w_X11_span) s α α Hh_2 Lh_2) (ls : Array Slot) (hl : lv_has ls 5 [(0, .ref a0)]), W p l e (hp_rm 4 0 0) s m ([.ref a0, .int a1, .int a2, .int a3, .int a4] : List Value).toArray below meth c Hh_2 Lh_2 0 0 (MQ below (hp_Qi Γ (fun r β => cw w_X11_span α β)) ([.ref a0, .int a1, .int a2, .int a3, .int a4] : List Value).toArray s 0 0 (hp_A Γ)) (F0 m 23 ls []) := by
    intro Hh_2 Lh_2 Bh_2 ls hl
    refine lv_aload_n hx hb dX11_span_23 rfl (lv_at hl 0 rfl) (hp_n (n := 24) rfl ?_)
    refine lv_iconst (v := 1) hx hb dX11_span_24 (by decide) (hp_n (n := 25) rfl ?_)
    refine q_ci (pc' := 28) Bh_2 (hp_runV (As := [.int 1]) (rest := []) C Bh_2 (t_X11_refuse Γ l α Bh_2.2.2.1 a0 (cw_k Bh_2.2.2 k0) 1) lb_X11_refuse lv_X11_refuse lk_X11_98 (cw_k Bh_2.2.2 k0) rfl (by decide) rfl hl.1 rfl (Nat.le_of_ble_eq_true rfl) dX11_span_25 ⟨Nat.le_refl _, Nat.le_refl _⟩) (fun _ _ h => cw_tr Bh_2.2.2 h (by decide)) rfl (fun rh_3 αh_3 Hh_3 Lh_3 ph_3 Bh_3 => ?_)
    exact q_iret C Bh_3 hr hlk Bh_3.2.2 dX11_span_28
  refine lv_if_eq (tgt := 23) hx hb dX11_span_5 (by decide) (fun c_4 => ?_) (fun c_4 => hp_n (n := 8) rfl ?_)
  ·
    have jc_4 := il_eq c_4
    exact J23 Hh_1 Lh_1 Bh_1 ls (lv_sub hl [0] rfl)
  ·
    have jc_4 := il_ne c_4
    refine lv_iload_n hx hb dX11_span_8 rfl (lv_at hl 3 rfl) (hp_n (n := 9) rfl ?_)
    refine lv_if_lt (tgt := 23) hx hb dX11_span_9 (by decide) (fun c_5 => ?_) (fun c_5 => hp_n (n := 12) rfl ?_)
    ·
      have jc_5 := il_lt c_5
      exact J23 Hh_1 Lh_1 Bh_1 ls (lv_sub hl [0] rfl)
    ·
      have jc_5 := il_nlt c_5
      refine lv_iload hx hb dX11_span_12 (lv_at hl 4 rfl) (hp_n (n := 14) rfl ?_)
      refine lv_if_lt (tgt := 23) hx hb dX11_span_14 (by decide) (fun c_6 => ?_) (fun c_6 => hp_n (n := 17) rfl ?_)
      ·
        have jc_6 := il_lt c_6
        exact J23 Hh_1 Lh_1 Bh_1 ls (lv_sub hl [0] rfl)
      ·
        have jc_6 := il_nlt c_6
        refine lv_iload hx hb dX11_span_17 (lv_at hl 4 rfl) (hp_n (n := 19) rfl ?_)
        refine lv_iconst (v := 1) hx hb dX11_span_19 (by decide) (hp_n (n := 20) rfl ?_)
        refine lv_icmp_le (tgt := 29) hx hb dX11_span_20 (by decide) (fun c_7 => ?_) (fun c_7 => hp_n (n := 23) rfl ?_)
        ·
          have jc_7 := il_le c_7
          refine lv_aload_n hx hb dX11_span_29 rfl (lv_at hl 0 rfl) (hp_n (n := 30) rfl ?_)
          refine q_getr (κ := 12) (k := 12) (φ := 612) (pc' := 33) C Bh_1 (cw_k Bh_1.2.2 k0) fl_X11_62 rfl rfl rfl (cw_r Bh_1.2.2 k0 rfl rfl (by decide) (by decide)) dX11_span_30 rfl (fun b_8 eb_8 kb_8 => ?_)
          refine lv_iload_n hx hb dX11_span_33 rfl (lv_at hl 1 rfl) (hp_n (n := 34) rfl ?_)
          refine lv_iload_n hx hb dX11_span_34 rfl (lv_at hl 2 rfl) (hp_n (n := 35) rfl ?_)
          refine q_cv (pc' := 38) Bh_1 (hp_runV (As := [.int a1, .int a2]) (rest := []) C Bh_1 (t_X8_toThing Γ l α Bh_1.2.2.1 b_8 (cw_k Bh_1.2.2 kb_8) a1 a2) lb_X8_toThing lv_X8_toThing lk_X11_267 (cw_k Bh_1.2.2 kb_8) rfl (by decide) rfl hl.1 rfl (Nat.le_of_ble_eq_true rfl) dX11_span_35 ⟨Nat.le_refl _, Nat.le_refl _⟩) (fun _ h => cw_tr Bh_1.2.2 h (by decide)) rfl (fun αh_9 Hh_9 Lh_9 ph_9 Bh_9 => ?_)
          refine lv_aload_n hx hb dX11_span_38 rfl (lv_at hl 0 rfl) (hp_n (n := 39) rfl ?_)
          refine lv_iload_n hx hb dX11_span_39 rfl (lv_at hl 3 rfl) (hp_n (n := 40) rfl ?_)
          refine lv_iload hx hb dX11_span_40 (lv_at hl 4 rfl) (hp_n (n := 42) rfl ?_)
          refine q_ci (pc' := 45) Bh_9 (hp_runV (As := [.int a3, .int a4]) (rest := []) C Bh_9 (t_X11_treeOfWay Γ l αh_9 Bh_9.2.2.1 a0 (cw_k Bh_9.2.2 k0) a3 a4) lb_X11_treeOfWay lv_X11_treeOfWay lk_X11_392 (cw_k Bh_9.2.2 k0) rfl (by decide) rfl hl.1 rfl (Nat.le_of_ble_eq_true rfl) dX11_span_42 ⟨Nat.le_refl _, Nat.le_refl _⟩) (fun _ _ h => cw_tr Bh_9.2.2 h (by decide)) rfl (fun rh_10 αh_10 Hh_10 Lh_10 ph_10 Bh_10 => ?_)
          exact q_iret C Bh_10 hr hlk Bh_10.2.2 dX11_span_45
        ·
          have jc_7 := il_nle c_7
          exact J23 Hh_1 Lh_1 Bh_1 ls (lv_sub hl [0] rfl)
abbrev w_X11_rise : cw_W := ([453, 454, 600], [], [21, 22, 23], [])
set_option maxRecDepth 100000 in
set_option maxHeartbeats 4000000 in
theorem t_X11_rise (Γ : hp_G) (l : Launch) (α : hp_T) (g : GC α) (a0 : Nat) (k0 : hp_K α a0 = 12) (a1 : Int32) (a2 : Int32) (a3 : Int32) (a4 : Int32) : Met l yX11_rise (hp_ws yX11_rise cX11_rise 5 (some .int)) (hp_rm 4 0 0) (hp_Pc Γ α [.ref a0, .int a1, .int a2, .int a3, .int a4]) (hp_Qi Γ (fun r β => cw w_X11_rise α β)) 0 0 (hp_A Γ) := by
  refine hp_start (by decide) ?_
  intro p e s m below meth c C hr hlk B0 hnm
  have C : hp_C Γ p m c cX11_rise 5 s ([.ref a0, .int a1, .int a2, .int a3, .int a4] : List Value).toArray RX11 := C
  have hx := C.1.1
  have hb := C.1.2.1
  have hown := C.1.2.2.2.1
  have hts := C.1.2.2.2.2
  have B : hp_B Γ (cw w_X11_rise) s α α s.heap [] := ⟨B0.1, B0.2.1, cw_rf g⟩
  have lit0 : (0 : Int32).toInt = 0 := by decide
  have lit1 : (1 : Int32).toInt = 1 := by decide
  have hl := lv_entry ([.ref a0, .int a1, .int a2, .int a3, .int a4]) (n := 5) (Nat.le_of_ble_eq_true rfl)
  show W p l e (hp_rm 4 0 0) s m ([.ref a0, .int a1, .int a2, .int a3, .int a4] : List Value).toArray below meth c s.heap [] 0 0 (MQ below (hp_Qi Γ (fun r β => cw w_X11_rise α β)) ([.ref a0, .int a1, .int a2, .int a3, .int a4] : List Value).toArray s 0 0 (hp_A Γ)) (entryFrame m ([.ref a0, .int a1, .int a2, .int a3, .int a4] : List Value).toArray 5)
  rw [lg_entry_eq]
  generalize (lg_sl ([.ref a0, .int a1, .int a2, .int a3, .int a4]) ++ List.replicate (5 - (lg_sl ([.ref a0, .int a1, .int a2, .int a3, .int a4])).length) Slot.unset).toArray = ls at hl ⊢
  have hl : lv_has ls 5 [(0, .ref a0), (1, .int a1), (2, .int a2), (3, .int a3), (4, .int a4)] := hl
  refine lv_iload_n hx hb dX11_rise_0 rfl (lv_at hl 1 rfl) (hp_n (n := 1) rfl ?_)
  have J24 : ∀ (Hh_1 : Heap) (Lh_1 : List Loc) (Bh_1 : hp_B Γ (cw w_X11_rise) s α α Hh_1 Lh_1) (ls : Array Slot) (hl : lv_has ls 5 [(0, .ref a0)]), W p l e (hp_rm 4 0 0) s m ([.ref a0, .int a1, .int a2, .int a3, .int a4] : List Value).toArray below meth c Hh_1 Lh_1 0 0 (MQ below (hp_Qi Γ (fun r β => cw w_X11_rise α β)) ([.ref a0, .int a1, .int a2, .int a3, .int a4] : List Value).toArray s 0 0 (hp_A Γ)) (F0 m 24 ls []) := by
    intro Hh_1 Lh_1 Bh_1 ls hl
    refine lv_aload_n hx hb dX11_rise_24 rfl (lv_at hl 0 rfl) (hp_n (n := 25) rfl ?_)
    refine lv_iconst (v := 1) hx hb dX11_rise_25 (by decide) (hp_n (n := 26) rfl ?_)
    refine q_ci (pc' := 29) Bh_1 (hp_runV (As := [.int 1]) (rest := []) C Bh_1 (t_X11_refuse Γ l α Bh_1.2.2.1 a0 (cw_k Bh_1.2.2 k0) 1) lb_X11_refuse lv_X11_refuse lk_X11_98 (cw_k Bh_1.2.2 k0) rfl (by decide) rfl hl.1 rfl (Nat.le_of_ble_eq_true rfl) dX11_rise_26 ⟨Nat.le_refl _, Nat.le_refl _⟩) (fun _ _ h => cw_tr Bh_1.2.2 h (by decide)) rfl (fun rh_2 αh_2 Hh_2 Lh_2 ph_2 Bh_2 => ?_)
    exact q_iret C Bh_2 hr hlk Bh_2.2.2 dX11_rise_29
  refine lv_if_lt (tgt := 24) hx hb dX11_rise_1 (by decide) (fun c_3 => ?_) (fun c_3 => hp_n (n := 4) rfl ?_)
  ·
    have jc_3 := il_lt c_3
    exact J24 s.heap [] B ls (lv_sub hl [0] rfl)
  ·
    have jc_3 := il_nlt c_3
    refine lv_iload_n hx hb dX11_rise_4 rfl (lv_at hl 1 rfl) (hp_n (n := 5) rfl ?_)
    refine lv_iload_n hx hb dX11_rise_5 rfl (lv_at hl 2 rfl) (hp_n (n := 6) rfl ?_)
    refine lv_icmp_gt (tgt := 24) hx hb dX11_rise_6 (by decide) (fun c_4 => ?_) (fun c_4 => hp_n (n := 9) rfl ?_)
    ·
      have jc_4 := il_lt c_4
      exact J24 s.heap [] B ls (lv_sub hl [0] rfl)
    ·
      have jc_4 := il_nlt c_4
      refine lv_iload_n hx hb dX11_rise_9 rfl (lv_at hl 3 rfl) (hp_n (n := 10) rfl ?_)
      refine lv_if_lt (tgt := 24) hx hb dX11_rise_10 (by decide) (fun c_5 => ?_) (fun c_5 => hp_n (n := 13) rfl ?_)
      ·
        have jc_5 := il_lt c_5
        exact J24 s.heap [] B ls (lv_sub hl [0] rfl)
      ·
        have jc_5 := il_nlt c_5
        refine lv_iload hx hb dX11_rise_13 (lv_at hl 4 rfl) (hp_n (n := 15) rfl ?_)
        refine lv_if_lt (tgt := 24) hx hb dX11_rise_15 (by decide) (fun c_6 => ?_) (fun c_6 => hp_n (n := 18) rfl ?_)
        ·
          have jc_6 := il_lt c_6
          exact J24 s.heap [] B ls (lv_sub hl [0] rfl)
        ·
          have jc_6 := il_nlt c_6
          refine lv_iload hx hb dX11_rise_18 (lv_at hl 4 rfl) (hp_n (n := 20) rfl ?_)
          refine lv_iconst (v := 1) hx hb dX11_rise_20 (by decide) (hp_n (n := 21) rfl ?_)
          refine lv_icmp_le (tgt := 30) hx hb dX11_rise_21 (by decide) (fun c_7 => ?_) (fun c_7 => hp_n (n := 24) rfl ?_)
          ·
            have jc_7 := il_le c_7
            refine lv_aload_n hx hb dX11_rise_30 rfl (lv_at hl 0 rfl) (hp_n (n := 31) rfl ?_)
            refine q_getr (κ := 12) (k := 12) (φ := 612) (pc' := 34) C B (cw_k B.2.2 k0) fl_X11_62 rfl rfl rfl (cw_r B.2.2 k0 rfl rfl (by decide) (by decide)) dX11_rise_31 rfl (fun b_8 eb_8 kb_8 => ?_)
            refine lv_iload_n hx hb dX11_rise_34 rfl (lv_at hl 1 rfl) (hp_n (n := 35) rfl ?_)
            refine lv_iload_n hx hb dX11_rise_35 rfl (lv_at hl 2 rfl) (hp_n (n := 36) rfl ?_)
            refine q_cv (pc' := 39) B (hp_runV (As := [.int a1, .int a2]) (rest := []) C B (t_X8_toGrowth Γ l α B.2.2.1 b_8 (cw_k B.2.2 kb_8) a1 a2) lb_X8_toGrowth lv_X8_toGrowth lk_X11_274 (cw_k B.2.2 kb_8) rfl (by decide) rfl hl.1 rfl (Nat.le_of_ble_eq_true rfl) dX11_rise_36 ⟨Nat.le_refl _, Nat.le_refl _⟩) (fun _ h => cw_tr B.2.2 h (by decide)) rfl (fun αh_9 Hh_9 Lh_9 ph_9 Bh_9 => ?_)
            refine lv_aload_n hx hb dX11_rise_39 rfl (lv_at hl 0 rfl) (hp_n (n := 40) rfl ?_)
            refine lv_iload_n hx hb dX11_rise_40 rfl (lv_at hl 3 rfl) (hp_n (n := 41) rfl ?_)
            refine lv_iload hx hb dX11_rise_41 (lv_at hl 4 rfl) (hp_n (n := 43) rfl ?_)
            refine q_ci (pc' := 46) Bh_9 (hp_runV (As := [.int a3, .int a4]) (rest := []) C Bh_9 (t_X11_treeOfWay Γ l αh_9 Bh_9.2.2.1 a0 (cw_k Bh_9.2.2 k0) a3 a4) lb_X11_treeOfWay lv_X11_treeOfWay lk_X11_392 (cw_k Bh_9.2.2 k0) rfl (by decide) rfl hl.1 rfl (Nat.le_of_ble_eq_true rfl) dX11_rise_43 ⟨Nat.le_refl _, Nat.le_refl _⟩) (fun _ _ h => cw_tr Bh_9.2.2 h (by decide)) rfl (fun rh_10 αh_10 Hh_10 Lh_10 ph_10 Bh_10 => ?_)
            exact q_iret C Bh_10 hr hlk Bh_10.2.2 dX11_rise_46
          ·
            have jc_7 := il_nle c_7
            exact J24 s.heap [] B ls (lv_sub hl [0] rfl)
abbrev w_X11_kept : cw_W := ([453, 454, 600], [], [21, 22, 23], [])
set_option maxRecDepth 100000 in
set_option maxHeartbeats 4000000 in
theorem t_X11_kept (Γ : hp_G) (l : Launch) (α : hp_T) (g : GC α) (a0 : Nat) (k0 : hp_K α a0 = 12) (a1 : Int32) (a2 : Int32) (a3 : Int32) : Met l yX11_kept (hp_ws yX11_kept cX11_kept 4 (some .int)) (hp_rm 4 0 0) (hp_Pc Γ α [.ref a0, .int a1, .int a2, .int a3]) (hp_Qi Γ (fun r β => cw w_X11_kept α β)) 0 0 (hp_A Γ) := by
  refine hp_start (by decide) ?_
  intro p e s m below meth c C hr hlk B0 hnm
  have C : hp_C Γ p m c cX11_kept 4 s ([.ref a0, .int a1, .int a2, .int a3] : List Value).toArray RX11 := C
  have hx := C.1.1
  have hb := C.1.2.1
  have hown := C.1.2.2.2.1
  have hts := C.1.2.2.2.2
  have B : hp_B Γ (cw w_X11_kept) s α α s.heap [] := ⟨B0.1, B0.2.1, cw_rf g⟩
  have lit0 : (0 : Int32).toInt = 0 := by decide
  have lit1 : (1 : Int32).toInt = 1 := by decide
  have hl := lv_entry ([.ref a0, .int a1, .int a2, .int a3]) (n := 4) (Nat.le_of_ble_eq_true rfl)
  show W p l e (hp_rm 4 0 0) s m ([.ref a0, .int a1, .int a2, .int a3] : List Value).toArray below meth c s.heap [] 0 0 (MQ below (hp_Qi Γ (fun r β => cw w_X11_kept α β)) ([.ref a0, .int a1, .int a2, .int a3] : List Value).toArray s 0 0 (hp_A Γ)) (entryFrame m ([.ref a0, .int a1, .int a2, .int a3] : List Value).toArray 4)
  rw [lg_entry_eq]
  generalize (lg_sl ([.ref a0, .int a1, .int a2, .int a3]) ++ List.replicate (4 - (lg_sl ([.ref a0, .int a1, .int a2, .int a3])).length) Slot.unset).toArray = ls at hl ⊢
  have hl : lv_has ls 4 [(0, .ref a0), (1, .int a1), (2, .int a2), (3, .int a3)] := hl
  refine lv_iload_n hx hb dX11_kept_0 rfl (lv_at hl 1 rfl) (hp_n (n := 1) rfl ?_)
  refine lv_iload_n hx hb dX11_kept_1 rfl (lv_at hl 2 rfl) (hp_n (n := 2) rfl ?_)
  refine q_ci (pc' := 5) B (hp_runS (As := [.int a1, .int a2]) (rest := []) C B (t_X11_isThing Γ l α B.2.2.1 a1 a2) lb_X11_isThing ls_X11_isThing lk_X11_301 rfl (by decide) rfl hl.1 rfl (Nat.le_of_ble_eq_true rfl) dX11_kept_2 ⟨Nat.le_refl _, Nat.le_refl _⟩) (fun _ _ h => by rw [h.1]; exact B.2.2) rfl (fun rh_1 αh_1 Hh_1 Lh_1 ph_1 Bh_1 => ?_)
  rw [ph_1.1] at Bh_1
  have zh_1 := ph_1.2
  have J13 : ∀ (Hh_2 : Heap) (Lh_2 : List Loc) (Bh_2 : hp_B Γ (cw w_X11_kept) s α α Hh_2 Lh_2) (ls : Array Slot) (hl : lv_has ls 4 [(0, .ref a0)]), W p l e (hp_rm 4 0 0) s m ([.ref a0, .int a1, .int a2, .int a3] : List Value).toArray below meth c Hh_2 Lh_2 0 0 (MQ below (hp_Qi Γ (fun r β => cw w_X11_kept α β)) ([.ref a0, .int a1, .int a2, .int a3] : List Value).toArray s 0 0 (hp_A Γ)) (F0 m 13 ls []) := by
    intro Hh_2 Lh_2 Bh_2 ls hl
    refine lv_aload_n hx hb dX11_kept_13 rfl (lv_at hl 0 rfl) (hp_n (n := 14) rfl ?_)
    refine lv_iconst (v := 1) hx hb dX11_kept_14 (by decide) (hp_n (n := 15) rfl ?_)
    refine q_ci (pc' := 18) Bh_2 (hp_runV (As := [.int 1]) (rest := []) C Bh_2 (t_X11_refuse Γ l α Bh_2.2.2.1 a0 (cw_k Bh_2.2.2 k0) 1) lb_X11_refuse lv_X11_refuse lk_X11_98 (cw_k Bh_2.2.2 k0) rfl (by decide) rfl hl.1 rfl (Nat.le_of_ble_eq_true rfl) dX11_kept_15 ⟨Nat.le_refl _, Nat.le_refl _⟩) (fun _ _ h => cw_tr Bh_2.2.2 h (by decide)) rfl (fun rh_3 αh_3 Hh_3 Lh_3 ph_3 Bh_3 => ?_)
    exact q_iret C Bh_3 hr hlk Bh_3.2.2 dX11_kept_18
  refine lv_if_eq (tgt := 13) hx hb dX11_kept_5 (by decide) (fun c_4 => ?_) (fun c_4 => hp_n (n := 8) rfl ?_)
  ·
    have jc_4 := il_eq c_4
    exact J13 Hh_1 Lh_1 Bh_1 ls (lv_sub hl [0] rfl)
  ·
    have jc_4 := il_ne c_4
    refine lv_iload_n hx hb dX11_kept_8 rfl (lv_at hl 3 rfl) (hp_n (n := 9) rfl ?_)
    refine lv_iload_n hx hb dX11_kept_9 rfl (lv_at hl 2 rfl) (hp_n (n := 10) rfl ?_)
    refine lv_icmp_ge (tgt := 19) hx hb dX11_kept_10 (by decide) (fun c_5 => ?_) (fun c_5 => hp_n (n := 13) rfl ?_)
    ·
      have jc_5 := il_le c_5
      refine lv_aload_n hx hb dX11_kept_19 rfl (lv_at hl 0 rfl) (hp_n (n := 20) rfl ?_)
      refine q_getr (κ := 12) (k := 12) (φ := 612) (pc' := 23) C Bh_1 (cw_k Bh_1.2.2 k0) fl_X11_62 rfl rfl rfl (cw_r Bh_1.2.2 k0 rfl rfl (by decide) (by decide)) dX11_kept_20 rfl (fun b_6 eb_6 kb_6 => ?_)
      refine lv_iload_n hx hb dX11_kept_23 rfl (lv_at hl 1 rfl) (hp_n (n := 24) rfl ?_)
      refine lv_iload_n hx hb dX11_kept_24 rfl (lv_at hl 2 rfl) (hp_n (n := 25) rfl ?_)
      refine q_cv (pc' := 28) Bh_1 (hp_runV (As := [.int a1, .int a2]) (rest := []) C Bh_1 (t_X8_toThing Γ l α Bh_1.2.2.1 b_6 (cw_k Bh_1.2.2 kb_6) a1 a2) lb_X8_toThing lv_X8_toThing lk_X11_267 (cw_k Bh_1.2.2 kb_6) rfl (by decide) rfl hl.1 rfl (Nat.le_of_ble_eq_true rfl) dX11_kept_25 ⟨Nat.le_refl _, Nat.le_refl _⟩) (fun _ h => cw_tr Bh_1.2.2 h (by decide)) rfl (fun αh_7 Hh_7 Lh_7 ph_7 Bh_7 => ?_)
      refine lv_aload_n hx hb dX11_kept_28 rfl (lv_at hl 0 rfl) (hp_n (n := 29) rfl ?_)
      refine q_getr (κ := 12) (k := 13) (φ := 613) (pc' := 32) C Bh_7 (cw_k Bh_7.2.2 k0) fl_X11_66 rfl rfl rfl (cw_r Bh_7.2.2 k0 rfl rfl (by decide) (by decide)) dX11_kept_29 rfl (fun b_8 eb_8 kb_8 => ?_)
      refine lv_iload_n hx hb dX11_kept_32 rfl (lv_at hl 1 rfl) (hp_n (n := 33) rfl ?_)
      refine lv_iload_n hx hb dX11_kept_33 rfl (lv_at hl 3 rfl) (hp_n (n := 34) rfl ?_)
      refine q_cv (pc' := 37) Bh_7 (hp_runV (As := [.int a1, .int a3]) (rest := []) C Bh_7 (t_X8_toThing Γ l αh_7 Bh_7.2.2.1 b_8 (cw_k Bh_7.2.2 kb_8) a1 a3) lb_X8_toThing lv_X8_toThing lk_X11_267 (cw_k Bh_7.2.2 kb_8) rfl (by decide) rfl hl.1 rfl (Nat.le_of_ble_eq_true rfl) dX11_kept_34 ⟨Nat.le_refl _, Nat.le_refl _⟩) (fun _ h => cw_tr Bh_7.2.2 h (by decide)) rfl (fun αh_9 Hh_9 Lh_9 ph_9 Bh_9 => ?_)
      refine lv_aload_n hx hb dX11_kept_37 rfl (lv_at hl 0 rfl) (hp_n (n := 38) rfl ?_)
      refine lv_aload_n hx hb dX11_kept_38 rfl (lv_at hl 0 rfl) (hp_n (n := 39) rfl ?_)
      have t_10 : b_6 = hp_R αh_7 612 a0 := by rw [cw_R ph_7 a0 (by decide)]; exact eb_6
      have t_11 : b_6 = hp_R αh_9 612 a0 := by rw [cw_R ph_9 a0 (by decide)]; exact t_10
      refine q_gets (κ := 12) (k := 12) (φ := 612) (pc' := 42) C Bh_9 (cw_k Bh_9.2.2 k0) fl_X11_62 rfl rfl rfl t_11 dX11_kept_39 rfl ?_
      refine lv_aload_n hx hb dX11_kept_42 rfl (lv_at hl 0 rfl) (hp_n (n := 43) rfl ?_)
      have t_12 : b_8 = hp_R αh_9 613 a0 := by rw [cw_R ph_9 a0 (by decide)]; exact eb_8
      refine q_gets (κ := 12) (k := 13) (φ := 613) (pc' := 46) C Bh_9 (cw_k Bh_9.2.2 k0) fl_X11_66 rfl rfl rfl t_12 dX11_kept_43 rfl ?_
      refine q_ci (pc' := 49) Bh_9 (hp_runV (As := [.ref b_8]) (rest := [.ref a0]) C Bh_9 (t_X8_countShared Γ l αh_9 Bh_9.2.2.1 b_6 (cw_k Bh_9.2.2 kb_6) b_8 (cw_k Bh_9.2.2 kb_8)) lb_X8_countShared lv_X8_countShared lk_X11_395 (cw_k Bh_9.2.2 kb_6) rfl (by decide) rfl hl.1 rfl (Nat.le_of_ble_eq_true rfl) dX11_kept_46 ⟨Nat.le_refl _, Nat.le_refl _⟩) (fun _ _ h => by rw [h]; exact Bh_9.2.2) rfl (fun rh_13 αh_13 Hh_13 Lh_13 ph_13 Bh_13 => ?_)
      rw [ph_13] at Bh_13
      refine q_ci (pc' := 52) Bh_13 (hp_runV (As := [.int rh_13]) (rest := []) C Bh_13 (t_X11_answer Γ l αh_9 Bh_13.2.2.1 a0 (cw_k Bh_13.2.2 k0) rh_13) lb_X11_answer lv_X11_answer lk_X11_115 (cw_k Bh_13.2.2 k0) rfl (by decide) rfl hl.1 rfl (Nat.le_of_ble_eq_true rfl) dX11_kept_49 ⟨Nat.le_refl _, Nat.le_refl _⟩) (fun _ _ h => cw_tr Bh_13.2.2 h (by decide)) rfl (fun rh_14 αh_14 Hh_14 Lh_14 ph_14 Bh_14 => ?_)
      exact q_iret C Bh_14 hr hlk Bh_14.2.2 dX11_kept_52
    ·
      have jc_5 := il_nle c_5
      exact J13 Hh_1 Lh_1 Bh_1 ls (lv_sub hl [0] rfl)
abbrev w_X11_sick : cw_W := ([301, 600], [], [20, 33], [])
set_option maxRecDepth 100000 in
set_option maxHeartbeats 4000000 in
theorem t_X11_sick (Γ : hp_G) (l : Launch) (α : hp_T) (g : GC α) (a0 : Nat) (k0 : hp_K α a0 = 12) (a1 : Int32) : Met l yX11_sick (hp_ws yX11_sick cX11_sick 3 (some .int)) (hp_rm 4 0 0) (hp_Pc Γ α [.ref a0, .int a1]) (hp_Qi Γ (fun r β => cw w_X11_sick α β)) 0 0 (hp_A Γ) := by
  refine hp_start (by decide) ?_
  intro p e s m below meth c C hr hlk B0 hnm
  have C : hp_C Γ p m c cX11_sick 3 s ([.ref a0, .int a1] : List Value).toArray RX11 := C
  have hx := C.1.1
  have hb := C.1.2.1
  have hown := C.1.2.2.2.1
  have hts := C.1.2.2.2.2
  have B : hp_B Γ (cw w_X11_sick) s α α s.heap [] := ⟨B0.1, B0.2.1, cw_rf g⟩
  have lit0 : (0 : Int32).toInt = 0 := by decide
  have lit1 : (1 : Int32).toInt = 1 := by decide
  have lit5 : (5 : Int32).toInt = 5 := by decide
  have hl := lv_entry ([.ref a0, .int a1]) (n := 3) (Nat.le_of_ble_eq_true rfl)
  show W p l e (hp_rm 4 0 0) s m ([.ref a0, .int a1] : List Value).toArray below meth c s.heap [] 0 0 (MQ below (hp_Qi Γ (fun r β => cw w_X11_sick α β)) ([.ref a0, .int a1] : List Value).toArray s 0 0 (hp_A Γ)) (entryFrame m ([.ref a0, .int a1] : List Value).toArray 3)
  rw [lg_entry_eq]
  generalize (lg_sl ([.ref a0, .int a1]) ++ List.replicate (3 - (lg_sl ([.ref a0, .int a1])).length) Slot.unset).toArray = ls at hl ⊢
  have hl : lv_has ls 3 [(0, .ref a0), (1, .int a1)] := hl
  refine lv_iload_n hx hb dX11_sick_0 rfl (lv_at hl 1 rfl) (hp_n (n := 1) rfl ?_)
  refine lv_if_ge (tgt := 10) hx hb dX11_sick_1 (by decide) (fun c_1 => ?_) (fun c_1 => hp_n (n := 4) rfl ?_)
  ·
    have jc_1 := il_le c_1
    refine lv_aload_n hx hb dX11_sick_10 rfl (lv_at hl 0 rfl) (hp_n (n := 11) rfl ?_)
    refine q_getr (κ := 12) (k := 1) (φ := 601) (pc' := 14) C B (cw_k B.2.2 k0) fl_X11_16 rfl rfl rfl (cw_r B.2.2 k0 rfl rfl (by decide) (by decide)) dX11_sick_11 rfl (fun b_2 eb_2 kb_2 => ?_)
    refine lv_iload_n hx hb dX11_sick_14 rfl (lv_at hl 1 rfl) (hp_n (n := 15) rfl ?_)
    refine q_cq (pc' := 18) B (hp_runV (As := [.int a1]) (rest := []) C B (t_X10_frozenAt Γ l α B.2.2.1 b_2 (cw_k B.2.2 kb_2) a1) lb_X10_frozenAt lv_X10_frozenAt lk_X11_198 (cw_k B.2.2 kb_2) rfl (by decide) rfl hl.1 rfl (Nat.le_of_ble_eq_true rfl) dX11_sick_15 ⟨Nat.le_refl _, Nat.le_refl _⟩) (fun _ _ h => by rw [h.1]; exact B.2.2) rfl (fun rh_3 αh_3 Hh_3 Lh_3 ph_3 Bh_3 => ?_)
    rw [ph_3.1] at Bh_3
    rcases rh_3 with _ | bh_3
    ·
      refine lv_astore_nN (lv' := [(2, .null), (0, .ref a0), (1, .int a1)]) hx hb dX11_sick_18 rfl hl (by decide) rfl (fun ls hl => hp_n (n := 19) rfl ?_)
      refine lv_aload_nN hx hb dX11_sick_19 rfl (lv_at hl 0 rfl) (hp_n (n := 20) rfl ?_)
      refine lv_ifnonnullN hx hb dX11_sick_20 (hp_n (n := 23) rfl ?_)
      refine lv_aload_n hx hb dX11_sick_23 rfl (lv_at hl 1 rfl) (hp_n (n := 24) rfl ?_)
      refine lv_iconst (v := 5) hx hb dX11_sick_24 (by decide) (hp_n (n := 25) rfl ?_)
      refine q_ci (pc' := 28) Bh_3 (hp_runV (As := [.int 5]) (rest := []) C Bh_3 (t_X11_refuse Γ l α Bh_3.2.2.1 a0 (cw_k Bh_3.2.2 k0) 5) lb_X11_refuse lv_X11_refuse lk_X11_98 (cw_k Bh_3.2.2 k0) rfl (by decide) rfl hl.1 rfl (Nat.le_of_ble_eq_true rfl) dX11_sick_25 ⟨Nat.le_refl _, Nat.le_refl _⟩) (fun _ _ h => cw_tr Bh_3.2.2 h (by decide)) rfl (fun rh_4 αh_4 Hh_4 Lh_4 ph_4 Bh_4 => ?_)
      refine lv_goto (tgt := 47) hx hb dX11_sick_28 (by decide) ?_
      exact q_iret C Bh_4 hr hlk Bh_4.2.2 dX11_sick_47
    ·
      have kbh_3 : hp_K α bh_3 = 2 := cw_k' Bh_3.2.2 (ph_3.2 bh_3 rfl)
      refine lv_astore_n (lv' := [(2, .ref bh_3), (0, .ref a0), (1, .int a1)]) hx hb dX11_sick_18 rfl hl (by decide) rfl (fun ls hl => hp_n (n := 19) rfl ?_)
      refine lv_aload_n hx hb dX11_sick_19 rfl (lv_at hl 0 rfl) (hp_n (n := 20) rfl ?_)
      refine lv_ifnonnull (tgt := 31) hx hb dX11_sick_20 (by decide) ?_
      refine lv_aload_n hx hb dX11_sick_31 rfl (lv_at hl 1 rfl) (hp_n (n := 32) rfl ?_)
      refine lv_aload_n hx hb dX11_sick_32 rfl (lv_at hl 1 rfl) (hp_n (n := 33) rfl ?_)
      refine q_gets (κ := 12) (k := 1) (φ := 601) (pc' := 36) C Bh_3 (cw_k Bh_3.2.2 k0) fl_X11_16 rfl rfl rfl eb_2 dX11_sick_33 rfl ?_
      refine lv_aload_n hx hb dX11_sick_36 rfl (lv_at hl 0 rfl) (hp_n (n := 37) rfl ?_)
      refine lv_aload_n hx hb dX11_sick_37 rfl (lv_at hl 1 rfl) (hp_n (n := 38) rfl ?_)
      refine q_getr (κ := 12) (k := 14) (φ := 614) (pc' := 41) C Bh_3 (cw_k Bh_3.2.2 k0) fl_X11_69 rfl rfl rfl (cw_r Bh_3.2.2 k0 rfl rfl (by decide) (by decide)) dX11_sick_38 rfl (fun b_5 eb_5 kb_5 => ?_)
      refine q_ci (pc' := 44) Bh_3 (hp_runV (As := [.ref bh_3, .ref b_5]) (rest := [.ref a0]) C Bh_3 (t_X10_sickBits Γ l α Bh_3.2.2.1 b_2 (cw_k Bh_3.2.2 kb_2) bh_3 (cw_k Bh_3.2.2 kbh_3) b_5 (cw_k Bh_3.2.2 kb_5)) lb_X10_sickBits lv_X10_sickBits lk_X11_399 (cw_k Bh_3.2.2 kb_2) rfl (by decide) rfl hl.1 rfl (Nat.le_of_ble_eq_true rfl) dX11_sick_41 ⟨Nat.le_refl _, Nat.le_refl _⟩) (fun _ _ h => cw_tr Bh_3.2.2 h (by decide)) rfl (fun rh_6 αh_6 Hh_6 Lh_6 ph_6 Bh_6 => ?_)
      refine q_ci (pc' := 47) Bh_6 (hp_runV (As := [.int rh_6]) (rest := []) C Bh_6 (t_X11_answer Γ l αh_6 Bh_6.2.2.1 a0 (cw_k Bh_6.2.2 k0) rh_6) lb_X11_answer lv_X11_answer lk_X11_115 (cw_k Bh_6.2.2 k0) rfl (by decide) rfl hl.1 rfl (Nat.le_of_ble_eq_true rfl) dX11_sick_44 ⟨Nat.le_refl _, Nat.le_refl _⟩) (fun _ _ h => cw_tr Bh_6.2.2 h (by decide)) rfl (fun rh_7 αh_7 Hh_7 Lh_7 ph_7 Bh_7 => ?_)
      exact q_iret C Bh_7 hr hlk Bh_7.2.2 dX11_sick_47
  ·
    have jc_1 := il_nle c_1
    refine lv_aload_n hx hb dX11_sick_4 rfl (lv_at hl 0 rfl) (hp_n (n := 5) rfl ?_)
    refine lv_iconst (v := 1) hx hb dX11_sick_5 (by decide) (hp_n (n := 6) rfl ?_)
    refine q_ci (pc' := 9) B (hp_runV (As := [.int 1]) (rest := []) C B (t_X11_refuse Γ l α B.2.2.1 a0 (cw_k B.2.2 k0) 1) lb_X11_refuse lv_X11_refuse lk_X11_98 (cw_k B.2.2 k0) rfl (by decide) rfl hl.1 rfl (Nat.le_of_ble_eq_true rfl) dX11_sick_6 ⟨Nat.le_refl _, Nat.le_refl _⟩) (fun _ _ h => cw_tr B.2.2 h (by decide)) rfl (fun rh_8 αh_8 Hh_8 Lh_8 ph_8 Bh_8 => ?_)
    exact q_iret C Bh_8 hr hlk Bh_8.2.2 dX11_sick_9
abbrev w_X11_isLink : cw_W := ([], [], [], [])
set_option maxRecDepth 100000 in
set_option maxHeartbeats 4000000 in
theorem t_X11_isLink (Γ : hp_G) (l : Launch) (α : hp_T) (g : GC α) (a0 : Nat) (k0 : hp_K α a0 = 12) (a1 : Int32) (a2 : Int32) : Met l yX11_isLink (hp_ws yX11_isLink cX11_isLink 4 (some .boolean)) (hp_rm 0 0 0) (hp_Pc Γ α [.ref a0, .int a1, .int a2]) (hp_Qi Γ (fun r β => β = α ∧ (r = 0 ∨ r = 1))) 0 0 (hp_A Γ) := by
  refine hp_start (by decide) ?_
  intro p e s m below meth c C hr hlk B0 hnm
  have C : hp_C Γ p m c cX11_isLink 4 s ([.ref a0, .int a1, .int a2] : List Value).toArray RX11 := C
  have hx := C.1.1
  have hb := C.1.2.1
  have hown := C.1.2.2.2.1
  have hts := C.1.2.2.2.2
  have B : hp_B Γ (cw w_X11_isLink) s α α s.heap [] := ⟨B0.1, B0.2.1, cw_rf g⟩
  have lit0 : (0 : Int32).toInt = 0 := by decide
  have lit1 : (1 : Int32).toInt = 1 := by decide
  have lit256 : (256 : Int32).toInt = 256 := by decide
  have hl := lv_entry ([.ref a0, .int a1, .int a2]) (n := 4) (Nat.le_of_ble_eq_true rfl)
  show W p l e (hp_rm 0 0 0) s m ([.ref a0, .int a1, .int a2] : List Value).toArray below meth c s.heap [] 0 0 (MQ below (hp_Qi Γ (fun r β => β = α ∧ (r = 0 ∨ r = 1))) ([.ref a0, .int a1, .int a2] : List Value).toArray s 0 0 (hp_A Γ)) (entryFrame m ([.ref a0, .int a1, .int a2] : List Value).toArray 4)
  rw [lg_entry_eq]
  generalize (lg_sl ([.ref a0, .int a1, .int a2]) ++ List.replicate (4 - (lg_sl ([.ref a0, .int a1, .int a2])).length) Slot.unset).toArray = ls at hl ⊢
  have hl : lv_has ls 4 [(0, .ref a0), (1, .int a1), (2, .int a2)] := hl
  refine lv_iconst (v := 0) hx hb dX11_isLink_0 (by decide) (hp_n (n := 1) rfl ?_)
  have J2 : ∀ (nq : Nat) (Hh_1 : Heap) (Lh_1 : List Loc) (Bh_1 : hp_B Γ (cw w_X11_isLink) s α α Hh_1 Lh_1) (v3_h_1 : Int32) (ih_1_0 : 0 ≤ v3_h_1.toInt) (ls : Array Slot) (hl : lv_has ls 4 [(0, .ref a0), (1, .int a1), (2, .int a2), (3, .int v3_h_1)]) (hmu2 : (2147483647 - v3_h_1.toInt).toNat = nq), W p l e (hp_rm 0 0 0) s m ([.ref a0, .int a1, .int a2] : List Value).toArray below meth c Hh_1 Lh_1 0 0 (MQ below (hp_Qi Γ (fun r β => β = α ∧ (r = 0 ∨ r = 1))) ([.ref a0, .int a1, .int a2] : List Value).toArray s 0 0 (hp_A Γ)) (F0 m 2 ls []) := by
    intro nq
    induction nq using Nat.strongRecOn with
    | ind nq ih2 =>
    intro Hh_1 Lh_1 Bh_1 v3_h_1 ih_1_0 ls hl hmu2
    have inv2_0 := ih_1_0
    refine lv_iload_n hx hb dX11_isLink_2 rfl (lv_at hl 3 rfl) (hp_n (n := 3) rfl ?_)
    refine lv_iload_n hx hb dX11_isLink_3 rfl (lv_at hl 2 rfl) (hp_n (n := 4) rfl ?_)
    refine lv_icmp_ge (tgt := 34) hx hb dX11_isLink_4 (by decide) (fun c_2 => ?_) (fun c_2 => hp_n (n := 7) rfl ?_)
    ·
      have jc_2 := il_le c_2
      refine lv_iconst (v := 0) hx hb dX11_isLink_34 (by decide) (hp_n (n := 35) rfl ?_)
      exact q_zret C Bh_1 hr hlk (by decide) ⟨rfl, (Or.inl rfl)⟩ dX11_isLink_35
    ·
      have jc_2 := il_nle c_2
      refine lv_iload_n hx hb dX11_isLink_7 rfl (lv_at hl 3 rfl) (hp_n (n := 8) rfl ?_)
      refine lv_aload_n hx hb dX11_isLink_8 rfl (lv_at hl 0 rfl) (hp_n (n := 9) rfl ?_)
      refine q_getr (κ := 12) (k := 17) (φ := 617) (pc' := 12) C Bh_1 (cw_k Bh_1.2.2 k0) fl_X11_86 rfl rfl rfl (cw_r Bh_1.2.2 k0 rfl rfl (by decide) (by decide)) dX11_isLink_9 rfl (fun b_3 eb_3 kb_3 => ?_)
      refine q_alen (κ := 26) (t := 0) (n := 256) (x := 256) (ty := .int) (pc' := 13) C Bh_1 (cw_k Bh_1.2.2 kb_3) (by decide) rfl rfl rfl dX11_isLink_12 rfl ?_
      refine lv_icmp_ge (tgt := 34) hx hb dX11_isLink_13 (by decide) (fun c_4 => ?_) (fun c_4 => hp_n (n := 16) rfl ?_)
      ·
        have jc_4 := il_le c_4
        refine lv_iconst (v := 0) hx hb dX11_isLink_34 (by decide) (hp_n (n := 35) rfl ?_)
        exact q_zret C Bh_1 hr hlk (by decide) ⟨rfl, (Or.inl rfl)⟩ dX11_isLink_35
      ·
        have jc_4 := il_nle c_4
        refine lv_aload_n hx hb dX11_isLink_16 rfl (lv_at hl 0 rfl) (hp_n (n := 17) rfl ?_)
        refine q_gets (κ := 12) (k := 17) (φ := 617) (pc' := 20) C Bh_1 (cw_k Bh_1.2.2 k0) fl_X11_86 rfl rfl rfl eb_3 dX11_isLink_17 rfl ?_
        refine lv_iload_n hx hb dX11_isLink_20 rfl (lv_at hl 3 rfl) (hp_n (n := 21) rfl ?_)
        refine q_ial (κ := 26) (n := 256) (pc' := 22) C Bh_1 (cw_k Bh_1.2.2 kb_3) (by decide) rfl (vi_of (by omega) (by omega)) dX11_isLink_21 rfl (lv_topi (fun x_5 ex_5 => ?_))
        refine lv_iload_n hx hb dX11_isLink_22 rfl (lv_at hl 1 rfl) (hp_n (n := 23) rfl ?_)
        refine lv_icmp_ne (tgt := 28) hx hb dX11_isLink_23 (by decide) (fun c_6 => ?_) (fun c_6 => hp_n (n := 26) rfl ?_)
        ·
          have jc_6 := il_ne c_6
          obtain ⟨x_7, ex_7⟩ : ∃ y : Int32, y = v3_h_1 + 1 := ⟨_, rfl⟩
          have qx_7 : x_7.toInt = v3_h_1.toInt + 1 := by have q0 := ib_hi a2; have qa := ib_lo v3_h_1; rw [ex_7]; exact ii_add (by omega) (by omega)
          refine lv_iinc (v := x_7) (lv' := [(3, .int x_7), (0, .ref a0), (1, .int a1), (2, .int a2)]) hx hb dX11_isLink_28 hl (k := 3) rfl (by rw [ex_7]; rfl) (by decide) rfl (fun ls hl => hp_n (n := 31) rfl ?_)
          refine lv_goto (tgt := 2) hx hb dX11_isLink_31 (by decide) ?_
          exact ih2 _ (by have q0 := ib_hi a2; have q1 := ib_lo a2; have qa := ib_hi v3_h_1; have qb := ib_lo v3_h_1; have qc : (v3_h_1 + 1).toInt = v3_h_1.toInt + (1 : Int32).toInt := ii_add (by omega) (by omega); rw [ex_7]; omega) Hh_1 Lh_1 Bh_1 x_7 (by omega) ls (lv_sub hl [1, 2, 3, 0] rfl) rfl
        ·
          have jc_6 := il_eq c_6
          refine lv_iconst (v := 1) hx hb dX11_isLink_26 (by decide) (hp_n (n := 27) rfl ?_)
          exact q_zret C Bh_1 hr hlk (by decide) ⟨rfl, (Or.inr rfl)⟩ dX11_isLink_27
  refine lv_istore_n (lv' := [(3, .int 0), (0, .ref a0), (1, .int a1), (2, .int a2)]) hx hb dX11_isLink_1 rfl hl (by decide) rfl (fun ls hl => hp_n (n := 2) rfl ?_)
  exact J2 _ s.heap [] B 0 (by omega) ls (lv_sub hl [1, 2, 3, 0] rfl) rfl
abbrev w_X11_addLinks : cw_W := ([], [], [26], [])
set_option maxRecDepth 100000 in
set_option maxHeartbeats 4000000 in
theorem t_X11_addLinks (Γ : hp_G) (l : Launch) (α : hp_T) (g : GC α) (a0 : Nat) (k0 : hp_K α a0 = 12) (a1 : Int32) : Met l yX11_addLinks (hp_ws yX11_addLinks cX11_addLinks 5 (some .int)) (hp_rm 1 0 0) (hp_Pc Γ α [.ref a0, .int a1]) (hp_Qi Γ (fun r β => cw w_X11_addLinks α β)) 0 0 (hp_A Γ) := by
  refine hp_start (by decide) ?_
  intro p e s m below meth c C hr hlk B0 hnm
  have C : hp_C Γ p m c cX11_addLinks 5 s ([.ref a0, .int a1] : List Value).toArray RX11 := C
  have hx := C.1.1
  have hb := C.1.2.1
  have hown := C.1.2.2.2.1
  have hts := C.1.2.2.2.2
  have B : hp_B Γ (cw w_X11_addLinks) s α α s.heap [] := ⟨B0.1, B0.2.1, cw_rf g⟩
  have lit0 : (0 : Int32).toInt = 0 := by decide
  have lit1 : (1 : Int32).toInt = 1 := by decide
  have lit64 : (64 : Int32).toInt = 64 := by decide
  have lit256 : (256 : Int32).toInt = 256 := by decide
  have hl := lv_entry ([.ref a0, .int a1]) (n := 5) (Nat.le_of_ble_eq_true rfl)
  show W p l e (hp_rm 1 0 0) s m ([.ref a0, .int a1] : List Value).toArray below meth c s.heap [] 0 0 (MQ below (hp_Qi Γ (fun r β => cw w_X11_addLinks α β)) ([.ref a0, .int a1] : List Value).toArray s 0 0 (hp_A Γ)) (entryFrame m ([.ref a0, .int a1] : List Value).toArray 5)
  rw [lg_entry_eq]
  generalize (lg_sl ([.ref a0, .int a1]) ++ List.replicate (5 - (lg_sl ([.ref a0, .int a1])).length) Slot.unset).toArray = ls at hl ⊢
  have hl : lv_has ls 5 [(0, .ref a0), (1, .int a1)] := hl
  refine lv_iload_n hx hb dX11_addLinks_0 rfl (lv_at hl 1 rfl) (hp_n (n := 1) rfl ?_)
  refine lv_istore_n (lv' := [(2, .int a1), (0, .ref a0), (1, .int a1)]) hx hb dX11_addLinks_1 rfl hl (by decide) rfl (fun ls hl => hp_n (n := 2) rfl ?_)
  refine lv_iconst (v := 0) hx hb dX11_addLinks_2 (by decide) (hp_n (n := 3) rfl ?_)
  have J4 : ∀ (nq : Nat) (αh_1 : hp_T) (Hh_1 : Heap) (Lh_1 : List Loc) (Bh_1 : hp_B Γ (cw w_X11_addLinks) s α αh_1 Hh_1 Lh_1) (v2_h_1 : Int32) (v3_h_1 : Int32) (ih_1_0 : 0 ≤ v3_h_1.toInt) (ls : Array Slot) (hl : lv_has ls 5 [(0, .ref a0), (2, .int v2_h_1), (3, .int v3_h_1)]) (hmu4 : (2147483647 - v3_h_1.toInt).toNat = nq), W p l e (hp_rm 1 0 0) s m ([.ref a0, .int a1] : List Value).toArray below meth c Hh_1 Lh_1 0 0 (MQ below (hp_Qi Γ (fun r β => cw w_X11_addLinks α β)) ([.ref a0, .int a1] : List Value).toArray s 0 0 (hp_A Γ)) (F0 m 4 ls []) := by
    intro nq
    induction nq using Nat.strongRecOn with
    | ind nq ih4 =>
    intro αh_1 Hh_1 Lh_1 Bh_1 v2_h_1 v3_h_1 ih_1_0 ls hl hmu4
    have inv4_0 := ih_1_0
    refine lv_iload_n hx hb dX11_addLinks_4 rfl (lv_at hl 2 rfl) (hp_n (n := 5) rfl ?_)
    refine lv_aload_n hx hb dX11_addLinks_5 rfl (lv_at hl 0 rfl) (hp_n (n := 6) rfl ?_)
    refine q_getr (κ := 12) (k := 12) (φ := 612) (pc' := 9) C Bh_1 (cw_k Bh_1.2.2 k0) fl_X11_62 rfl rfl rfl (cw_r Bh_1.2.2 k0 rfl rfl (by decide) (by decide)) dX11_addLinks_6 rfl (fun b_2 eb_2 kb_2 => ?_)
    refine q_geti (κ := 9) (k := 3) (φ := 453) (pc' := 12) C Bh_1 (cw_k Bh_1.2.2 kb_2) fl_X11_312 rfl rfl rfl dX11_addLinks_9 rfl (fun x_3 ex_3 => ?_)
    obtain ⟨gx_3a, gx_3b⟩ : 0 ≤ x_3.toInt ∧ x_3.toInt ≤ 64 := by rw [ex_3]; exact Bh_1.2.2.1.1 453 b_2 rfl
    refine lv_icmp_ge (tgt := 77) hx hb dX11_addLinks_12 (by decide) (fun c_4 => ?_) (fun c_4 => hp_n (n := 15) rfl ?_)
    ·
      have jc_4 := il_le c_4
      refine lv_iload_n hx hb dX11_addLinks_77 rfl (lv_at hl 1 rfl) (hp_n (n := 78) rfl ?_)
      exact q_iret C Bh_1 hr hlk Bh_1.2.2 dX11_addLinks_78
    ·
      have jc_4 := il_nle c_4
      refine lv_aload_n hx hb dX11_addLinks_15 rfl (lv_at hl 0 rfl) (hp_n (n := 16) rfl ?_)
      refine q_gets (κ := 12) (k := 12) (φ := 612) (pc' := 19) C Bh_1 (cw_k Bh_1.2.2 k0) fl_X11_62 rfl rfl rfl eb_2 dX11_addLinks_16 rfl ?_
      refine lv_iload_n hx hb dX11_addLinks_19 rfl (lv_at hl 2 rfl) (hp_n (n := 20) rfl ?_)
      refine q_ci (pc' := 23) Bh_1 (hp_runV (As := [.int v3_h_1]) (rest := []) C Bh_1 (t_X8_firstAt Γ l αh_1 Bh_1.2.2.1 b_2 (cw_k Bh_1.2.2 kb_2) v3_h_1) lb_X8_firstAt lv_X8_firstAt lk_X11_333 (cw_k Bh_1.2.2 kb_2) rfl (by decide) rfl hl.1 rfl (Nat.le_of_ble_eq_true rfl) dX11_addLinks_20 ⟨Nat.le_refl _, Nat.le_refl _⟩) (fun _ _ h => by rw [h]; exact Bh_1.2.2) rfl (fun rh_5 αh_5 Hh_5 Lh_5 ph_5 Bh_5 => ?_)
      rw [ph_5] at Bh_5
      refine lv_bipush (v := 64) hx hb dX11_addLinks_23 (by decide) (hp_n (n := 25) rfl ?_)
      refine lv_imul hx hb dX11_addLinks_25 (hp_n (n := 26) rfl (lv_topi (fun x_6 ex_6 => ?_)))
      refine lv_aload_n hx hb dX11_addLinks_26 rfl (lv_at hl 0 rfl) (hp_n (n := 27) rfl ?_)
      refine q_gets (κ := 12) (k := 12) (φ := 612) (pc' := 30) C Bh_5 (cw_k Bh_5.2.2 k0) fl_X11_62 rfl rfl rfl eb_2 dX11_addLinks_27 rfl ?_
      refine lv_iload_n hx hb dX11_addLinks_30 rfl (lv_at hl 2 rfl) (hp_n (n := 31) rfl ?_)
      refine q_ci (pc' := 34) Bh_5 (hp_runV (As := [.int v3_h_1]) (rest := [.int x_6]) C Bh_5 (t_X8_manyAt Γ l αh_1 Bh_5.2.2.1 b_2 (cw_k Bh_5.2.2 kb_2) v3_h_1) lb_X8_manyAt lv_X8_manyAt lk_X11_336 (cw_k Bh_5.2.2 kb_2) rfl (by decide) rfl hl.1 rfl (Nat.le_of_ble_eq_true rfl) dX11_addLinks_31 ⟨Nat.le_refl _, Nat.le_refl _⟩) (fun _ _ h => by rw [h]; exact Bh_5.2.2) rfl (fun rh_7 αh_7 Hh_7 Lh_7 ph_7 Bh_7 => ?_)
      rw [ph_7] at Bh_7
      refine lv_iadd hx hb dX11_addLinks_34 (hp_n (n := 35) rfl (lv_topi (fun x_8 ex_8 => ?_)))
      refine lv_istore (lv' := [(4, .int x_8), (0, .ref a0), (2, .int v2_h_1), (3, .int v3_h_1)]) hx hb dX11_addLinks_35 hl (by decide) rfl (fun ls hl => hp_n (n := 37) rfl ?_)
      refine lv_aload_n hx hb dX11_addLinks_37 rfl (lv_at hl 1 rfl) (hp_n (n := 38) rfl ?_)
      refine lv_iload hx hb dX11_addLinks_38 (lv_at hl 0 rfl) (hp_n (n := 40) rfl ?_)
      refine lv_iload_n hx hb dX11_addLinks_40 rfl (lv_at hl 2 rfl) (hp_n (n := 41) rfl ?_)
      refine q_ci (pc' := 44) Bh_7 (hp_runV (As := [.int x_8, .int v2_h_1]) (rest := []) C Bh_7 (t_X11_isLink Γ l αh_1 Bh_7.2.2.1 a0 (cw_k Bh_7.2.2 k0) x_8 v2_h_1) lb_X11_isLink lv_X11_isLink lk_X11_482 (cw_k Bh_7.2.2 k0) rfl (by decide) rfl hl.1 rfl (Nat.le_of_ble_eq_true rfl) dX11_addLinks_41 ⟨Nat.le_refl _, Nat.le_refl _⟩) (fun _ _ h => by rw [h.1]; exact Bh_7.2.2) rfl (fun rh_9 αh_9 Hh_9 Lh_9 ph_9 Bh_9 => ?_)
      rw [ph_9.1] at Bh_9
      have zh_9 := ph_9.2
      refine lv_if_ne (tgt := 71) hx hb dX11_addLinks_44 (by decide) (fun c_10 => ?_) (fun c_10 => hp_n (n := 47) rfl ?_)
      ·
        have jc_10 := il_ne c_10
        obtain ⟨x_11, ex_11⟩ : ∃ y : Int32, y = v3_h_1 + 1 := ⟨_, rfl⟩
        have qx_11 : x_11.toInt = v3_h_1.toInt + 1 := by have q0 := ib_hi x_3; have qa := ib_lo v3_h_1; rw [ex_11]; exact ii_add (by omega) (by omega)
        refine lv_iinc (v := x_11) (lv' := [(3, .int x_11), (4, .int x_8), (0, .ref a0), (2, .int v2_h_1)]) hx hb dX11_addLinks_71 hl (k := 3) rfl (by rw [ex_11]; rfl) (by decide) rfl (fun ls hl => hp_n (n := 74) rfl ?_)
        refine lv_goto (tgt := 4) hx hb dX11_addLinks_74 (by decide) ?_
        exact ih4 _ (by have q0 := ib_hi x_3; have q1 := ib_lo x_3; have qa := ib_hi v3_h_1; have qb := ib_lo v3_h_1; have qc : (v3_h_1 + 1).toInt = v3_h_1.toInt + (1 : Int32).toInt := ii_add (by omega) (by omega); rw [ex_11]; omega) αh_1 Hh_9 Lh_9 Bh_9 v2_h_1 x_11 (by omega) ls (lv_sub hl [2, 3, 0] rfl) rfl
      ·
        have jc_10 := il_eq c_10
        refine lv_iload_n hx hb dX11_addLinks_47 rfl (lv_at hl 2 rfl) (hp_n (n := 48) rfl ?_)
        refine lv_if_lt (tgt := 71) hx hb dX11_addLinks_48 (by decide) (fun c_12 => ?_) (fun c_12 => hp_n (n := 51) rfl ?_)
        ·
          have jc_12 := il_lt c_12
          obtain ⟨x_13, ex_13⟩ : ∃ y : Int32, y = v3_h_1 + 1 := ⟨_, rfl⟩
          have qx_13 : x_13.toInt = v3_h_1.toInt + 1 := by have q0 := ib_hi x_3; have qa := ib_lo v3_h_1; rw [ex_13]; exact ii_add (by omega) (by omega)
          refine lv_iinc (v := x_13) (lv' := [(3, .int x_13), (4, .int x_8), (0, .ref a0), (2, .int v2_h_1)]) hx hb dX11_addLinks_71 hl (k := 3) rfl (by rw [ex_13]; rfl) (by decide) rfl (fun ls hl => hp_n (n := 74) rfl ?_)
          refine lv_goto (tgt := 4) hx hb dX11_addLinks_74 (by decide) ?_
          exact ih4 _ (by have q0 := ib_hi x_3; have q1 := ib_lo x_3; have qa := ib_hi v3_h_1; have qb := ib_lo v3_h_1; have qc : (v3_h_1 + 1).toInt = v3_h_1.toInt + (1 : Int32).toInt := ii_add (by omega) (by omega); rw [ex_13]; omega) αh_1 Hh_9 Lh_9 Bh_9 v2_h_1 x_13 (by omega) ls (lv_sub hl [2, 3, 0] rfl) rfl
        ·
          have jc_12 := il_nlt c_12
          refine lv_iload_n hx hb dX11_addLinks_51 rfl (lv_at hl 2 rfl) (hp_n (n := 52) rfl ?_)
          refine lv_aload_n hx hb dX11_addLinks_52 rfl (lv_at hl 1 rfl) (hp_n (n := 53) rfl ?_)
          refine q_getr (κ := 12) (k := 17) (φ := 617) (pc' := 56) C Bh_9 (cw_k Bh_9.2.2 k0) fl_X11_86 rfl rfl rfl (cw_r Bh_9.2.2 k0 rfl rfl (by decide) (by decide)) dX11_addLinks_53 rfl (fun b_14 eb_14 kb_14 => ?_)
          refine q_alen (κ := 26) (t := 0) (n := 256) (x := 256) (ty := .int) (pc' := 57) C Bh_9 (cw_k Bh_9.2.2 kb_14) (by decide) rfl rfl rfl dX11_addLinks_56 rfl ?_
          refine lv_icmp_ge (tgt := 71) hx hb dX11_addLinks_57 (by decide) (fun c_15 => ?_) (fun c_15 => hp_n (n := 60) rfl ?_)
          ·
            have jc_15 := il_le c_15
            obtain ⟨x_16, ex_16⟩ : ∃ y : Int32, y = v3_h_1 + 1 := ⟨_, rfl⟩
            have qx_16 : x_16.toInt = v3_h_1.toInt + 1 := by have q0 := ib_hi x_3; have qa := ib_lo v3_h_1; rw [ex_16]; exact ii_add (by omega) (by omega)
            refine lv_iinc (v := x_16) (lv' := [(3, .int x_16), (4, .int x_8), (0, .ref a0), (2, .int v2_h_1)]) hx hb dX11_addLinks_71 hl (k := 3) rfl (by rw [ex_16]; rfl) (by decide) rfl (fun ls hl => hp_n (n := 74) rfl ?_)
            refine lv_goto (tgt := 4) hx hb dX11_addLinks_74 (by decide) ?_
            exact ih4 _ (by have q0 := ib_hi x_3; have q1 := ib_lo x_3; have qa := ib_hi v3_h_1; have qb := ib_lo v3_h_1; have qc : (v3_h_1 + 1).toInt = v3_h_1.toInt + (1 : Int32).toInt := ii_add (by omega) (by omega); rw [ex_16]; omega) αh_1 Hh_9 Lh_9 Bh_9 v2_h_1 x_16 (by omega) ls (lv_sub hl [2, 3, 0] rfl) rfl
          ·
            have jc_15 := il_nle c_15
            refine lv_aload_n hx hb dX11_addLinks_60 rfl (lv_at hl 1 rfl) (hp_n (n := 61) rfl ?_)
            refine q_gets (κ := 12) (k := 17) (φ := 617) (pc' := 64) C Bh_9 (cw_k Bh_9.2.2 k0) fl_X11_86 rfl rfl rfl eb_14 dX11_addLinks_61 rfl ?_
            refine lv_iload_n hx hb dX11_addLinks_64 rfl (lv_at hl 2 rfl) (hp_n (n := 65) rfl ?_)
            refine lv_iload hx hb dX11_addLinks_65 (lv_at hl 0 rfl) (hp_n (n := 67) rfl ?_)
            refine q_ias (κ := 26) (n := 256) (pc' := 68) C Bh_9 (cw_k Bh_9.2.2 kb_14) (by decide) rfl (vi_of (by omega) (by omega)) rfl (cw_sE Bh_9.2.2 (by decide)) dX11_addLinks_67 rfl (fun αh_17 Hh_17 Lh_17 eh_17 Bh_17 => ?_)
            obtain ⟨x_18, ex_18⟩ : ∃ y : Int32, y = v2_h_1 + 1 := ⟨_, rfl⟩
            have qx_18 : x_18.toInt = v2_h_1.toInt + 1 := by have qa := ib_lo v2_h_1; rw [ex_18]; exact ii_add (by omega) (by omega)
            refine lv_iinc (v := x_18) (lv' := [(2, .int x_18), (4, .int x_8), (0, .ref a0), (3, .int v3_h_1)]) hx hb dX11_addLinks_68 hl (k := 2) rfl (by rw [ex_18]; rfl) (by decide) rfl (fun ls hl => hp_n (n := 71) rfl ?_)
            obtain ⟨x_19, ex_19⟩ : ∃ y : Int32, y = v3_h_1 + 1 := ⟨_, rfl⟩
            have qx_19 : x_19.toInt = v3_h_1.toInt + 1 := by have q0 := ib_hi x_3; have qa := ib_lo v3_h_1; rw [ex_19]; exact ii_add (by omega) (by omega)
            refine lv_iinc (v := x_19) (lv' := [(3, .int x_19), (2, .int x_18), (4, .int x_8), (0, .ref a0)]) hx hb dX11_addLinks_71 hl (k := 3) rfl (by rw [ex_19]; rfl) (by decide) rfl (fun ls hl => hp_n (n := 74) rfl ?_)
            refine lv_goto (tgt := 4) hx hb dX11_addLinks_74 (by decide) ?_
            exact ih4 _ (by have q0 := ib_hi x_3; have q1 := ib_lo x_3; have qa := ib_hi v3_h_1; have qb := ib_lo v3_h_1; have qc : (v3_h_1 + 1).toInt = v3_h_1.toInt + (1 : Int32).toInt := ii_add (by omega) (by omega); rw [ex_19]; omega) αh_17 Hh_17 Lh_17 Bh_17 x_18 x_19 (by omega) ls (lv_sub hl [3, 1, 0] rfl) rfl
  refine lv_istore_n (lv' := [(3, .int 0), (2, .int a1), (0, .ref a0), (1, .int a1)]) hx hb dX11_addLinks_3 rfl hl (by decide) rfl (fun ls hl => hp_n (n := 4) rfl ?_)
  exact J4 _ α s.heap [] B a1 0 (by omega) ls (lv_sub hl [2, 1, 0] rfl) rfl
abbrev w_X11_chain : cw_W := ([453, 454, 600], [], [21, 22, 23, 26], [])
set_option maxRecDepth 100000 in
set_option maxHeartbeats 4000000 in
theorem t_X11_chain (Γ : hp_G) (l : Launch) (α : hp_T) (g : GC α) (a0 : Nat) (k0 : hp_K α a0 = 12) (a1 : Int32) (a2 : Int32) : Met l yX11_chain (hp_ws yX11_chain cX11_chain 9 (some .int)) (hp_rm 4 0 0) (hp_Pc Γ α [.ref a0, .int a1, .int a2]) (hp_Qi Γ (fun r β => cw w_X11_chain α β)) 0 0 (hp_A Γ) := by
  refine hp_start (by decide) ?_
  intro p e s m below meth c C hr hlk B0 hnm
  have C : hp_C Γ p m c cX11_chain 9 s ([.ref a0, .int a1, .int a2] : List Value).toArray RX11 := C
  have hx := C.1.1
  have hb := C.1.2.1
  have hown := C.1.2.2.2.1
  have hts := C.1.2.2.2.2
  have B : hp_B Γ (cw w_X11_chain) s α α s.heap [] := ⟨B0.1, B0.2.1, cw_rf g⟩
  have litm1 : ((-1) : Int32).toInt = (-1) := by decide
  have lit0 : (0 : Int32).toInt = 0 := by decide
  have lit1 : (1 : Int32).toInt = 1 := by decide
  have lit2 : (2 : Int32).toInt = 2 := by decide
  have lit16 : (16 : Int32).toInt = 16 := by decide
  have hl := lv_entry ([.ref a0, .int a1, .int a2]) (n := 9) (Nat.le_of_ble_eq_true rfl)
  show W p l e (hp_rm 4 0 0) s m ([.ref a0, .int a1, .int a2] : List Value).toArray below meth c s.heap [] 0 0 (MQ below (hp_Qi Γ (fun r β => cw w_X11_chain α β)) ([.ref a0, .int a1, .int a2] : List Value).toArray s 0 0 (hp_A Γ)) (entryFrame m ([.ref a0, .int a1, .int a2] : List Value).toArray 9)
  rw [lg_entry_eq]
  generalize (lg_sl ([.ref a0, .int a1, .int a2]) ++ List.replicate (9 - (lg_sl ([.ref a0, .int a1, .int a2])).length) Slot.unset).toArray = ls at hl ⊢
  have hl : lv_has ls 9 [(0, .ref a0), (1, .int a1), (2, .int a2)] := hl
  refine lv_iload_n hx hb dX11_chain_0 rfl (lv_at hl 2 rfl) (hp_n (n := 1) rfl ?_)
  have J9 : ∀ (Hh_1 : Heap) (Lh_1 : List Loc) (Bh_1 : hp_B Γ (cw w_X11_chain) s α α Hh_1 Lh_1) (ls : Array Slot) (hl : lv_has ls 9 [(0, .ref a0)]), W p l e (hp_rm 4 0 0) s m ([.ref a0, .int a1, .int a2] : List Value).toArray below meth c Hh_1 Lh_1 0 0 (MQ below (hp_Qi Γ (fun r β => cw w_X11_chain α β)) ([.ref a0, .int a1, .int a2] : List Value).toArray s 0 0 (hp_A Γ)) (F0 m 9 ls []) := by
    intro Hh_1 Lh_1 Bh_1 ls hl
    refine lv_aload_n hx hb dX11_chain_9 rfl (lv_at hl 0 rfl) (hp_n (n := 10) rfl ?_)
    refine lv_iconst (v := 1) hx hb dX11_chain_10 (by decide) (hp_n (n := 11) rfl ?_)
    refine q_ci (pc' := 14) Bh_1 (hp_runV (As := [.int 1]) (rest := []) C Bh_1 (t_X11_refuse Γ l α Bh_1.2.2.1 a0 (cw_k Bh_1.2.2 k0) 1) lb_X11_refuse lv_X11_refuse lk_X11_98 (cw_k Bh_1.2.2 k0) rfl (by decide) rfl hl.1 rfl (Nat.le_of_ble_eq_true rfl) dX11_chain_11 ⟨Nat.le_refl _, Nat.le_refl _⟩) (fun _ _ h => cw_tr Bh_1.2.2 h (by decide)) rfl (fun rh_2 αh_2 Hh_2 Lh_2 ph_2 Bh_2 => ?_)
    exact q_iret C Bh_2 hr hlk Bh_2.2.2 dX11_chain_14
  refine lv_if_lt (tgt := 9) hx hb dX11_chain_1 (by decide) (fun c_3 => ?_) (fun c_3 => hp_n (n := 4) rfl ?_)
  ·
    have jc_3 := il_lt c_3
    exact J9 s.heap [] B ls (lv_sub hl [0] rfl)
  ·
    have jc_3 := il_nlt c_3
    refine lv_iload_n hx hb dX11_chain_4 rfl (lv_at hl 2 rfl) (hp_n (n := 5) rfl ?_)
    refine lv_iconst (v := 2) hx hb dX11_chain_5 (by decide) (hp_n (n := 6) rfl ?_)
    refine lv_icmp_le (tgt := 15) hx hb dX11_chain_6 (by decide) (fun c_4 => ?_) (fun c_4 => hp_n (n := 9) rfl ?_)
    ·
      have jc_4 := il_le c_4
      refine lv_aload_n hx hb dX11_chain_15 rfl (lv_at hl 0 rfl) (hp_n (n := 16) rfl ?_)
      refine q_getr (κ := 12) (k := 1) (φ := 601) (pc' := 19) C B (cw_k B.2.2 k0) fl_X11_16 rfl rfl rfl (cw_r B.2.2 k0 rfl rfl (by decide) (by decide)) dX11_chain_16 rfl (fun b_5 eb_5 kb_5 => ?_)
      refine lv_iload_n hx hb dX11_chain_19 rfl (lv_at hl 1 rfl) (hp_n (n := 20) rfl ?_)
      refine q_cq (pc' := 23) B (hp_runV (As := [.int a1]) (rest := []) C B (t_X10_logAt Γ l α B.2.2.1 b_5 (cw_k B.2.2 kb_5) a1) lb_X10_logAt lv_X10_logAt lk_X11_163 (cw_k B.2.2 kb_5) rfl (by decide) rfl hl.1 rfl (Nat.le_of_ble_eq_true rfl) dX11_chain_20 ⟨Nat.le_refl _, Nat.le_refl _⟩) (fun _ _ h => by rw [h.1]; exact B.2.2) rfl (fun rh_6 αh_6 Hh_6 Lh_6 ph_6 Bh_6 => ?_)
      rw [ph_6.1] at Bh_6
      rcases rh_6 with _ | bh_6
      ·
        refine lv_ifnonnullN hx hb dX11_chain_23 (hp_n (n := 26) rfl ?_)
        refine lv_aload_n hx hb dX11_chain_26 rfl (lv_at hl 0 rfl) (hp_n (n := 27) rfl ?_)
        refine lv_iconst (v := 2) hx hb dX11_chain_27 (by decide) (hp_n (n := 28) rfl ?_)
        refine q_ci (pc' := 31) Bh_6 (hp_runV (As := [.int 2]) (rest := []) C Bh_6 (t_X11_refuse Γ l α Bh_6.2.2.1 a0 (cw_k Bh_6.2.2 k0) 2) lb_X11_refuse lv_X11_refuse lk_X11_98 (cw_k Bh_6.2.2 k0) rfl (by decide) rfl hl.1 rfl (Nat.le_of_ble_eq_true rfl) dX11_chain_28 ⟨Nat.le_refl _, Nat.le_refl _⟩) (fun _ _ h => cw_tr Bh_6.2.2 h (by decide)) rfl (fun rh_7 αh_7 Hh_7 Lh_7 ph_7 Bh_7 => ?_)
        exact q_iret C Bh_7 hr hlk Bh_7.2.2 dX11_chain_31
      ·
        have kbh_6 : hp_K α bh_6 = 3 := cw_k' Bh_6.2.2 (ph_6.2 bh_6 rfl)
        refine lv_ifnonnull (tgt := 32) hx hb dX11_chain_23 (by decide) ?_
        refine lv_iconst (v := 0) hx hb dX11_chain_32 (by decide) (hp_n (n := 33) rfl ?_)
        refine lv_istore_n (lv' := [(3, .int 0), (0, .ref a0), (1, .int a1), (2, .int a2)]) hx hb dX11_chain_33 rfl hl (by decide) rfl (fun ls hl => hp_n (n := 34) rfl ?_)
        refine lv_iconst (v := 0) hx hb dX11_chain_34 (by decide) (hp_n (n := 35) rfl ?_)
        refine lv_istore (lv' := [(4, .int 0), (3, .int 0), (0, .ref a0), (1, .int a1), (2, .int a2)]) hx hb dX11_chain_35 hl (by decide) rfl (fun ls hl => hp_n (n := 37) rfl ?_)
        refine lv_iconst (v := 0) hx hb dX11_chain_37 (by decide) (hp_n (n := 38) rfl ?_)
        refine lv_istore (lv' := [(5, .int 0), (4, .int 0), (3, .int 0), (0, .ref a0), (1, .int a1), (2, .int a2)]) hx hb dX11_chain_38 hl (by decide) rfl (fun ls hl => hp_n (n := 40) rfl ?_)
        refine lv_iconst (v := (-1)) hx hb dX11_chain_40 (by decide) (hp_n (n := 41) rfl ?_)
        refine lv_istore (lv' := [(6, .int (-1)), (5, .int 0), (4, .int 0), (3, .int 0), (0, .ref a0), (1, .int a1), (2, .int a2)]) hx hb dX11_chain_41 hl (by decide) rfl (fun ls hl => hp_n (n := 43) rfl ?_)
        refine lv_iconst (v := 0) hx hb dX11_chain_43 (by decide) (hp_n (n := 44) rfl ?_)
        have J46 : ∀ (nq : Nat) (αh_8 : hp_T) (Hh_8 : Heap) (Lh_8 : List Loc) (Bh_8 : hp_B Γ (cw w_X11_chain) s α αh_8 Hh_8 Lh_8) (v3_h_8 : Int32) (v4_h_8 : Int32) (v5_h_8 : Int32) (v6_h_8 : Int32) (v7_h_8 : Int32) (ih_8_0 : 0 ≤ v7_h_8.toInt) (ls : Array Slot) (hl : lv_has ls 9 [(0, .ref a0), (1, .int a1), (2, .int a2), (3, .int v3_h_8), (4, .int v4_h_8), (5, .int v5_h_8), (6, .int v6_h_8), (7, .int v7_h_8)]) (hmu46 : (2147483647 - v7_h_8.toInt).toNat = nq), W p l e (hp_rm 4 0 0) s m ([.ref a0, .int a1, .int a2] : List Value).toArray below meth c Hh_8 Lh_8 0 0 (MQ below (hp_Qi Γ (fun r β => cw w_X11_chain α β)) ([.ref a0, .int a1, .int a2] : List Value).toArray s 0 0 (hp_A Γ)) (F0 m 46 ls []) := by
          intro nq
          induction nq using Nat.strongRecOn with
          | ind nq ih46 =>
          intro αh_8 Hh_8 Lh_8 Bh_8 v3_h_8 v4_h_8 v5_h_8 v6_h_8 v7_h_8 ih_8_0 ls hl hmu46
          have inv46_0 := ih_8_0
          refine lv_iload hx hb dX11_chain_46 (lv_at hl 7 rfl) (hp_n (n := 48) rfl ?_)
          refine lv_bipush (v := 16) hx hb dX11_chain_48 (by decide) (hp_n (n := 50) rfl ?_)
          have J124 : ∀ (Hh_9 : Heap) (Lh_9 : List Loc) (Bh_9 : hp_B Γ (cw w_X11_chain) s α αh_8 Hh_9 Lh_9) (ls : Array Slot) (hl : lv_has ls 9 [(0, .ref a0), (2, .int a2), (3, .int v3_h_8), (4, .int v4_h_8), (5, .int v5_h_8)]), W p l e (hp_rm 4 0 0) s m ([.ref a0, .int a1, .int a2] : List Value).toArray below meth c Hh_9 Lh_9 0 0 (MQ below (hp_Qi Γ (fun r β => cw w_X11_chain α β)) ([.ref a0, .int a1, .int a2] : List Value).toArray s 0 0 (hp_A Γ)) (F0 m 124 ls []) := by
            intro Hh_9 Lh_9 Bh_9 ls hl
            refine lv_iload_n hx hb dX11_chain_124 rfl (lv_at hl 1 rfl) (hp_n (n := 125) rfl ?_)
            refine lv_if_ne (tgt := 134) hx hb dX11_chain_125 (by decide) (fun c_10 => ?_) (fun c_10 => hp_n (n := 128) rfl ?_)
            ·
              have jc_10 := il_ne c_10
              refine lv_aload_n hx hb dX11_chain_134 rfl (lv_at hl 0 rfl) (hp_n (n := 135) rfl ?_)
              refine lv_iload_n hx hb dX11_chain_135 rfl (lv_at hl 1 rfl) (hp_n (n := 136) rfl ?_)
              refine lv_iconst (v := 1) hx hb dX11_chain_136 (by decide) (hp_n (n := 137) rfl ?_)
              refine lv_icmp_ne (tgt := 145) hx hb dX11_chain_137 (by decide) (fun c_11 => ?_) (fun c_11 => hp_n (n := 140) rfl ?_)
              ·
                have jc_11 := il_ne c_11
                refine lv_iload hx hb dX11_chain_145 (lv_at hl 4 rfl) (hp_n (n := 147) rfl ?_)
                refine q_ci (pc' := 150) Bh_9 (hp_runV (As := [.int v5_h_8]) (rest := []) C Bh_9 (t_X11_answer Γ l αh_8 Bh_9.2.2.1 a0 (cw_k Bh_9.2.2 k0) v5_h_8) lb_X11_answer lv_X11_answer lk_X11_115 (cw_k Bh_9.2.2 k0) rfl (by decide) rfl hl.1 rfl (Nat.le_of_ble_eq_true rfl) dX11_chain_147 ⟨Nat.le_refl _, Nat.le_refl _⟩) (fun _ _ h => cw_tr Bh_9.2.2 h (by decide)) rfl (fun rh_12 αh_12 Hh_12 Lh_12 ph_12 Bh_12 => ?_)
                exact q_iret C Bh_12 hr hlk Bh_12.2.2 dX11_chain_150
              ·
                have jc_11 := il_eq c_11
                refine lv_iload hx hb dX11_chain_140 (lv_at hl 3 rfl) (hp_n (n := 142) rfl ?_)
                refine lv_goto (tgt := 147) hx hb dX11_chain_142 (by decide) ?_
                refine q_ci (pc' := 150) Bh_9 (hp_runV (As := [.int v4_h_8]) (rest := []) C Bh_9 (t_X11_answer Γ l αh_8 Bh_9.2.2.1 a0 (cw_k Bh_9.2.2 k0) v4_h_8) lb_X11_answer lv_X11_answer lk_X11_115 (cw_k Bh_9.2.2 k0) rfl (by decide) rfl hl.1 rfl (Nat.le_of_ble_eq_true rfl) dX11_chain_147 ⟨Nat.le_refl _, Nat.le_refl _⟩) (fun _ _ h => cw_tr Bh_9.2.2 h (by decide)) rfl (fun rh_13 αh_13 Hh_13 Lh_13 ph_13 Bh_13 => ?_)
                exact q_iret C Bh_13 hr hlk Bh_13.2.2 dX11_chain_150
            ·
              have jc_10 := il_eq c_10
              refine lv_aload_n hx hb dX11_chain_128 rfl (lv_at hl 0 rfl) (hp_n (n := 129) rfl ?_)
              refine lv_iload_n hx hb dX11_chain_129 rfl (lv_at hl 2 rfl) (hp_n (n := 130) rfl ?_)
              refine q_ci (pc' := 133) Bh_9 (hp_runV (As := [.int v3_h_8]) (rest := []) C Bh_9 (t_X11_answer Γ l αh_8 Bh_9.2.2.1 a0 (cw_k Bh_9.2.2 k0) v3_h_8) lb_X11_answer lv_X11_answer lk_X11_115 (cw_k Bh_9.2.2 k0) rfl (by decide) rfl hl.1 rfl (Nat.le_of_ble_eq_true rfl) dX11_chain_130 ⟨Nat.le_refl _, Nat.le_refl _⟩) (fun _ _ h => cw_tr Bh_9.2.2 h (by decide)) rfl (fun rh_14 αh_14 Hh_14 Lh_14 ph_14 Bh_14 => ?_)
              exact q_iret C Bh_14 hr hlk Bh_14.2.2 dX11_chain_133
          refine lv_icmp_gt (tgt := 124) hx hb dX11_chain_50 (by decide) (fun c_15 => ?_) (fun c_15 => hp_n (n := 53) rfl ?_)
          ·
            have jc_15 := il_lt c_15
            exact J124 Hh_8 Lh_8 Bh_8 ls (lv_sub hl [0, 2, 3, 4, 5] rfl)
          ·
            have jc_15 := il_nlt c_15
            refine lv_aload_n hx hb dX11_chain_53 rfl (lv_at hl 0 rfl) (hp_n (n := 54) rfl ?_)
            refine q_getr (κ := 12) (k := 1) (φ := 601) (pc' := 57) C Bh_8 (cw_k Bh_8.2.2 k0) fl_X11_16 rfl rfl rfl (cw_r Bh_8.2.2 k0 rfl rfl (by decide) (by decide)) dX11_chain_54 rfl (fun b_16 eb_16 kb_16 => ?_)
            refine lv_iload_n hx hb dX11_chain_57 rfl (lv_at hl 1 rfl) (hp_n (n := 58) rfl ?_)
            refine lv_iload hx hb dX11_chain_58 (lv_at hl 6 rfl) (hp_n (n := 60) rfl ?_)
            refine q_ci (pc' := 63) Bh_8 (hp_runV (As := [.int a1, .int v6_h_8]) (rest := []) C Bh_8 (t_X10_leastFrozenAbove Γ l αh_8 Bh_8.2.2.1 b_16 (cw_k Bh_8.2.2 kb_16) a1 v6_h_8) lb_X10_leastFrozenAbove lv_X10_leastFrozenAbove lk_X11_403 (cw_k Bh_8.2.2 kb_16) rfl (by decide) rfl hl.1 rfl (Nat.le_of_ble_eq_true rfl) dX11_chain_60 ⟨Nat.le_refl _, Nat.le_refl _⟩) (fun _ _ h => by rw [h]; exact Bh_8.2.2) rfl (fun rh_17 αh_17 Hh_17 Lh_17 ph_17 Bh_17 => ?_)
            rw [ph_17] at Bh_17
            refine lv_istore (lv' := [(8, .int rh_17), (0, .ref a0), (1, .int a1), (2, .int a2), (3, .int v3_h_8), (4, .int v4_h_8), (5, .int v5_h_8), (6, .int v6_h_8), (7, .int v7_h_8)]) hx hb dX11_chain_63 hl (by decide) rfl (fun ls hl => hp_n (n := 65) rfl ?_)
            refine lv_iload hx hb dX11_chain_65 (lv_at hl 0 rfl) (hp_n (n := 67) rfl ?_)
            refine lv_iconst (v := (-1)) hx hb dX11_chain_67 (by decide) (hp_n (n := 68) rfl ?_)
            refine lv_icmp_ne (tgt := 74) hx hb dX11_chain_68 (by decide) (fun c_18 => ?_) (fun c_18 => hp_n (n := 71) rfl ?_)
            ·
              have jc_18 := il_ne c_18
              obtain ⟨x_19, ex_19⟩ : ∃ y : Int32, y = v3_h_8 + 1 := ⟨_, rfl⟩
              refine lv_iinc (v := x_19) (lv' := [(3, .int x_19), (8, .int rh_17), (0, .ref a0), (1, .int a1), (2, .int a2), (4, .int v4_h_8), (5, .int v5_h_8), (6, .int v6_h_8), (7, .int v7_h_8)]) hx hb dX11_chain_74 hl (k := 4) rfl (by rw [ex_19]; rfl) (by decide) rfl (fun ls hl => hp_n (n := 77) rfl ?_)
              refine lv_iload hx hb dX11_chain_77 (lv_at hl 7 rfl) (hp_n (n := 79) rfl ?_)
              refine lv_iconst (v := (-1)) hx hb dX11_chain_79 (by decide) (hp_n (n := 80) rfl ?_)
              refine lv_icmp_eq (tgt := 114) hx hb dX11_chain_80 (by decide) (fun c_20 => ?_) (fun c_20 => hp_n (n := 83) rfl ?_)
              ·
                have jc_20 := il_eq c_20
                refine lv_iload hx hb dX11_chain_114 (lv_at hl 1 rfl) (hp_n (n := 116) rfl ?_)
                refine lv_istore (lv' := [(6, .int rh_17), (3, .int x_19), (8, .int rh_17), (0, .ref a0), (1, .int a1), (2, .int a2), (4, .int v4_h_8), (5, .int v5_h_8), (7, .int v7_h_8)]) hx hb dX11_chain_116 hl (by decide) rfl (fun ls hl => hp_n (n := 118) rfl ?_)
                obtain ⟨x_21, ex_21⟩ : ∃ y : Int32, y = v7_h_8 + 1 := ⟨_, rfl⟩
                have qx_21 : x_21.toInt = v7_h_8.toInt + 1 := by have qa := ib_lo v7_h_8; rw [ex_21]; exact ii_add (by omega) (by omega)
                refine lv_iinc (v := x_21) (lv' := [(7, .int x_21), (6, .int rh_17), (3, .int x_19), (8, .int rh_17), (0, .ref a0), (1, .int a1), (2, .int a2), (4, .int v4_h_8), (5, .int v5_h_8)]) hx hb dX11_chain_118 hl (k := 8) rfl (by rw [ex_21]; rfl) (by decide) rfl (fun ls hl => hp_n (n := 121) rfl ?_)
                refine lv_goto (tgt := 46) hx hb dX11_chain_121 (by decide) ?_
                exact ih46 _ (by have qa := ib_hi v7_h_8; have qb := ib_lo v7_h_8; have qc : (v7_h_8 + 1).toInt = v7_h_8.toInt + (1 : Int32).toInt := ii_add (by omega) (by omega); rw [ex_21]; omega) αh_8 Hh_17 Lh_17 Bh_17 x_19 v4_h_8 v5_h_8 rh_17 x_21 (by omega) ls (lv_sub hl [4, 5, 6, 2, 7, 8, 1, 0] rfl) rfl
              ·
                have jc_20 := il_ne c_20
                refine lv_aload_n hx hb dX11_chain_83 rfl (lv_at hl 2 rfl) (hp_n (n := 84) rfl ?_)
                refine q_getr (κ := 12) (k := 12) (φ := 612) (pc' := 87) C Bh_17 (cw_k Bh_17.2.2 k0) fl_X11_62 rfl rfl rfl (cw_r Bh_17.2.2 k0 rfl rfl (by decide) (by decide)) dX11_chain_84 rfl (fun b_22 eb_22 kb_22 => ?_)
                refine lv_iload hx hb dX11_chain_87 (lv_at hl 7 rfl) (hp_n (n := 89) rfl ?_)
                refine lv_iload hx hb dX11_chain_89 (lv_at hl 1 rfl) (hp_n (n := 91) rfl ?_)
                refine q_cv (pc' := 94) Bh_17 (hp_runV (As := [.int v6_h_8, .int rh_17]) (rest := []) C Bh_17 (t_X8_toGrowth Γ l αh_8 Bh_17.2.2.1 b_22 (cw_k Bh_17.2.2 kb_22) v6_h_8 rh_17) lb_X8_toGrowth lv_X8_toGrowth lk_X11_274 (cw_k Bh_17.2.2 kb_22) rfl (by decide) rfl hl.1 rfl (Nat.le_of_ble_eq_true rfl) dX11_chain_91 ⟨Nat.le_refl _, Nat.le_refl _⟩) (fun _ h => cw_tr Bh_17.2.2 h (by decide)) rfl (fun αh_23 Hh_23 Lh_23 ph_23 Bh_23 => ?_)
                refine lv_iload hx hb dX11_chain_94 (lv_at hl 5 rfl) (hp_n (n := 96) rfl ?_)
                refine lv_aload_n hx hb dX11_chain_96 rfl (lv_at hl 2 rfl) (hp_n (n := 97) rfl ?_)
                have t_24 : b_22 = hp_R αh_23 612 a0 := by rw [cw_R ph_23 a0 (by decide)]; exact eb_22
                refine q_gets (κ := 12) (k := 12) (φ := 612) (pc' := 100) C Bh_23 (cw_k Bh_23.2.2 k0) fl_X11_62 rfl rfl rfl t_24 dX11_chain_97 rfl ?_
                refine q_geti (κ := 9) (k := 3) (φ := 453) (pc' := 103) C Bh_23 (cw_k Bh_23.2.2 kb_22) fl_X11_312 rfl rfl rfl dX11_chain_100 rfl (fun x_25 ex_25 => ?_)
                obtain ⟨gx_25a, gx_25b⟩ : 0 ≤ x_25.toInt ∧ x_25.toInt ≤ 64 := by rw [ex_25]; exact Bh_23.2.2.1.1 453 b_22 rfl
                refine lv_iadd hx hb dX11_chain_103 (hp_n (n := 104) rfl (lv_topi (fun x_26 ex_26 => ?_)))
                refine lv_istore (lv' := [(4, .int x_26), (3, .int x_19), (8, .int rh_17), (0, .ref a0), (1, .int a1), (2, .int a2), (5, .int v5_h_8), (6, .int v6_h_8), (7, .int v7_h_8)]) hx hb dX11_chain_104 hl (by decide) rfl (fun ls hl => hp_n (n := 106) rfl ?_)
                refine lv_aload_n hx hb dX11_chain_106 rfl (lv_at hl 3 rfl) (hp_n (n := 107) rfl ?_)
                refine lv_iload hx hb dX11_chain_107 (lv_at hl 6 rfl) (hp_n (n := 109) rfl ?_)
                refine q_ci (pc' := 112) Bh_23 (hp_runV (As := [.int v5_h_8]) (rest := []) C Bh_23 (t_X11_addLinks Γ l αh_23 Bh_23.2.2.1 a0 (cw_k Bh_23.2.2 k0) v5_h_8) lb_X11_addLinks lv_X11_addLinks lk_X11_406 (cw_k Bh_23.2.2 k0) rfl (by decide) rfl hl.1 rfl (Nat.le_of_ble_eq_true rfl) dX11_chain_109 ⟨Nat.le_refl _, Nat.le_refl _⟩) (fun _ _ h => cw_tr Bh_23.2.2 h (by decide)) rfl (fun rh_27 αh_27 Hh_27 Lh_27 ph_27 Bh_27 => ?_)
                refine lv_istore (lv' := [(5, .int rh_27), (4, .int x_26), (3, .int x_19), (8, .int rh_17), (0, .ref a0), (1, .int a1), (2, .int a2), (6, .int v6_h_8), (7, .int v7_h_8)]) hx hb dX11_chain_112 hl (by decide) rfl (fun ls hl => hp_n (n := 114) rfl ?_)
                refine lv_iload hx hb dX11_chain_114 (lv_at hl 3 rfl) (hp_n (n := 116) rfl ?_)
                refine lv_istore (lv' := [(6, .int rh_17), (5, .int rh_27), (4, .int x_26), (3, .int x_19), (8, .int rh_17), (0, .ref a0), (1, .int a1), (2, .int a2), (7, .int v7_h_8)]) hx hb dX11_chain_116 hl (by decide) rfl (fun ls hl => hp_n (n := 118) rfl ?_)
                obtain ⟨x_28, ex_28⟩ : ∃ y : Int32, y = v7_h_8 + 1 := ⟨_, rfl⟩
                have qx_28 : x_28.toInt = v7_h_8.toInt + 1 := by have qa := ib_lo v7_h_8; rw [ex_28]; exact ii_add (by omega) (by omega)
                refine lv_iinc (v := x_28) (lv' := [(7, .int x_28), (6, .int rh_17), (5, .int rh_27), (4, .int x_26), (3, .int x_19), (8, .int rh_17), (0, .ref a0), (1, .int a1), (2, .int a2)]) hx hb dX11_chain_118 hl (k := 8) rfl (by rw [ex_28]; rfl) (by decide) rfl (fun ls hl => hp_n (n := 121) rfl ?_)
                refine lv_goto (tgt := 46) hx hb dX11_chain_121 (by decide) ?_
                exact ih46 _ (by have qa := ib_hi v7_h_8; have qb := ib_lo v7_h_8; have qc : (v7_h_8 + 1).toInt = v7_h_8.toInt + (1 : Int32).toInt := ii_add (by omega) (by omega); rw [ex_28]; omega) αh_27 Hh_27 Lh_27 Bh_27 x_19 x_26 rh_27 rh_17 x_28 (by omega) ls (lv_sub hl [6, 7, 8, 4, 3, 2, 1, 0] rfl) rfl
            ·
              have jc_18 := il_eq c_18
              refine lv_goto (tgt := 124) hx hb dX11_chain_71 (by decide) ?_
              exact J124 Hh_17 Lh_17 Bh_17 ls (lv_sub hl [1, 3, 4, 5, 6] rfl)
        refine lv_istore (lv' := [(7, .int 0), (6, .int (-1)), (5, .int 0), (4, .int 0), (3, .int 0), (0, .ref a0), (1, .int a1), (2, .int a2)]) hx hb dX11_chain_44 hl (by decide) rfl (fun ls hl => hp_n (n := 46) rfl ?_)
        exact J46 _ α Hh_6 Lh_6 Bh_6 0 0 0 (-1) 0 (by omega) ls (lv_sub hl [5, 6, 7, 4, 3, 2, 1, 0] rfl) rfl
    ·
      have jc_4 := il_nle c_4
      exact J9 s.heap [] B ls (lv_sub hl [0] rfl)
abbrev w_X11_split : cw_W := ([600], [], [33], [])
set_option maxRecDepth 100000 in
set_option maxHeartbeats 4000000 in
theorem t_X11_split (Γ : hp_G) (l : Launch) (α : hp_T) (g : GC α) (a0 : Nat) (k0 : hp_K α a0 = 12) (a1 : Int32) : Met l yX11_split (hp_ws yX11_split cX11_split 6 (some .int)) (hp_rm 5 0 0) (hp_Pc Γ α [.ref a0, .int a1]) (hp_Qi Γ (fun r β => cw w_X11_split α β)) 0 0 (hp_A Γ) := by
  refine hp_start (by decide) ?_
  intro p e s m below meth c C hr hlk B0 hnm
  have C : hp_C Γ p m c cX11_split 6 s ([.ref a0, .int a1] : List Value).toArray RX11 := C
  have hx := C.1.1
  have hb := C.1.2.1
  have hown := C.1.2.2.2.1
  have hts := C.1.2.2.2.2
  have B : hp_B Γ (cw w_X11_split) s α α s.heap [] := ⟨B0.1, B0.2.1, cw_rf g⟩
  have litm1 : ((-1) : Int32).toInt = (-1) := by decide
  have lit0 : (0 : Int32).toInt = 0 := by decide
  have lit1 : (1 : Int32).toInt = 1 := by decide
  have lit4 : (4 : Int32).toInt = 4 := by decide
  have lit5 : (5 : Int32).toInt = 5 := by decide
  have lit10 : (10 : Int32).toInt = 10 := by decide
  have hl := lv_entry ([.ref a0, .int a1]) (n := 6) (Nat.le_of_ble_eq_true rfl)
  show W p l e (hp_rm 5 0 0) s m ([.ref a0, .int a1] : List Value).toArray below meth c s.heap [] 0 0 (MQ below (hp_Qi Γ (fun r β => cw w_X11_split α β)) ([.ref a0, .int a1] : List Value).toArray s 0 0 (hp_A Γ)) (entryFrame m ([.ref a0, .int a1] : List Value).toArray 6)
  rw [lg_entry_eq]
  generalize (lg_sl ([.ref a0, .int a1]) ++ List.replicate (6 - (lg_sl ([.ref a0, .int a1])).length) Slot.unset).toArray = ls at hl ⊢
  have hl : lv_has ls 6 [(0, .ref a0), (1, .int a1)] := hl
  refine lv_iload_n hx hb dX11_split_0 rfl (lv_at hl 1 rfl) (hp_n (n := 1) rfl ?_)
  have J9 : ∀ (Hh_1 : Heap) (Lh_1 : List Loc) (Bh_1 : hp_B Γ (cw w_X11_split) s α α Hh_1 Lh_1) (ls : Array Slot) (hl : lv_has ls 6 [(0, .ref a0)]), W p l e (hp_rm 5 0 0) s m ([.ref a0, .int a1] : List Value).toArray below meth c Hh_1 Lh_1 0 0 (MQ below (hp_Qi Γ (fun r β => cw w_X11_split α β)) ([.ref a0, .int a1] : List Value).toArray s 0 0 (hp_A Γ)) (F0 m 9 ls []) := by
    intro Hh_1 Lh_1 Bh_1 ls hl
    refine lv_aload_n hx hb dX11_split_9 rfl (lv_at hl 0 rfl) (hp_n (n := 10) rfl ?_)
    refine lv_iconst (v := 1) hx hb dX11_split_10 (by decide) (hp_n (n := 11) rfl ?_)
    refine q_ci (pc' := 14) Bh_1 (hp_runV (As := [.int 1]) (rest := []) C Bh_1 (t_X11_refuse Γ l α Bh_1.2.2.1 a0 (cw_k Bh_1.2.2 k0) 1) lb_X11_refuse lv_X11_refuse lk_X11_98 (cw_k Bh_1.2.2 k0) rfl (by decide) rfl hl.1 rfl (Nat.le_of_ble_eq_true rfl) dX11_split_11 ⟨Nat.le_refl _, Nat.le_refl _⟩) (fun _ _ h => cw_tr Bh_1.2.2 h (by decide)) rfl (fun rh_2 αh_2 Hh_2 Lh_2 ph_2 Bh_2 => ?_)
    exact q_iret C Bh_2 hr hlk Bh_2.2.2 dX11_split_14
  refine lv_if_lt (tgt := 9) hx hb dX11_split_1 (by decide) (fun c_3 => ?_) (fun c_3 => hp_n (n := 4) rfl ?_)
  ·
    have jc_3 := il_lt c_3
    exact J9 s.heap [] B ls (lv_sub hl [0] rfl)
  ·
    have jc_3 := il_nlt c_3
    refine lv_iload_n hx hb dX11_split_4 rfl (lv_at hl 1 rfl) (hp_n (n := 5) rfl ?_)
    refine lv_iconst (v := 1) hx hb dX11_split_5 (by decide) (hp_n (n := 6) rfl ?_)
    refine lv_icmp_le (tgt := 15) hx hb dX11_split_6 (by decide) (fun c_4 => ?_) (fun c_4 => hp_n (n := 9) rfl ?_)
    ·
      have jc_4 := il_le c_4
      refine lv_iconst (v := 0) hx hb dX11_split_15 (by decide) (hp_n (n := 16) rfl ?_)
      refine lv_istore_n (lv' := [(2, .int 0), (0, .ref a0), (1, .int a1)]) hx hb dX11_split_16 rfl hl (by decide) rfl (fun ls hl => hp_n (n := 17) rfl ?_)
      refine lv_iconst (v := (-1)) hx hb dX11_split_17 (by decide) (hp_n (n := 18) rfl ?_)
      refine lv_istore_n (lv' := [(3, .int (-1)), (2, .int 0), (0, .ref a0), (1, .int a1)]) hx hb dX11_split_18 rfl hl (by decide) rfl (fun ls hl => hp_n (n := 19) rfl ?_)
      refine lv_iconst (v := 0) hx hb dX11_split_19 (by decide) (hp_n (n := 20) rfl ?_)
      have J22 : ∀ (nq : Nat) (αh_5 : hp_T) (Hh_5 : Heap) (Lh_5 : List Loc) (Bh_5 : hp_B Γ (cw w_X11_split) s α αh_5 Hh_5 Lh_5) (v2_h_5 : Int32) (v3_h_5 : Int32) (v4_h_5 : Int32) (ih_5_0 : 0 ≤ v4_h_5.toInt) (ls : Array Slot) (hl : lv_has ls 6 [(0, .ref a0), (1, .int a1), (2, .int v2_h_5), (3, .int v3_h_5), (4, .int v4_h_5)]) (hmu22 : (2147483647 - v4_h_5.toInt).toNat = nq), W p l e (hp_rm 5 0 0) s m ([.ref a0, .int a1] : List Value).toArray below meth c Hh_5 Lh_5 0 0 (MQ below (hp_Qi Γ (fun r β => cw w_X11_split α β)) ([.ref a0, .int a1] : List Value).toArray s 0 0 (hp_A Γ)) (F0 m 22 ls []) := by
        intro nq
        induction nq using Nat.strongRecOn with
        | ind nq ih22 =>
        intro αh_5 Hh_5 Lh_5 Bh_5 v2_h_5 v3_h_5 v4_h_5 ih_5_0 ls hl hmu22
        have inv22_0 := ih_5_0
        refine lv_iload hx hb dX11_split_22 (lv_at hl 4 rfl) (hp_n (n := 24) rfl ?_)
        refine lv_iconst (v := 4) hx hb dX11_split_24 (by decide) (hp_n (n := 25) rfl ?_)
        refine lv_icmp_ge (tgt := 100) hx hb dX11_split_25 (by decide) (fun c_6 => ?_) (fun c_6 => hp_n (n := 28) rfl ?_)
        ·
          have jc_6 := il_le c_6
          refine lv_iload_n hx hb dX11_split_100 rfl (lv_at hl 1 rfl) (hp_n (n := 101) rfl ?_)
          refine lv_if_ne (tgt := 110) hx hb dX11_split_101 (by decide) (fun c_7 => ?_) (fun c_7 => hp_n (n := 104) rfl ?_)
          ·
            have jc_7 := il_ne c_7
            refine lv_iload_n hx hb dX11_split_110 rfl (lv_at hl 2 rfl) (hp_n (n := 111) rfl ?_)
            refine lv_if_ne (tgt := 122) hx hb dX11_split_111 (by decide) (fun c_8 => ?_) (fun c_8 => hp_n (n := 114) rfl ?_)
            ·
              have jc_8 := il_ne c_8
              refine lv_aload_n hx hb dX11_split_122 rfl (lv_at hl 0 rfl) (hp_n (n := 123) rfl ?_)
              refine lv_iload_n hx hb dX11_split_123 rfl (lv_at hl 3 rfl) (hp_n (n := 124) rfl ?_)
              refine q_ci (pc' := 127) Bh_5 (hp_runV (As := [.int v3_h_5]) (rest := []) C Bh_5 (t_X11_answer Γ l αh_5 Bh_5.2.2.1 a0 (cw_k Bh_5.2.2 k0) v3_h_5) lb_X11_answer lv_X11_answer lk_X11_115 (cw_k Bh_5.2.2 k0) rfl (by decide) rfl hl.1 rfl (Nat.le_of_ble_eq_true rfl) dX11_split_124 ⟨Nat.le_refl _, Nat.le_refl _⟩) (fun _ _ h => cw_tr Bh_5.2.2 h (by decide)) rfl (fun rh_9 αh_9 Hh_9 Lh_9 ph_9 Bh_9 => ?_)
              exact q_iret C Bh_9 hr hlk Bh_9.2.2 dX11_split_127
            ·
              have jc_8 := il_eq c_8
              refine lv_aload_n hx hb dX11_split_114 rfl (lv_at hl 0 rfl) (hp_n (n := 115) rfl ?_)
              refine lv_iconst (v := 5) hx hb dX11_split_115 (by decide) (hp_n (n := 116) rfl ?_)
              refine q_ci (pc' := 119) Bh_5 (hp_runV (As := [.int 5]) (rest := []) C Bh_5 (t_X11_refuse Γ l αh_5 Bh_5.2.2.1 a0 (cw_k Bh_5.2.2 k0) 5) lb_X11_refuse lv_X11_refuse lk_X11_98 (cw_k Bh_5.2.2 k0) rfl (by decide) rfl hl.1 rfl (Nat.le_of_ble_eq_true rfl) dX11_split_116 ⟨Nat.le_refl _, Nat.le_refl _⟩) (fun _ _ h => cw_tr Bh_5.2.2 h (by decide)) rfl (fun rh_10 αh_10 Hh_10 Lh_10 ph_10 Bh_10 => ?_)
              refine lv_goto (tgt := 127) hx hb dX11_split_119 (by decide) ?_
              exact q_iret C Bh_10 hr hlk Bh_10.2.2 dX11_split_127
          ·
            have jc_7 := il_eq c_7
            refine lv_aload_n hx hb dX11_split_104 rfl (lv_at hl 0 rfl) (hp_n (n := 105) rfl ?_)
            refine lv_iload_n hx hb dX11_split_105 rfl (lv_at hl 2 rfl) (hp_n (n := 106) rfl ?_)
            refine q_ci (pc' := 109) Bh_5 (hp_runV (As := [.int v2_h_5]) (rest := []) C Bh_5 (t_X11_answer Γ l αh_5 Bh_5.2.2.1 a0 (cw_k Bh_5.2.2 k0) v2_h_5) lb_X11_answer lv_X11_answer lk_X11_115 (cw_k Bh_5.2.2 k0) rfl (by decide) rfl hl.1 rfl (Nat.le_of_ble_eq_true rfl) dX11_split_106 ⟨Nat.le_refl _, Nat.le_refl _⟩) (fun _ _ h => cw_tr Bh_5.2.2 h (by decide)) rfl (fun rh_11 αh_11 Hh_11 Lh_11 ph_11 Bh_11 => ?_)
            exact q_iret C Bh_11 hr hlk Bh_11.2.2 dX11_split_109
        ·
          have jc_6 := il_nle c_6
          refine lv_iload hx hb dX11_split_28 (lv_at hl 4 rfl) (hp_n (n := 30) rfl ?_)
          refine lv_iconst (v := 1) hx hb dX11_split_30 (by decide) (hp_n (n := 31) rfl ?_)
          refine lv_iadd hx hb dX11_split_31 (hp_n (n := 32) rfl (lv_topi (fun x_12 ex_12 => ?_)))
          have qx_12 : x_12.toInt = v4_h_5.toInt + 1 := by have qa := ib_lo v4_h_5; rw [ex_12]; exact ii_add (by omega) (by omega)
          have J34 : ∀ (nq : Nat) (αh_13 : hp_T) (Hh_13 : Heap) (Lh_13 : List Loc) (Bh_13 : hp_B Γ (cw w_X11_split) s α αh_13 Hh_13 Lh_13) (v2_h_13 : Int32) (v3_h_13 : Int32) (v5_h_13 : Int32) (ls : Array Slot) (hl : lv_has ls 6 [(0, .ref a0), (1, .int a1), (2, .int v2_h_13), (3, .int v3_h_13), (4, .int v4_h_5), (5, .int v5_h_13)]) (hmu34 : (2147483647 - v5_h_13.toInt).toNat = nq), W p l e (hp_rm 5 0 0) s m ([.ref a0, .int a1] : List Value).toArray below meth c Hh_13 Lh_13 0 0 (MQ below (hp_Qi Γ (fun r β => cw w_X11_split α β)) ([.ref a0, .int a1] : List Value).toArray s 0 0 (hp_A Γ)) (F0 m 34 ls []) := by
            intro nq
            induction nq using Nat.strongRecOn with
            | ind nq ih34 =>
            intro αh_13 Hh_13 Lh_13 Bh_13 v2_h_13 v3_h_13 v5_h_13 ls hl hmu34
            refine lv_iload hx hb dX11_split_34 (lv_at hl 5 rfl) (hp_n (n := 36) rfl ?_)
            refine lv_iconst (v := 4) hx hb dX11_split_36 (by decide) (hp_n (n := 37) rfl ?_)
            refine lv_icmp_ge (tgt := 94) hx hb dX11_split_37 (by decide) (fun c_14 => ?_) (fun c_14 => hp_n (n := 40) rfl ?_)
            ·
              have jc_14 := il_le c_14
              obtain ⟨x_15, ex_15⟩ : ∃ y : Int32, y = v4_h_5 + 1 := ⟨_, rfl⟩
              have qx_15 : x_15.toInt = v4_h_5.toInt + 1 := by have qa := ib_lo v4_h_5; rw [ex_15]; exact ii_add (by omega) (by omega)
              refine lv_iinc (v := x_15) (lv' := [(4, .int x_15), (0, .ref a0), (1, .int a1), (2, .int v2_h_13), (3, .int v3_h_13), (5, .int v5_h_13)]) hx hb dX11_split_94 hl (k := 4) rfl (by rw [ex_15]; rfl) (by decide) rfl (fun ls hl => hp_n (n := 97) rfl ?_)
              refine lv_goto (tgt := 22) hx hb dX11_split_97 (by decide) ?_
              exact ih22 _ (by have qa := ib_hi v4_h_5; have qb := ib_lo v4_h_5; have qc : (v4_h_5 + 1).toInt = v4_h_5.toInt + (1 : Int32).toInt := ii_add (by omega) (by omega); rw [ex_15]; omega) αh_13 Hh_13 Lh_13 Bh_13 v2_h_13 v3_h_13 x_15 (by omega) ls (lv_sub hl [1, 2, 3, 4, 0] rfl) rfl
            ·
              have jc_14 := il_nle c_14
              refine lv_aload_n hx hb dX11_split_40 rfl (lv_at hl 0 rfl) (hp_n (n := 41) rfl ?_)
              refine q_getr (κ := 12) (k := 1) (φ := 601) (pc' := 44) C Bh_13 (cw_k Bh_13.2.2 k0) fl_X11_16 rfl rfl rfl (cw_r Bh_13.2.2 k0 rfl rfl (by decide) (by decide)) dX11_split_41 rfl (fun b_16 eb_16 kb_16 => ?_)
              refine lv_aload_n hx hb dX11_split_44 rfl (lv_at hl 0 rfl) (hp_n (n := 45) rfl ?_)
              refine q_gets (κ := 12) (k := 1) (φ := 601) (pc' := 48) C Bh_13 (cw_k Bh_13.2.2 k0) fl_X11_16 rfl rfl rfl eb_16 dX11_split_45 rfl ?_
              refine lv_iload hx hb dX11_split_48 (lv_at hl 4 rfl) (hp_n (n := 50) rfl ?_)
              refine q_cq (pc' := 53) Bh_13 (hp_runV (As := [.int v4_h_5]) (rest := [.ref b_16]) C Bh_13 (t_X10_watcherAt Γ l αh_13 Bh_13.2.2.1 b_16 (cw_k Bh_13.2.2 kb_16) v4_h_5) lb_X10_watcherAt lv_X10_watcherAt lk_X11_220 (cw_k Bh_13.2.2 kb_16) rfl (by decide) rfl hl.1 rfl (Nat.le_of_ble_eq_true rfl) dX11_split_50 ⟨Nat.le_refl _, Nat.le_refl _⟩) (fun _ _ h => by rw [h.1]; exact Bh_13.2.2) rfl (fun rh_17 αh_17 Hh_17 Lh_17 ph_17 Bh_17 => ?_)
              rw [ph_17.1] at Bh_17
              rcases rh_17 with _ | bh_17
              ·
                refine lv_aload_n hx hb dX11_split_53 rfl (lv_at hl 0 rfl) (hp_n (n := 54) rfl ?_)
                refine q_gets (κ := 12) (k := 1) (φ := 601) (pc' := 57) C Bh_17 (cw_k Bh_17.2.2 k0) fl_X11_16 rfl rfl rfl eb_16 dX11_split_54 rfl ?_
                refine lv_iload hx hb dX11_split_57 (lv_at hl 5 rfl) (hp_n (n := 59) rfl ?_)
                refine q_cq (pc' := 62) Bh_17 (hp_runV (As := [.int v5_h_13]) (rest := [.null, .ref b_16]) C Bh_17 (t_X10_watcherAt Γ l αh_13 Bh_17.2.2.1 b_16 (cw_k Bh_17.2.2 kb_16) v5_h_13) lb_X10_watcherAt lv_X10_watcherAt lk_X11_220 (cw_k Bh_17.2.2 kb_16) rfl (by decide) rfl hl.1 rfl (Nat.le_of_ble_eq_true rfl) dX11_split_59 ⟨Nat.le_refl _, Nat.le_refl _⟩) (fun _ _ h => by rw [h.1]; exact Bh_17.2.2) rfl (fun rh_18 αh_18 Hh_18 Lh_18 ph_18 Bh_18 => ?_)
                rw [ph_18.1] at Bh_18
                rcases rh_18 with _ | bh_18
                ·
                  refine q_ci (pc' := 65) Bh_18 (hp_runV (As := [va_rf none, va_rf none]) (rest := []) C Bh_18 (t_X10_doAgree Γ l αh_13 Bh_18.2.2.1 b_16 (cw_k Bh_18.2.2 kb_16) none (fun b h => by cases h) none (fun b h => by cases h)) lb_X10_doAgree lv_X10_doAgree lk_X11_319 (cw_k Bh_18.2.2 kb_16) rfl (by decide) rfl hl.1 rfl (Nat.le_of_ble_eq_true rfl) dX11_split_62 ⟨Nat.le_refl _, Nat.le_refl _⟩) (fun _ _ h => cw_tr Bh_18.2.2 h.1 (by decide)) rfl (fun rh_19 αh_19 Hh_19 Lh_19 ph_19 Bh_19 => ?_)
                  have zh_19 := ph_19.2
                  refine lv_if_ne (tgt := 88) hx hb dX11_split_65 (by decide) (fun c_20 => ?_) (fun c_20 => hp_n (n := 68) rfl ?_)
                  ·
                    have jc_20 := il_ne c_20
                    obtain ⟨x_21, ex_21⟩ : ∃ y : Int32, y = v5_h_13 + 1 := ⟨_, rfl⟩
                    have qx_21 : x_21.toInt = v5_h_13.toInt + 1 := by have qa := ib_lo v5_h_13; rw [ex_21]; exact ii_add (by omega) (by omega)
                    refine lv_iinc (v := x_21) (lv' := [(5, .int x_21), (0, .ref a0), (1, .int a1), (2, .int v2_h_13), (3, .int v3_h_13), (4, .int v4_h_5)]) hx hb dX11_split_88 hl (k := 5) rfl (by rw [ex_21]; rfl) (by decide) rfl (fun ls hl => hp_n (n := 91) rfl ?_)
                    refine lv_goto (tgt := 34) hx hb dX11_split_91 (by decide) ?_
                    exact ih34 _ (by have qa := ib_hi v5_h_13; have qb := ib_lo v5_h_13; have qc : (v5_h_13 + 1).toInt = v5_h_13.toInt + (1 : Int32).toInt := ii_add (by omega) (by omega); rw [ex_21]; omega) αh_19 Hh_19 Lh_19 Bh_19 v2_h_13 v3_h_13 x_21 ls (lv_sub hl [1, 2, 3, 4, 5, 0] rfl) rfl
                  ·
                    have jc_20 := il_eq c_20
                    refine lv_iload_n hx hb dX11_split_68 rfl (lv_at hl 2 rfl) (hp_n (n := 69) rfl ?_)
                    refine lv_if_ne (tgt := 83) hx hb dX11_split_69 (by decide) (fun c_22 => ?_) (fun c_22 => hp_n (n := 72) rfl ?_)
                    ·
                      have jc_22 := il_ne c_22
                      refine lv_iload_n hx hb dX11_split_83 rfl (lv_at hl 3 rfl) (hp_n (n := 84) rfl ?_)
                      refine lv_istore_n (lv' := [(3, .int v3_h_13), (0, .ref a0), (1, .int a1), (2, .int v2_h_13), (4, .int v4_h_5), (5, .int v5_h_13)]) hx hb dX11_split_84 rfl hl (by decide) rfl (fun ls hl => hp_n (n := 85) rfl ?_)
                      obtain ⟨x_23, ex_23⟩ : ∃ y : Int32, y = v2_h_13 + 1 := ⟨_, rfl⟩
                      refine lv_iinc (v := x_23) (lv' := [(2, .int x_23), (3, .int v3_h_13), (0, .ref a0), (1, .int a1), (4, .int v4_h_5), (5, .int v5_h_13)]) hx hb dX11_split_85 hl (k := 3) rfl (by rw [ex_23]; rfl) (by decide) rfl (fun ls hl => hp_n (n := 88) rfl ?_)
                      obtain ⟨x_24, ex_24⟩ : ∃ y : Int32, y = v5_h_13 + 1 := ⟨_, rfl⟩
                      have qx_24 : x_24.toInt = v5_h_13.toInt + 1 := by have qa := ib_lo v5_h_13; rw [ex_24]; exact ii_add (by omega) (by omega)
                      refine lv_iinc (v := x_24) (lv' := [(5, .int x_24), (2, .int x_23), (3, .int v3_h_13), (0, .ref a0), (1, .int a1), (4, .int v4_h_5)]) hx hb dX11_split_88 hl (k := 5) rfl (by rw [ex_24]; rfl) (by decide) rfl (fun ls hl => hp_n (n := 91) rfl ?_)
                      refine lv_goto (tgt := 34) hx hb dX11_split_91 (by decide) ?_
                      exact ih34 _ (by have qa := ib_hi v5_h_13; have qb := ib_lo v5_h_13; have qc : (v5_h_13 + 1).toInt = v5_h_13.toInt + (1 : Int32).toInt := ii_add (by omega) (by omega); rw [ex_24]; omega) αh_19 Hh_19 Lh_19 Bh_19 x_23 v3_h_13 x_24 ls (lv_sub hl [3, 4, 1, 2, 5, 0] rfl) rfl
                    ·
                      have jc_22 := il_eq c_22
                      refine lv_bipush (v := 10) hx hb dX11_split_72 (by decide) (hp_n (n := 74) rfl ?_)
                      refine lv_iload hx hb dX11_split_74 (lv_at hl 4 rfl) (hp_n (n := 76) rfl ?_)
                      refine lv_imul hx hb dX11_split_76 (hp_n (n := 77) rfl (lv_topi (fun x_25 ex_25 => ?_)))
                      refine lv_iload hx hb dX11_split_77 (lv_at hl 5 rfl) (hp_n (n := 79) rfl ?_)
                      refine lv_iadd hx hb dX11_split_79 (hp_n (n := 80) rfl (lv_topi (fun x_26 ex_26 => ?_)))
                      refine lv_goto (tgt := 84) hx hb dX11_split_80 (by decide) ?_
                      refine lv_istore_n (lv' := [(3, .int x_26), (0, .ref a0), (1, .int a1), (2, .int v2_h_13), (4, .int v4_h_5), (5, .int v5_h_13)]) hx hb dX11_split_84 rfl hl (by decide) rfl (fun ls hl => hp_n (n := 85) rfl ?_)
                      obtain ⟨x_27, ex_27⟩ : ∃ y : Int32, y = v2_h_13 + 1 := ⟨_, rfl⟩
                      refine lv_iinc (v := x_27) (lv' := [(2, .int x_27), (3, .int x_26), (0, .ref a0), (1, .int a1), (4, .int v4_h_5), (5, .int v5_h_13)]) hx hb dX11_split_85 hl (k := 3) rfl (by rw [ex_27]; rfl) (by decide) rfl (fun ls hl => hp_n (n := 88) rfl ?_)
                      obtain ⟨x_28, ex_28⟩ : ∃ y : Int32, y = v5_h_13 + 1 := ⟨_, rfl⟩
                      have qx_28 : x_28.toInt = v5_h_13.toInt + 1 := by have qa := ib_lo v5_h_13; rw [ex_28]; exact ii_add (by omega) (by omega)
                      refine lv_iinc (v := x_28) (lv' := [(5, .int x_28), (2, .int x_27), (3, .int x_26), (0, .ref a0), (1, .int a1), (4, .int v4_h_5)]) hx hb dX11_split_88 hl (k := 5) rfl (by rw [ex_28]; rfl) (by decide) rfl (fun ls hl => hp_n (n := 91) rfl ?_)
                      refine lv_goto (tgt := 34) hx hb dX11_split_91 (by decide) ?_
                      exact ih34 _ (by have qa := ib_hi v5_h_13; have qb := ib_lo v5_h_13; have qc : (v5_h_13 + 1).toInt = v5_h_13.toInt + (1 : Int32).toInt := ii_add (by omega) (by omega); rw [ex_28]; omega) αh_19 Hh_19 Lh_19 Bh_19 x_27 x_26 x_28 ls (lv_sub hl [3, 4, 1, 2, 5, 0] rfl) rfl
                ·
                  have kbh_18 : hp_K α bh_18 = 8 := cw_k' Bh_18.2.2 (ph_18.2 bh_18 rfl)
                  refine q_ci (pc' := 65) Bh_18 (hp_runV (As := [va_rf none, va_rf (some bh_18)]) (rest := []) C Bh_18 (t_X10_doAgree Γ l αh_13 Bh_18.2.2.1 b_16 (cw_k Bh_18.2.2 kb_16) none (fun b h => by cases h) (some bh_18) (fun b h => by cases h; exact (cw_k Bh_18.2.2 kbh_18))) lb_X10_doAgree lv_X10_doAgree lk_X11_319 (cw_k Bh_18.2.2 kb_16) rfl (by decide) rfl hl.1 rfl (Nat.le_of_ble_eq_true rfl) dX11_split_62 ⟨Nat.le_refl _, Nat.le_refl _⟩) (fun _ _ h => cw_tr Bh_18.2.2 h.1 (by decide)) rfl (fun rh_29 αh_29 Hh_29 Lh_29 ph_29 Bh_29 => ?_)
                  have zh_29 := ph_29.2
                  refine lv_if_ne (tgt := 88) hx hb dX11_split_65 (by decide) (fun c_30 => ?_) (fun c_30 => hp_n (n := 68) rfl ?_)
                  ·
                    have jc_30 := il_ne c_30
                    obtain ⟨x_31, ex_31⟩ : ∃ y : Int32, y = v5_h_13 + 1 := ⟨_, rfl⟩
                    have qx_31 : x_31.toInt = v5_h_13.toInt + 1 := by have qa := ib_lo v5_h_13; rw [ex_31]; exact ii_add (by omega) (by omega)
                    refine lv_iinc (v := x_31) (lv' := [(5, .int x_31), (0, .ref a0), (1, .int a1), (2, .int v2_h_13), (3, .int v3_h_13), (4, .int v4_h_5)]) hx hb dX11_split_88 hl (k := 5) rfl (by rw [ex_31]; rfl) (by decide) rfl (fun ls hl => hp_n (n := 91) rfl ?_)
                    refine lv_goto (tgt := 34) hx hb dX11_split_91 (by decide) ?_
                    exact ih34 _ (by have qa := ib_hi v5_h_13; have qb := ib_lo v5_h_13; have qc : (v5_h_13 + 1).toInt = v5_h_13.toInt + (1 : Int32).toInt := ii_add (by omega) (by omega); rw [ex_31]; omega) αh_29 Hh_29 Lh_29 Bh_29 v2_h_13 v3_h_13 x_31 ls (lv_sub hl [1, 2, 3, 4, 5, 0] rfl) rfl
                  ·
                    have jc_30 := il_eq c_30
                    refine lv_iload_n hx hb dX11_split_68 rfl (lv_at hl 2 rfl) (hp_n (n := 69) rfl ?_)
                    refine lv_if_ne (tgt := 83) hx hb dX11_split_69 (by decide) (fun c_32 => ?_) (fun c_32 => hp_n (n := 72) rfl ?_)
                    ·
                      have jc_32 := il_ne c_32
                      refine lv_iload_n hx hb dX11_split_83 rfl (lv_at hl 3 rfl) (hp_n (n := 84) rfl ?_)
                      refine lv_istore_n (lv' := [(3, .int v3_h_13), (0, .ref a0), (1, .int a1), (2, .int v2_h_13), (4, .int v4_h_5), (5, .int v5_h_13)]) hx hb dX11_split_84 rfl hl (by decide) rfl (fun ls hl => hp_n (n := 85) rfl ?_)
                      obtain ⟨x_33, ex_33⟩ : ∃ y : Int32, y = v2_h_13 + 1 := ⟨_, rfl⟩
                      refine lv_iinc (v := x_33) (lv' := [(2, .int x_33), (3, .int v3_h_13), (0, .ref a0), (1, .int a1), (4, .int v4_h_5), (5, .int v5_h_13)]) hx hb dX11_split_85 hl (k := 3) rfl (by rw [ex_33]; rfl) (by decide) rfl (fun ls hl => hp_n (n := 88) rfl ?_)
                      obtain ⟨x_34, ex_34⟩ : ∃ y : Int32, y = v5_h_13 + 1 := ⟨_, rfl⟩
                      have qx_34 : x_34.toInt = v5_h_13.toInt + 1 := by have qa := ib_lo v5_h_13; rw [ex_34]; exact ii_add (by omega) (by omega)
                      refine lv_iinc (v := x_34) (lv' := [(5, .int x_34), (2, .int x_33), (3, .int v3_h_13), (0, .ref a0), (1, .int a1), (4, .int v4_h_5)]) hx hb dX11_split_88 hl (k := 5) rfl (by rw [ex_34]; rfl) (by decide) rfl (fun ls hl => hp_n (n := 91) rfl ?_)
                      refine lv_goto (tgt := 34) hx hb dX11_split_91 (by decide) ?_
                      exact ih34 _ (by have qa := ib_hi v5_h_13; have qb := ib_lo v5_h_13; have qc : (v5_h_13 + 1).toInt = v5_h_13.toInt + (1 : Int32).toInt := ii_add (by omega) (by omega); rw [ex_34]; omega) αh_29 Hh_29 Lh_29 Bh_29 x_33 v3_h_13 x_34 ls (lv_sub hl [3, 4, 1, 2, 5, 0] rfl) rfl
                    ·
                      have jc_32 := il_eq c_32
                      refine lv_bipush (v := 10) hx hb dX11_split_72 (by decide) (hp_n (n := 74) rfl ?_)
                      refine lv_iload hx hb dX11_split_74 (lv_at hl 4 rfl) (hp_n (n := 76) rfl ?_)
                      refine lv_imul hx hb dX11_split_76 (hp_n (n := 77) rfl (lv_topi (fun x_35 ex_35 => ?_)))
                      refine lv_iload hx hb dX11_split_77 (lv_at hl 5 rfl) (hp_n (n := 79) rfl ?_)
                      refine lv_iadd hx hb dX11_split_79 (hp_n (n := 80) rfl (lv_topi (fun x_36 ex_36 => ?_)))
                      refine lv_goto (tgt := 84) hx hb dX11_split_80 (by decide) ?_
                      refine lv_istore_n (lv' := [(3, .int x_36), (0, .ref a0), (1, .int a1), (2, .int v2_h_13), (4, .int v4_h_5), (5, .int v5_h_13)]) hx hb dX11_split_84 rfl hl (by decide) rfl (fun ls hl => hp_n (n := 85) rfl ?_)
                      obtain ⟨x_37, ex_37⟩ : ∃ y : Int32, y = v2_h_13 + 1 := ⟨_, rfl⟩
                      refine lv_iinc (v := x_37) (lv' := [(2, .int x_37), (3, .int x_36), (0, .ref a0), (1, .int a1), (4, .int v4_h_5), (5, .int v5_h_13)]) hx hb dX11_split_85 hl (k := 3) rfl (by rw [ex_37]; rfl) (by decide) rfl (fun ls hl => hp_n (n := 88) rfl ?_)
                      obtain ⟨x_38, ex_38⟩ : ∃ y : Int32, y = v5_h_13 + 1 := ⟨_, rfl⟩
                      have qx_38 : x_38.toInt = v5_h_13.toInt + 1 := by have qa := ib_lo v5_h_13; rw [ex_38]; exact ii_add (by omega) (by omega)
                      refine lv_iinc (v := x_38) (lv' := [(5, .int x_38), (2, .int x_37), (3, .int x_36), (0, .ref a0), (1, .int a1), (4, .int v4_h_5)]) hx hb dX11_split_88 hl (k := 5) rfl (by rw [ex_38]; rfl) (by decide) rfl (fun ls hl => hp_n (n := 91) rfl ?_)
                      refine lv_goto (tgt := 34) hx hb dX11_split_91 (by decide) ?_
                      exact ih34 _ (by have qa := ib_hi v5_h_13; have qb := ib_lo v5_h_13; have qc : (v5_h_13 + 1).toInt = v5_h_13.toInt + (1 : Int32).toInt := ii_add (by omega) (by omega); rw [ex_38]; omega) αh_29 Hh_29 Lh_29 Bh_29 x_37 x_36 x_38 ls (lv_sub hl [3, 4, 1, 2, 5, 0] rfl) rfl
              ·
                have kbh_17 : hp_K α bh_17 = 8 := cw_k' Bh_17.2.2 (ph_17.2 bh_17 rfl)
                refine lv_aload_n hx hb dX11_split_53 rfl (lv_at hl 0 rfl) (hp_n (n := 54) rfl ?_)
                refine q_gets (κ := 12) (k := 1) (φ := 601) (pc' := 57) C Bh_17 (cw_k Bh_17.2.2 k0) fl_X11_16 rfl rfl rfl eb_16 dX11_split_54 rfl ?_
                refine lv_iload hx hb dX11_split_57 (lv_at hl 5 rfl) (hp_n (n := 59) rfl ?_)
                refine q_cq (pc' := 62) Bh_17 (hp_runV (As := [.int v5_h_13]) (rest := [.ref bh_17, .ref b_16]) C Bh_17 (t_X10_watcherAt Γ l αh_13 Bh_17.2.2.1 b_16 (cw_k Bh_17.2.2 kb_16) v5_h_13) lb_X10_watcherAt lv_X10_watcherAt lk_X11_220 (cw_k Bh_17.2.2 kb_16) rfl (by decide) rfl hl.1 rfl (Nat.le_of_ble_eq_true rfl) dX11_split_59 ⟨Nat.le_refl _, Nat.le_refl _⟩) (fun _ _ h => by rw [h.1]; exact Bh_17.2.2) rfl (fun rh_39 αh_39 Hh_39 Lh_39 ph_39 Bh_39 => ?_)
                rw [ph_39.1] at Bh_39
                rcases rh_39 with _ | bh_39
                ·
                  refine q_ci (pc' := 65) Bh_39 (hp_runV (As := [va_rf (some bh_17), va_rf none]) (rest := []) C Bh_39 (t_X10_doAgree Γ l αh_13 Bh_39.2.2.1 b_16 (cw_k Bh_39.2.2 kb_16) (some bh_17) (fun b h => by cases h; exact (cw_k Bh_39.2.2 kbh_17)) none (fun b h => by cases h)) lb_X10_doAgree lv_X10_doAgree lk_X11_319 (cw_k Bh_39.2.2 kb_16) rfl (by decide) rfl hl.1 rfl (Nat.le_of_ble_eq_true rfl) dX11_split_62 ⟨Nat.le_refl _, Nat.le_refl _⟩) (fun _ _ h => cw_tr Bh_39.2.2 h.1 (by decide)) rfl (fun rh_40 αh_40 Hh_40 Lh_40 ph_40 Bh_40 => ?_)
                  have zh_40 := ph_40.2
                  refine lv_if_ne (tgt := 88) hx hb dX11_split_65 (by decide) (fun c_41 => ?_) (fun c_41 => hp_n (n := 68) rfl ?_)
                  ·
                    have jc_41 := il_ne c_41
                    obtain ⟨x_42, ex_42⟩ : ∃ y : Int32, y = v5_h_13 + 1 := ⟨_, rfl⟩
                    have qx_42 : x_42.toInt = v5_h_13.toInt + 1 := by have qa := ib_lo v5_h_13; rw [ex_42]; exact ii_add (by omega) (by omega)
                    refine lv_iinc (v := x_42) (lv' := [(5, .int x_42), (0, .ref a0), (1, .int a1), (2, .int v2_h_13), (3, .int v3_h_13), (4, .int v4_h_5)]) hx hb dX11_split_88 hl (k := 5) rfl (by rw [ex_42]; rfl) (by decide) rfl (fun ls hl => hp_n (n := 91) rfl ?_)
                    refine lv_goto (tgt := 34) hx hb dX11_split_91 (by decide) ?_
                    exact ih34 _ (by have qa := ib_hi v5_h_13; have qb := ib_lo v5_h_13; have qc : (v5_h_13 + 1).toInt = v5_h_13.toInt + (1 : Int32).toInt := ii_add (by omega) (by omega); rw [ex_42]; omega) αh_40 Hh_40 Lh_40 Bh_40 v2_h_13 v3_h_13 x_42 ls (lv_sub hl [1, 2, 3, 4, 5, 0] rfl) rfl
                  ·
                    have jc_41 := il_eq c_41
                    refine lv_iload_n hx hb dX11_split_68 rfl (lv_at hl 2 rfl) (hp_n (n := 69) rfl ?_)
                    refine lv_if_ne (tgt := 83) hx hb dX11_split_69 (by decide) (fun c_43 => ?_) (fun c_43 => hp_n (n := 72) rfl ?_)
                    ·
                      have jc_43 := il_ne c_43
                      refine lv_iload_n hx hb dX11_split_83 rfl (lv_at hl 3 rfl) (hp_n (n := 84) rfl ?_)
                      refine lv_istore_n (lv' := [(3, .int v3_h_13), (0, .ref a0), (1, .int a1), (2, .int v2_h_13), (4, .int v4_h_5), (5, .int v5_h_13)]) hx hb dX11_split_84 rfl hl (by decide) rfl (fun ls hl => hp_n (n := 85) rfl ?_)
                      obtain ⟨x_44, ex_44⟩ : ∃ y : Int32, y = v2_h_13 + 1 := ⟨_, rfl⟩
                      refine lv_iinc (v := x_44) (lv' := [(2, .int x_44), (3, .int v3_h_13), (0, .ref a0), (1, .int a1), (4, .int v4_h_5), (5, .int v5_h_13)]) hx hb dX11_split_85 hl (k := 3) rfl (by rw [ex_44]; rfl) (by decide) rfl (fun ls hl => hp_n (n := 88) rfl ?_)
                      obtain ⟨x_45, ex_45⟩ : ∃ y : Int32, y = v5_h_13 + 1 := ⟨_, rfl⟩
                      have qx_45 : x_45.toInt = v5_h_13.toInt + 1 := by have qa := ib_lo v5_h_13; rw [ex_45]; exact ii_add (by omega) (by omega)
                      refine lv_iinc (v := x_45) (lv' := [(5, .int x_45), (2, .int x_44), (3, .int v3_h_13), (0, .ref a0), (1, .int a1), (4, .int v4_h_5)]) hx hb dX11_split_88 hl (k := 5) rfl (by rw [ex_45]; rfl) (by decide) rfl (fun ls hl => hp_n (n := 91) rfl ?_)
                      refine lv_goto (tgt := 34) hx hb dX11_split_91 (by decide) ?_
                      exact ih34 _ (by have qa := ib_hi v5_h_13; have qb := ib_lo v5_h_13; have qc : (v5_h_13 + 1).toInt = v5_h_13.toInt + (1 : Int32).toInt := ii_add (by omega) (by omega); rw [ex_45]; omega) αh_40 Hh_40 Lh_40 Bh_40 x_44 v3_h_13 x_45 ls (lv_sub hl [3, 4, 1, 2, 5, 0] rfl) rfl
                    ·
                      have jc_43 := il_eq c_43
                      refine lv_bipush (v := 10) hx hb dX11_split_72 (by decide) (hp_n (n := 74) rfl ?_)
                      refine lv_iload hx hb dX11_split_74 (lv_at hl 4 rfl) (hp_n (n := 76) rfl ?_)
                      refine lv_imul hx hb dX11_split_76 (hp_n (n := 77) rfl (lv_topi (fun x_46 ex_46 => ?_)))
                      refine lv_iload hx hb dX11_split_77 (lv_at hl 5 rfl) (hp_n (n := 79) rfl ?_)
                      refine lv_iadd hx hb dX11_split_79 (hp_n (n := 80) rfl (lv_topi (fun x_47 ex_47 => ?_)))
                      refine lv_goto (tgt := 84) hx hb dX11_split_80 (by decide) ?_
                      refine lv_istore_n (lv' := [(3, .int x_47), (0, .ref a0), (1, .int a1), (2, .int v2_h_13), (4, .int v4_h_5), (5, .int v5_h_13)]) hx hb dX11_split_84 rfl hl (by decide) rfl (fun ls hl => hp_n (n := 85) rfl ?_)
                      obtain ⟨x_48, ex_48⟩ : ∃ y : Int32, y = v2_h_13 + 1 := ⟨_, rfl⟩
                      refine lv_iinc (v := x_48) (lv' := [(2, .int x_48), (3, .int x_47), (0, .ref a0), (1, .int a1), (4, .int v4_h_5), (5, .int v5_h_13)]) hx hb dX11_split_85 hl (k := 3) rfl (by rw [ex_48]; rfl) (by decide) rfl (fun ls hl => hp_n (n := 88) rfl ?_)
                      obtain ⟨x_49, ex_49⟩ : ∃ y : Int32, y = v5_h_13 + 1 := ⟨_, rfl⟩
                      have qx_49 : x_49.toInt = v5_h_13.toInt + 1 := by have qa := ib_lo v5_h_13; rw [ex_49]; exact ii_add (by omega) (by omega)
                      refine lv_iinc (v := x_49) (lv' := [(5, .int x_49), (2, .int x_48), (3, .int x_47), (0, .ref a0), (1, .int a1), (4, .int v4_h_5)]) hx hb dX11_split_88 hl (k := 5) rfl (by rw [ex_49]; rfl) (by decide) rfl (fun ls hl => hp_n (n := 91) rfl ?_)
                      refine lv_goto (tgt := 34) hx hb dX11_split_91 (by decide) ?_
                      exact ih34 _ (by have qa := ib_hi v5_h_13; have qb := ib_lo v5_h_13; have qc : (v5_h_13 + 1).toInt = v5_h_13.toInt + (1 : Int32).toInt := ii_add (by omega) (by omega); rw [ex_49]; omega) αh_40 Hh_40 Lh_40 Bh_40 x_48 x_47 x_49 ls (lv_sub hl [3, 4, 1, 2, 5, 0] rfl) rfl
                ·
                  have kbh_39 : hp_K α bh_39 = 8 := cw_k' Bh_39.2.2 (ph_39.2 bh_39 rfl)
                  refine q_ci (pc' := 65) Bh_39 (hp_runV (As := [va_rf (some bh_17), va_rf (some bh_39)]) (rest := []) C Bh_39 (t_X10_doAgree Γ l αh_13 Bh_39.2.2.1 b_16 (cw_k Bh_39.2.2 kb_16) (some bh_17) (fun b h => by cases h; exact (cw_k Bh_39.2.2 kbh_17)) (some bh_39) (fun b h => by cases h; exact (cw_k Bh_39.2.2 kbh_39))) lb_X10_doAgree lv_X10_doAgree lk_X11_319 (cw_k Bh_39.2.2 kb_16) rfl (by decide) rfl hl.1 rfl (Nat.le_of_ble_eq_true rfl) dX11_split_62 ⟨Nat.le_refl _, Nat.le_refl _⟩) (fun _ _ h => cw_tr Bh_39.2.2 h.1 (by decide)) rfl (fun rh_50 αh_50 Hh_50 Lh_50 ph_50 Bh_50 => ?_)
                  have zh_50 := ph_50.2
                  refine lv_if_ne (tgt := 88) hx hb dX11_split_65 (by decide) (fun c_51 => ?_) (fun c_51 => hp_n (n := 68) rfl ?_)
                  ·
                    have jc_51 := il_ne c_51
                    obtain ⟨x_52, ex_52⟩ : ∃ y : Int32, y = v5_h_13 + 1 := ⟨_, rfl⟩
                    have qx_52 : x_52.toInt = v5_h_13.toInt + 1 := by have qa := ib_lo v5_h_13; rw [ex_52]; exact ii_add (by omega) (by omega)
                    refine lv_iinc (v := x_52) (lv' := [(5, .int x_52), (0, .ref a0), (1, .int a1), (2, .int v2_h_13), (3, .int v3_h_13), (4, .int v4_h_5)]) hx hb dX11_split_88 hl (k := 5) rfl (by rw [ex_52]; rfl) (by decide) rfl (fun ls hl => hp_n (n := 91) rfl ?_)
                    refine lv_goto (tgt := 34) hx hb dX11_split_91 (by decide) ?_
                    exact ih34 _ (by have qa := ib_hi v5_h_13; have qb := ib_lo v5_h_13; have qc : (v5_h_13 + 1).toInt = v5_h_13.toInt + (1 : Int32).toInt := ii_add (by omega) (by omega); rw [ex_52]; omega) αh_50 Hh_50 Lh_50 Bh_50 v2_h_13 v3_h_13 x_52 ls (lv_sub hl [1, 2, 3, 4, 5, 0] rfl) rfl
                  ·
                    have jc_51 := il_eq c_51
                    refine lv_iload_n hx hb dX11_split_68 rfl (lv_at hl 2 rfl) (hp_n (n := 69) rfl ?_)
                    refine lv_if_ne (tgt := 83) hx hb dX11_split_69 (by decide) (fun c_53 => ?_) (fun c_53 => hp_n (n := 72) rfl ?_)
                    ·
                      have jc_53 := il_ne c_53
                      refine lv_iload_n hx hb dX11_split_83 rfl (lv_at hl 3 rfl) (hp_n (n := 84) rfl ?_)
                      refine lv_istore_n (lv' := [(3, .int v3_h_13), (0, .ref a0), (1, .int a1), (2, .int v2_h_13), (4, .int v4_h_5), (5, .int v5_h_13)]) hx hb dX11_split_84 rfl hl (by decide) rfl (fun ls hl => hp_n (n := 85) rfl ?_)
                      obtain ⟨x_54, ex_54⟩ : ∃ y : Int32, y = v2_h_13 + 1 := ⟨_, rfl⟩
                      refine lv_iinc (v := x_54) (lv' := [(2, .int x_54), (3, .int v3_h_13), (0, .ref a0), (1, .int a1), (4, .int v4_h_5), (5, .int v5_h_13)]) hx hb dX11_split_85 hl (k := 3) rfl (by rw [ex_54]; rfl) (by decide) rfl (fun ls hl => hp_n (n := 88) rfl ?_)
                      obtain ⟨x_55, ex_55⟩ : ∃ y : Int32, y = v5_h_13 + 1 := ⟨_, rfl⟩
                      have qx_55 : x_55.toInt = v5_h_13.toInt + 1 := by have qa := ib_lo v5_h_13; rw [ex_55]; exact ii_add (by omega) (by omega)
                      refine lv_iinc (v := x_55) (lv' := [(5, .int x_55), (2, .int x_54), (3, .int v3_h_13), (0, .ref a0), (1, .int a1), (4, .int v4_h_5)]) hx hb dX11_split_88 hl (k := 5) rfl (by rw [ex_55]; rfl) (by decide) rfl (fun ls hl => hp_n (n := 91) rfl ?_)
                      refine lv_goto (tgt := 34) hx hb dX11_split_91 (by decide) ?_
                      exact ih34 _ (by have qa := ib_hi v5_h_13; have qb := ib_lo v5_h_13; have qc : (v5_h_13 + 1).toInt = v5_h_13.toInt + (1 : Int32).toInt := ii_add (by omega) (by omega); rw [ex_55]; omega) αh_50 Hh_50 Lh_50 Bh_50 x_54 v3_h_13 x_55 ls (lv_sub hl [3, 4, 1, 2, 5, 0] rfl) rfl
                    ·
                      have jc_53 := il_eq c_53
                      refine lv_bipush (v := 10) hx hb dX11_split_72 (by decide) (hp_n (n := 74) rfl ?_)
                      refine lv_iload hx hb dX11_split_74 (lv_at hl 4 rfl) (hp_n (n := 76) rfl ?_)
                      refine lv_imul hx hb dX11_split_76 (hp_n (n := 77) rfl (lv_topi (fun x_56 ex_56 => ?_)))
                      refine lv_iload hx hb dX11_split_77 (lv_at hl 5 rfl) (hp_n (n := 79) rfl ?_)
                      refine lv_iadd hx hb dX11_split_79 (hp_n (n := 80) rfl (lv_topi (fun x_57 ex_57 => ?_)))
                      refine lv_goto (tgt := 84) hx hb dX11_split_80 (by decide) ?_
                      refine lv_istore_n (lv' := [(3, .int x_57), (0, .ref a0), (1, .int a1), (2, .int v2_h_13), (4, .int v4_h_5), (5, .int v5_h_13)]) hx hb dX11_split_84 rfl hl (by decide) rfl (fun ls hl => hp_n (n := 85) rfl ?_)
                      obtain ⟨x_58, ex_58⟩ : ∃ y : Int32, y = v2_h_13 + 1 := ⟨_, rfl⟩
                      refine lv_iinc (v := x_58) (lv' := [(2, .int x_58), (3, .int x_57), (0, .ref a0), (1, .int a1), (4, .int v4_h_5), (5, .int v5_h_13)]) hx hb dX11_split_85 hl (k := 3) rfl (by rw [ex_58]; rfl) (by decide) rfl (fun ls hl => hp_n (n := 88) rfl ?_)
                      obtain ⟨x_59, ex_59⟩ : ∃ y : Int32, y = v5_h_13 + 1 := ⟨_, rfl⟩
                      have qx_59 : x_59.toInt = v5_h_13.toInt + 1 := by have qa := ib_lo v5_h_13; rw [ex_59]; exact ii_add (by omega) (by omega)
                      refine lv_iinc (v := x_59) (lv' := [(5, .int x_59), (2, .int x_58), (3, .int x_57), (0, .ref a0), (1, .int a1), (4, .int v4_h_5)]) hx hb dX11_split_88 hl (k := 5) rfl (by rw [ex_59]; rfl) (by decide) rfl (fun ls hl => hp_n (n := 91) rfl ?_)
                      refine lv_goto (tgt := 34) hx hb dX11_split_91 (by decide) ?_
                      exact ih34 _ (by have qa := ib_hi v5_h_13; have qb := ib_lo v5_h_13; have qc : (v5_h_13 + 1).toInt = v5_h_13.toInt + (1 : Int32).toInt := ii_add (by omega) (by omega); rw [ex_59]; omega) αh_50 Hh_50 Lh_50 Bh_50 x_58 x_57 x_59 ls (lv_sub hl [3, 4, 1, 2, 5, 0] rfl) rfl
          refine lv_istore (lv' := [(5, .int x_12), (0, .ref a0), (1, .int a1), (2, .int v2_h_5), (3, .int v3_h_5), (4, .int v4_h_5)]) hx hb dX11_split_32 hl (by decide) rfl (fun ls hl => hp_n (n := 34) rfl ?_)
          exact J34 _ αh_5 Hh_5 Lh_5 Bh_5 v2_h_5 v3_h_5 x_12 ls (lv_sub hl [1, 2, 3, 4, 5, 0] rfl) rfl
      refine lv_istore (lv' := [(4, .int 0), (3, .int (-1)), (2, .int 0), (0, .ref a0), (1, .int a1)]) hx hb dX11_split_20 hl (by decide) rfl (fun ls hl => hp_n (n := 22) rfl ?_)
      exact J22 _ α s.heap [] B 0 (-1) 0 (by omega) ls (lv_sub hl [3, 4, 2, 1, 0] rfl) rfl
    ·
      have jc_4 := il_nle c_4
      exact J9 s.heap [] B ls (lv_sub hl [0] rfl)
abbrev w_X11_tellByte : cw_W := ([611], [], [25], [])
set_option maxRecDepth 100000 in
set_option maxHeartbeats 4000000 in
theorem t_X11_tellByte (Γ : hp_G) (l : Launch) (α : hp_T) (g : GC α) (a0 : Nat) (k0 : hp_K α a0 = 12) (a1 : Int32) : Met l yX11_tellByte (hp_ws yX11_tellByte cX11_tellByte 2 none) (hp_rm 0 0 0) (hp_Pc Γ α [.ref a0, .int a1]) (hp_Qv Γ (fun β => cw w_X11_tellByte α β)) 0 0 (hp_A Γ) := by
  refine hp_start (by decide) ?_
  intro p e s m below meth c C hr hlk B0 hnm
  have C : hp_C Γ p m c cX11_tellByte 2 s ([.ref a0, .int a1] : List Value).toArray RX11 := C
  have hx := C.1.1
  have hb := C.1.2.1
  have hown := C.1.2.2.2.1
  have hts := C.1.2.2.2.2
  have B : hp_B Γ (cw w_X11_tellByte) s α α s.heap [] := ⟨B0.1, B0.2.1, cw_rf g⟩
  have lit0 : (0 : Int32).toInt = 0 := by decide
  have lit1 : (1 : Int32).toInt = 1 := by decide
  have lit256 : (256 : Int32).toInt = 256 := by decide
  have hl := lv_entry ([.ref a0, .int a1]) (n := 2) (Nat.le_of_ble_eq_true rfl)
  show W p l e (hp_rm 0 0 0) s m ([.ref a0, .int a1] : List Value).toArray below meth c s.heap [] 0 0 (MQ below (hp_Qv Γ (fun β => cw w_X11_tellByte α β)) ([.ref a0, .int a1] : List Value).toArray s 0 0 (hp_A Γ)) (entryFrame m ([.ref a0, .int a1] : List Value).toArray 2)
  rw [lg_entry_eq]
  generalize (lg_sl ([.ref a0, .int a1]) ++ List.replicate (2 - (lg_sl ([.ref a0, .int a1])).length) Slot.unset).toArray = ls at hl ⊢
  have hl : lv_has ls 2 [(0, .ref a0), (1, .int a1)] := hl
  refine lv_aload_n hx hb dX11_tellByte_0 rfl (lv_at hl 0 rfl) (hp_n (n := 1) rfl ?_)
  refine q_geti (κ := 12) (k := 11) (φ := 611) (pc' := 4) C B (cw_k B.2.2 k0) fl_X11_56 rfl rfl rfl dX11_tellByte_1 rfl (fun x_1 ex_1 => ?_)
  refine lv_if_lt (tgt := 40) hx hb dX11_tellByte_4 (by decide) (fun c_2 => ?_) (fun c_2 => hp_n (n := 7) rfl ?_)
  ·
    have jc_2 := il_lt c_2
    exact q_vret C B hr hlk B.2.2 dX11_tellByte_40
  ·
    have jc_2 := il_nlt c_2
    refine lv_aload_n hx hb dX11_tellByte_7 rfl (lv_at hl 0 rfl) (hp_n (n := 8) rfl ?_)
    refine q_getj (κ := 12) (k := 11) (φ := 611) (pc' := 11) C B (cw_k B.2.2 k0) fl_X11_56 rfl rfl rfl ex_1 dX11_tellByte_8 rfl ?_
    refine lv_aload_n hx hb dX11_tellByte_11 rfl (lv_at hl 0 rfl) (hp_n (n := 12) rfl ?_)
    refine q_getr (κ := 12) (k := 10) (φ := 610) (pc' := 15) C B (cw_k B.2.2 k0) fl_X11_53 rfl rfl rfl (cw_r B.2.2 k0 rfl rfl (by decide) (by decide)) dX11_tellByte_12 rfl (fun b_3 eb_3 kb_3 => ?_)
    refine q_alen (κ := 25) (t := 1) (n := 256) (x := 256) (ty := .byte) (pc' := 16) C B (cw_k B.2.2 kb_3) (by decide) rfl rfl rfl dX11_tellByte_15 rfl ?_
    refine lv_icmp_ge (tgt := 40) hx hb dX11_tellByte_16 (by decide) (fun c_4 => ?_) (fun c_4 => hp_n (n := 19) rfl ?_)
    ·
      have jc_4 := il_le c_4
      exact q_vret C B hr hlk B.2.2 dX11_tellByte_40
    ·
      have jc_4 := il_nle c_4
      refine lv_aload_n hx hb dX11_tellByte_19 rfl (lv_at hl 0 rfl) (hp_n (n := 20) rfl ?_)
      refine q_gets (κ := 12) (k := 10) (φ := 610) (pc' := 23) C B (cw_k B.2.2 k0) fl_X11_53 rfl rfl rfl eb_3 dX11_tellByte_20 rfl ?_
      refine lv_aload_n hx hb dX11_tellByte_23 rfl (lv_at hl 0 rfl) (hp_n (n := 24) rfl ?_)
      refine q_getj (κ := 12) (k := 11) (φ := 611) (pc' := 27) C B (cw_k B.2.2 k0) fl_X11_56 rfl rfl rfl ex_1 dX11_tellByte_24 rfl ?_
      refine lv_iload_n hx hb dX11_tellByte_27 rfl (lv_at hl 1 rfl) (hp_n (n := 28) rfl ?_)
      refine lv_i2b hx hb dX11_tellByte_28 rfl (hp_n (n := 29) rfl (lv_topi (fun x_5 ex_5 => ?_)))
      refine q_bas (κ := 25) (n := 256) (pc' := 30) C B (cw_k B.2.2 kb_3) (by decide) rfl (vi_of (by omega) (by omega)) rfl rfl (cw_sE B.2.2 (by decide)) dX11_tellByte_29 rfl (fun αh_6 Hh_6 Lh_6 eh_6 Bh_6 => ?_)
      refine lv_aload_n hx hb dX11_tellByte_30 rfl (lv_at hl 0 rfl) (hp_n (n := 31) rfl ?_)
      refine lv_dup hx hb dX11_tellByte_31 rfl (hp_n (n := 32) rfl ?_)
      have t_7 : x_1 = hp_I αh_6 611 a0 := by rw [eh_6]; exact ex_1
      refine q_getj (κ := 12) (k := 11) (φ := 611) (pc' := 35) C Bh_6 (cw_k Bh_6.2.2 k0) fl_X11_56 rfl rfl rfl t_7 dX11_tellByte_32 rfl ?_
      refine lv_iconst (v := 1) hx hb dX11_tellByte_35 (by decide) (hp_n (n := 36) rfl ?_)
      refine lv_iadd hx hb dX11_tellByte_36 (hp_n (n := 37) rfl (lv_topi (fun x_8 ex_8 => ?_)))
      have qx_8 : x_8.toInt = x_1.toInt + 1 := by have qa := ib_lo x_1; rw [ex_8]; exact ii_add (by omega) (by omega)
      refine q_puti (κ := 12) (k := 11) (φ := 611) (pc' := 40) C Bh_6 (cw_k Bh_6.2.2 k0) fl_X11_56 rfl rfl rfl rfl rfl rfl (cw_sI Bh_6.2.2 (by decide) (fun h => absurd h (by decide))) dX11_tellByte_37 rfl (fun αh_9 Hh_9 Lh_9 eh_9 Bh_9 => ?_)
      exact q_vret C Bh_9 hr hlk Bh_9.2.2 dX11_tellByte_40
abbrev w_X11_tellText : cw_W := ([611], [], [25], [])
set_option maxRecDepth 100000 in
set_option maxHeartbeats 4000000 in
theorem t_X11_tellText (Γ : hp_G) (l : Launch) (α : hp_T) (g : GC α) (a0 : Nat) (k0 : hp_K α a0 = 12) (i1 : Nat) (h1 : i1 < 21) : Met l yX11_tellText (hp_ws yX11_tellText cX11_tellText 3 none) (hp_rm 4 0 0) (hp_Pc Γ α [.ref a0, .ref (Γ.2.2.2.2.1 i1)]) (hp_Qv Γ (fun β => cw w_X11_tellText α β)) 0 0 (hp_A Γ) := by
  refine hp_start (by decide) ?_
  intro p e s m below meth c C hr hlk B0 hnm
  have C : hp_C Γ p m c cX11_tellText 3 s ([.ref a0, .ref (Γ.2.2.2.2.1 i1)] : List Value).toArray RX11 := C
  have hx := C.1.1
  have hb := C.1.2.1
  have hown := C.1.2.2.2.1
  have hts := C.1.2.2.2.2
  have B : hp_B Γ (cw w_X11_tellText) s α α s.heap [] := ⟨B0.1, B0.2.1, cw_rf g⟩
  have lit0 : (0 : Int32).toInt = 0 := by decide
  have lit1 : (1 : Int32).toInt = 1 := by decide
  have hl := lv_entry ([.ref a0, .ref (Γ.2.2.2.2.1 i1)]) (n := 3) (Nat.le_of_ble_eq_true rfl)
  show W p l e (hp_rm 4 0 0) s m ([.ref a0, .ref (Γ.2.2.2.2.1 i1)] : List Value).toArray below meth c s.heap [] 0 0 (MQ below (hp_Qv Γ (fun β => cw w_X11_tellText α β)) ([.ref a0, .ref (Γ.2.2.2.2.1 i1)] : List Value).toArray s 0 0 (hp_A Γ)) (entryFrame m ([.ref a0, .ref (Γ.2.2.2.2.1 i1)] : List Value).toArray 3)
  rw [lg_entry_eq]
  generalize (lg_sl ([.ref a0, .ref (Γ.2.2.2.2.1 i1)]) ++ List.replicate (3 - (lg_sl ([.ref a0, .ref (Γ.2.2.2.2.1 i1)])).length) Slot.unset).toArray = ls at hl ⊢
  have hl : lv_has ls 3 [(0, .ref a0), (1, .ref (Γ.2.2.2.2.1 i1))] := hl
  refine lv_iconst (v := 0) hx hb dX11_tellText_0 (by decide) (hp_n (n := 1) rfl ?_)
  have J2 : ∀ (nq : Nat) (αh_1 : hp_T) (Hh_1 : Heap) (Lh_1 : List Loc) (Bh_1 : hp_B Γ (cw w_X11_tellText) s α αh_1 Hh_1 Lh_1) (v2_h_1 : Int32) (ih_1_0 : 0 ≤ v2_h_1.toInt) (ls : Array Slot) (hl : lv_has ls 3 [(0, .ref a0), (1, .ref (Γ.2.2.2.2.1 i1)), (2, .int v2_h_1)]) (hmu2 : (2147483647 - v2_h_1.toInt).toNat = nq), W p l e (hp_rm 4 0 0) s m ([.ref a0, .ref (Γ.2.2.2.2.1 i1)] : List Value).toArray below meth c Hh_1 Lh_1 0 0 (MQ below (hp_Qv Γ (fun β => cw w_X11_tellText α β)) ([.ref a0, .ref (Γ.2.2.2.2.1 i1)] : List Value).toArray s 0 0 (hp_A Γ)) (F0 m 2 ls []) := by
    intro nq
    induction nq using Nat.strongRecOn with
    | ind nq ih2 =>
    intro αh_1 Hh_1 Lh_1 Bh_1 v2_h_1 ih_1_0 ls hl hmu2
    have inv2_0 := ih_1_0
    refine lv_iload_n hx hb dX11_tellText_2 rfl (lv_at hl 2 rfl) (hp_n (n := 3) rfl ?_)
    refine lv_aload_n hx hb dX11_tellText_3 rfl (lv_at hl 1 rfl) (hp_n (n := 4) rfl ?_)
    refine q_ci (pc' := 7) Bh_1 (hp_runT (i := i1) (As := []) (rest := [.int v2_h_1]) C B0.1 Bh_1 h1 (t_J0_length_8abf5 Γ l αh_1 i1 h1) lb_J0_length_8abf5 li_J0_length_8abf5 sx_J0_length_8abf5 rfl lk_X11_485 rfl (by decide) rfl hl.1 rfl (Nat.le_of_ble_eq_true rfl) dX11_tellText_4 ⟨Nat.le_refl _, Nat.le_refl _⟩) (fun _ _ h => by rw [h.1]; exact Bh_1.2.2) rfl (fun rh_2 αh_2 Hh_2 Lh_2 ph_2 Bh_2 => ?_)
    rw [ph_2.1] at Bh_2
    have lnh_2 : rh_2.toInt = (hp_len i1).toInt := by rw [ph_2.2]
    refine lv_icmp_ge (tgt := 25) hx hb dX11_tellText_7 (by decide) (fun c_3 => ?_) (fun c_3 => hp_n (n := 10) rfl ?_)
    ·
      have jc_3 := il_le c_3
      exact q_vret C Bh_2 hr hlk Bh_2.2.2 dX11_tellText_25
    ·
      have jc_3 := il_nle c_3
      refine lv_aload_n hx hb dX11_tellText_10 rfl (lv_at hl 0 rfl) (hp_n (n := 11) rfl ?_)
      refine lv_aload_n hx hb dX11_tellText_11 rfl (lv_at hl 1 rfl) (hp_n (n := 12) rfl ?_)
      refine lv_iload_n hx hb dX11_tellText_12 rfl (lv_at hl 2 rfl) (hp_n (n := 13) rfl ?_)
      refine q_ci (pc' := 16) Bh_2 (hp_runT (i := i1) (As := [.int v2_h_1]) (rest := [.ref a0]) C B0.1 Bh_2 h1 (t_J0_charAt_5068e Γ l αh_1 i1 h1 v2_h_1 (by omega) (by omega)) lb_J0_charAt_5068e li_J0_charAt_5068e sx_J0_charAt_5068e rfl lk_X11_489 rfl (by decide) rfl hl.1 rfl (Nat.le_of_ble_eq_true rfl) dX11_tellText_13 ⟨Nat.le_refl _, Nat.le_refl _⟩) (fun _ _ h => by rw [h.1]; exact Bh_2.2.2) rfl (fun rh_4 αh_4 Hh_4 Lh_4 ph_4 Bh_4 => ?_)
      rw [ph_4.1] at Bh_4
      refine q_cv (pc' := 19) Bh_4 (hp_runV (As := [.int rh_4]) (rest := []) C Bh_4 (t_X11_tellByte Γ l αh_1 Bh_4.2.2.1 a0 (cw_k Bh_4.2.2 k0) rh_4) lb_X11_tellByte lv_X11_tellByte lk_X11_493 (cw_k Bh_4.2.2 k0) rfl (by decide) rfl hl.1 rfl (Nat.le_of_ble_eq_true rfl) dX11_tellText_16 ⟨Nat.le_refl _, Nat.le_refl _⟩) (fun _ h => cw_tr Bh_4.2.2 h (by decide)) rfl (fun αh_5 Hh_5 Lh_5 ph_5 Bh_5 => ?_)
      obtain ⟨x_6, ex_6⟩ : ∃ y : Int32, y = v2_h_1 + 1 := ⟨_, rfl⟩
      have qx_6 : x_6.toInt = v2_h_1.toInt + 1 := by have q0 := ib_hi rh_2; have qa := ib_lo v2_h_1; rw [ex_6]; exact ii_add (by omega) (by omega)
      refine lv_iinc (v := x_6) (lv' := [(2, .int x_6), (0, .ref a0), (1, .ref (Γ.2.2.2.2.1 i1))]) hx hb dX11_tellText_19 hl (k := 2) rfl (by rw [ex_6]; rfl) (by decide) rfl (fun ls hl => hp_n (n := 22) rfl ?_)
      refine lv_goto (tgt := 2) hx hb dX11_tellText_22 (by decide) ?_
      exact ih2 _ (by have q0 := ib_hi rh_2; have q1 := ib_lo rh_2; have qa := ib_hi v2_h_1; have qb := ib_lo v2_h_1; have qc : (v2_h_1 + 1).toInt = v2_h_1.toInt + (1 : Int32).toInt := ii_add (by omega) (by omega); rw [ex_6]; omega) αh_5 Hh_5 Lh_5 Bh_5 x_6 (by omega) ls (lv_sub hl [1, 2, 0] rfl) rfl
  refine lv_istore_n (lv' := [(2, .int 0), (0, .ref a0), (1, .ref (Γ.2.2.2.2.1 i1))]) hx hb dX11_tellText_1 rfl hl (by decide) rfl (fun ls hl => hp_n (n := 2) rfl ?_)
  exact J2 _ α s.heap [] B 0 (by omega) ls (lv_sub hl [1, 2, 0] rfl) rfl
abbrev w_X11_tellNumber : cw_W := ([611], [], [25], [])
set_option maxRecDepth 100000 in
set_option maxHeartbeats 4000000 in
theorem t_X11_tellNumber (Γ : hp_G) (l : Launch) (α : hp_T) (g : GC α) (a0 : Nat) (k0 : hp_K α a0 = 12) (a1 : Int32) : Met l yX11_tellNumber (hp_ws yX11_tellNumber cX11_tellNumber 4 none) (hp_rm 1 0 0) (hp_Pc Γ α [.ref a0, .int a1]) (hp_Qv Γ (fun β => cw w_X11_tellNumber α β)) 0 0 (hp_A Γ) := by
  refine hp_start (by decide) ?_
  intro p e s m below meth c C hr hlk B0 hnm
  have C : hp_C Γ p m c cX11_tellNumber 4 s ([.ref a0, .int a1] : List Value).toArray RX11 := C
  have hx := C.1.1
  have hb := C.1.2.1
  have hown := C.1.2.2.2.1
  have hts := C.1.2.2.2.2
  have B : hp_B Γ (cw w_X11_tellNumber) s α α s.heap [] := ⟨B0.1, B0.2.1, cw_rf g⟩
  have lit0 : (0 : Int32).toInt = 0 := by decide
  have lit1 : (1 : Int32).toInt = 1 := by decide
  have lit8 : (8 : Int32).toInt = 8 := by decide
  have lit10 : (10 : Int32).toInt = 10 := by decide
  have lit48 : (48 : Int32).toInt = 48 := by decide
  have hl := lv_entry ([.ref a0, .int a1]) (n := 4) (Nat.le_of_ble_eq_true rfl)
  show W p l e (hp_rm 1 0 0) s m ([.ref a0, .int a1] : List Value).toArray below meth c s.heap [] 0 0 (MQ below (hp_Qv Γ (fun β => cw w_X11_tellNumber α β)) ([.ref a0, .int a1] : List Value).toArray s 0 0 (hp_A Γ)) (entryFrame m ([.ref a0, .int a1] : List Value).toArray 4)
  rw [lg_entry_eq]
  generalize (lg_sl ([.ref a0, .int a1]) ++ List.replicate (4 - (lg_sl ([.ref a0, .int a1])).length) Slot.unset).toArray = ls at hl ⊢
  have hl : lv_has ls 4 [(0, .ref a0), (1, .int a1)] := hl
  refine lv_iconst (v := 1) hx hb dX11_tellNumber_0 (by decide) (hp_n (n := 1) rfl ?_)
  refine lv_istore_n (lv' := [(2, .int 1), (0, .ref a0), (1, .int a1)]) hx hb dX11_tellNumber_1 rfl hl (by decide) rfl (fun ls hl => hp_n (n := 2) rfl ?_)
  refine lv_iconst (v := 0) hx hb dX11_tellNumber_2 (by decide) (hp_n (n := 3) rfl ?_)
  have J4 : ∀ (nq : Nat) (Hh_1 : Heap) (Lh_1 : List Loc) (Bh_1 : hp_B Γ (cw w_X11_tellNumber) s α α Hh_1 Lh_1) (v2_h_1 : Int32) (v3_h_1 : Int32) (ih_1_0 : 0 ≤ v3_h_1.toInt) (ls : Array Slot) (hl : lv_has ls 4 [(0, .ref a0), (1, .int a1), (2, .int v2_h_1), (3, .int v3_h_1)]) (hmu4 : (2147483647 - v3_h_1.toInt).toNat = nq), W p l e (hp_rm 1 0 0) s m ([.ref a0, .int a1] : List Value).toArray below meth c Hh_1 Lh_1 0 0 (MQ below (hp_Qv Γ (fun β => cw w_X11_tellNumber α β)) ([.ref a0, .int a1] : List Value).toArray s 0 0 (hp_A Γ)) (F0 m 4 ls []) := by
    intro nq
    induction nq using Nat.strongRecOn with
    | ind nq ih4 =>
    intro Hh_1 Lh_1 Bh_1 v2_h_1 v3_h_1 ih_1_0 ls hl hmu4
    have inv4_0 := ih_1_0
    refine lv_iload_n hx hb dX11_tellNumber_4 rfl (lv_at hl 3 rfl) (hp_n (n := 5) rfl ?_)
    refine lv_bipush (v := 8) hx hb dX11_tellNumber_5 (by decide) (hp_n (n := 7) rfl ?_)
    have J29 : ∀ (nq : Nat) (αh_2 : hp_T) (Hh_2 : Heap) (Lh_2 : List Loc) (Bh_2 : hp_B Γ (cw w_X11_tellNumber) s α αh_2 Hh_2 Lh_2) (v2_h_2 : Int32) (ls : Array Slot) (hl : lv_has ls 4 [(0, .ref a0), (1, .int a1), (2, .int v2_h_2)]) (hmu29 : v2_h_2.toInt.toNat = nq), W p l e (hp_rm 1 0 0) s m ([.ref a0, .int a1] : List Value).toArray below meth c Hh_2 Lh_2 0 0 (MQ below (hp_Qv Γ (fun β => cw w_X11_tellNumber α β)) ([.ref a0, .int a1] : List Value).toArray s 0 0 (hp_A Γ)) (F0 m 29 ls []) := by
      intro nq
      induction nq using Nat.strongRecOn with
      | ind nq ih29 =>
      intro αh_2 Hh_2 Lh_2 Bh_2 v2_h_2 ls hl hmu29
      refine lv_iload_n hx hb dX11_tellNumber_29 rfl (lv_at hl 2 rfl) (hp_n (n := 30) rfl ?_)
      refine lv_if_le (tgt := 54) hx hb dX11_tellNumber_30 (by decide) (fun c_3 => ?_) (fun c_3 => hp_n (n := 33) rfl ?_)
      ·
        have jc_3 := il_le c_3
        exact q_vret C Bh_2 hr hlk Bh_2.2.2 dX11_tellNumber_54
      ·
        have jc_3 := il_nle c_3
        refine lv_aload_n hx hb dX11_tellNumber_33 rfl (lv_at hl 0 rfl) (hp_n (n := 34) rfl ?_)
        refine lv_bipush (v := 48) hx hb dX11_tellNumber_34 (by decide) (hp_n (n := 36) rfl ?_)
        refine lv_iload_n hx hb dX11_tellNumber_36 rfl (lv_at hl 1 rfl) (hp_n (n := 37) rfl ?_)
        refine lv_iload_n hx hb dX11_tellNumber_37 rfl (lv_at hl 2 rfl) (hp_n (n := 38) rfl ?_)
        refine lv_idiv hx hb dX11_tellNumber_38 (by intro hz; have hz := il_eq hz; omega) (hp_n (n := 39) rfl (lv_topi (fun x_4 ex_4 => ?_)))
        refine lv_bipush (v := 10) hx hb dX11_tellNumber_39 (by decide) (hp_n (n := 41) rfl ?_)
        refine lv_irem hx hb dX11_tellNumber_41 (by decide) (hp_n (n := 42) rfl (lv_topi (fun x_5 ex_5 => ?_)))
        refine lv_iadd hx hb dX11_tellNumber_42 (hp_n (n := 43) rfl (lv_topi (fun x_6 ex_6 => ?_)))
        refine q_cv (pc' := 46) Bh_2 (hp_runV (As := [.int x_6]) (rest := []) C Bh_2 (t_X11_tellByte Γ l αh_2 Bh_2.2.2.1 a0 (cw_k Bh_2.2.2 k0) x_6) lb_X11_tellByte lv_X11_tellByte lk_X11_493 (cw_k Bh_2.2.2 k0) rfl (by decide) rfl hl.1 rfl (Nat.le_of_ble_eq_true rfl) dX11_tellNumber_43 ⟨Nat.le_refl _, Nat.le_refl _⟩) (fun _ h => cw_tr Bh_2.2.2 h (by decide)) rfl (fun αh_7 Hh_7 Lh_7 ph_7 Bh_7 => ?_)
        refine lv_iload_n hx hb dX11_tellNumber_46 rfl (lv_at hl 2 rfl) (hp_n (n := 47) rfl ?_)
        refine lv_bipush (v := 10) hx hb dX11_tellNumber_47 (by decide) (hp_n (n := 49) rfl ?_)
        refine lv_idiv hx hb dX11_tellNumber_49 (by decide) (hp_n (n := 50) rfl (lv_topi (fun x_8 ex_8 => ?_)))
        refine lv_istore_n (lv' := [(2, .int x_8), (0, .ref a0), (1, .int a1)]) hx hb dX11_tellNumber_50 rfl hl (by decide) rfl (fun ls hl => hp_n (n := 51) rfl ?_)
        refine lv_goto (tgt := 29) hx hb dX11_tellNumber_51 (by decide) ?_
        exact ih29 _ (by rw [ex_8]; have q1 := id_lt10 (x := v2_h_2) (by omega); omega) αh_7 Hh_7 Lh_7 Bh_7 x_8 ls (lv_sub hl [1, 2, 0] rfl) rfl
    refine lv_icmp_ge (tgt := 29) hx hb dX11_tellNumber_7 (by decide) (fun c_9 => ?_) (fun c_9 => hp_n (n := 10) rfl ?_)
    ·
      have jc_9 := il_le c_9
      exact J29 _ α Hh_1 Lh_1 Bh_1 v2_h_1 ls (lv_sub hl [0, 1, 2] rfl) rfl
    ·
      have jc_9 := il_nle c_9
      refine lv_iload_n hx hb dX11_tellNumber_10 rfl (lv_at hl 1 rfl) (hp_n (n := 11) rfl ?_)
      refine lv_bipush (v := 10) hx hb dX11_tellNumber_11 (by decide) (hp_n (n := 13) rfl ?_)
      refine lv_idiv hx hb dX11_tellNumber_13 (by decide) (hp_n (n := 14) rfl (lv_topi (fun x_10 ex_10 => ?_)))
      refine lv_iload_n hx hb dX11_tellNumber_14 rfl (lv_at hl 2 rfl) (hp_n (n := 15) rfl ?_)
      refine lv_icmp_lt (tgt := 29) hx hb dX11_tellNumber_15 (by decide) (fun c_11 => ?_) (fun c_11 => hp_n (n := 18) rfl ?_)
      ·
        have jc_11 := il_lt c_11
        exact J29 _ α Hh_1 Lh_1 Bh_1 v2_h_1 ls (lv_sub hl [0, 1, 2] rfl) rfl
      ·
        have jc_11 := il_nlt c_11
        refine lv_iload_n hx hb dX11_tellNumber_18 rfl (lv_at hl 2 rfl) (hp_n (n := 19) rfl ?_)
        refine lv_bipush (v := 10) hx hb dX11_tellNumber_19 (by decide) (hp_n (n := 21) rfl ?_)
        refine lv_imul hx hb dX11_tellNumber_21 (hp_n (n := 22) rfl (lv_topi (fun x_12 ex_12 => ?_)))
        refine lv_istore_n (lv' := [(2, .int x_12), (0, .ref a0), (1, .int a1), (3, .int v3_h_1)]) hx hb dX11_tellNumber_22 rfl hl (by decide) rfl (fun ls hl => hp_n (n := 23) rfl ?_)
        obtain ⟨x_13, ex_13⟩ : ∃ y : Int32, y = v3_h_1 + 1 := ⟨_, rfl⟩
        have qx_13 : x_13.toInt = v3_h_1.toInt + 1 := by have qa := ib_lo v3_h_1; rw [ex_13]; exact ii_add (by omega) (by omega)
        refine lv_iinc (v := x_13) (lv' := [(3, .int x_13), (2, .int x_12), (0, .ref a0), (1, .int a1)]) hx hb dX11_tellNumber_23 hl (k := 3) rfl (by rw [ex_13]; rfl) (by decide) rfl (fun ls hl => hp_n (n := 26) rfl ?_)
        refine lv_goto (tgt := 4) hx hb dX11_tellNumber_26 (by decide) ?_
        exact ih4 _ (by have qa := ib_hi v3_h_1; have qb := ib_lo v3_h_1; have qc : (v3_h_1 + 1).toInt = v3_h_1.toInt + (1 : Int32).toInt := ii_add (by omega) (by omega); rw [ex_13]; omega) Hh_1 Lh_1 Bh_1 x_12 x_13 (by omega) ls (lv_sub hl [2, 3, 1, 0] rfl) rfl
  refine lv_istore_n (lv' := [(3, .int 0), (2, .int 1), (0, .ref a0), (1, .int a1)]) hx hb dX11_tellNumber_3 rfl hl (by decide) rfl (fun ls hl => hp_n (n := 4) rfl ?_)
  exact J4 _ s.heap [] B 1 0 (by omega) ls (lv_sub hl [2, 3, 1, 0] rfl) rfl
abbrev w_X11_tellProof : cw_W := ([611], [], [25], [])
set_option maxRecDepth 100000 in
set_option maxHeartbeats 4000000 in
theorem t_X11_tellProof (Γ : hp_G) (l : Launch) (α : hp_T) (g : GC α) (a0 : Nat) (k0 : hp_K α a0 = 12) : Met l yX11_tellProof (hp_ws yX11_tellProof cX11_tellProof 2 none) (hp_rm 5 0 0) (hp_Pc Γ α [.ref a0]) (hp_Qv Γ (fun β => cw w_X11_tellProof α β)) 0 0 (hp_A Γ) := by
  refine hp_start (by decide) ?_
  intro p e s m below meth c C hr hlk B0 hnm
  have C : hp_C Γ p m c cX11_tellProof 2 s ([.ref a0] : List Value).toArray RX11 := C
  have hx := C.1.1
  have hb := C.1.2.1
  have hown := C.1.2.2.2.1
  have hts := C.1.2.2.2.2
  have B : hp_B Γ (cw w_X11_tellProof) s α α s.heap [] := ⟨B0.1, B0.2.1, cw_rf g⟩
  have lit0 : (0 : Int32).toInt = 0 := by decide
  have lit1 : (1 : Int32).toInt = 1 := by decide
  have hl := lv_entry ([.ref a0]) (n := 2) (Nat.le_of_ble_eq_true rfl)
  show W p l e (hp_rm 5 0 0) s m ([.ref a0] : List Value).toArray below meth c s.heap [] 0 0 (MQ below (hp_Qv Γ (fun β => cw w_X11_tellProof α β)) ([.ref a0] : List Value).toArray s 0 0 (hp_A Γ)) (entryFrame m ([.ref a0] : List Value).toArray 2)
  rw [lg_entry_eq]
  generalize (lg_sl ([.ref a0]) ++ List.replicate (2 - (lg_sl ([.ref a0])).length) Slot.unset).toArray = ls at hl ⊢
  have hl : lv_has ls 2 [(0, .ref a0)] := hl
  refine lv_aload_n hx hb dX11_tellProof_0 rfl (lv_at hl 0 rfl) (hp_n (n := 1) rfl ?_)
  refine st_ldcw hx hb hown (sr_X11_496 C.2) dX11_tellProof_1 (hp_n (n := 4) rfl ?_)
  refine q_cv (pc' := 7) B (hp_runV (As := [.ref (Γ.2.2.2.2.1 1)]) (rest := []) C B (t_X11_tellText Γ l α B.2.2.1 a0 (cw_k B.2.2 k0) 1 (by decide)) lb_X11_tellText lv_X11_tellText lk_X11_411 (cw_k B.2.2 k0) rfl (by decide) rfl hl.1 rfl (Nat.le_of_ble_eq_true rfl) dX11_tellProof_4 ⟨Nat.le_refl _, Nat.le_refl _⟩) (fun _ h => cw_tr B.2.2 h (by decide)) rfl (fun αh_1 Hh_1 Lh_1 ph_1 Bh_1 => ?_)
  refine lv_iconst (v := 0) hx hb dX11_tellProof_7 (by decide) (hp_n (n := 8) rfl ?_)
  have J9 : ∀ (nq : Nat) (αh_2 : hp_T) (Hh_2 : Heap) (Lh_2 : List Loc) (Bh_2 : hp_B Γ (cw w_X11_tellProof) s α αh_2 Hh_2 Lh_2) (v1_h_2 : Int32) (ih_2_0 : 0 ≤ v1_h_2.toInt) (ls : Array Slot) (hl : lv_has ls 2 [(0, .ref a0), (1, .int v1_h_2)]) (hmu9 : (2147483647 - v1_h_2.toInt).toNat = nq), W p l e (hp_rm 5 0 0) s m ([.ref a0] : List Value).toArray below meth c Hh_2 Lh_2 0 0 (MQ below (hp_Qv Γ (fun β => cw w_X11_tellProof α β)) ([.ref a0] : List Value).toArray s 0 0 (hp_A Γ)) (F0 m 9 ls []) := by
    intro nq
    induction nq using Nat.strongRecOn with
    | ind nq ih9 =>
    intro αh_2 Hh_2 Lh_2 Bh_2 v1_h_2 ih_2_0 ls hl hmu9
    have inv9_0 := ih_2_0
    refine lv_iload_n hx hb dX11_tellProof_9 rfl (lv_at hl 1 rfl) (hp_n (n := 10) rfl ?_)
    refine lv_aload_n hx hb dX11_tellProof_10 rfl (lv_at hl 0 rfl) (hp_n (n := 11) rfl ?_)
    refine q_getr (κ := 12) (k := 14) (φ := 614) (pc' := 14) C Bh_2 (cw_k Bh_2.2.2 k0) fl_X11_69 rfl rfl rfl (cw_r Bh_2.2.2 k0 rfl rfl (by decide) (by decide)) dX11_tellProof_11 rfl (fun b_3 eb_3 kb_3 => ?_)
    refine q_geti (κ := 6) (k := 1) (φ := 301) (pc' := 17) C Bh_2 (cw_k Bh_2.2.2 kb_3) fl_X11_132 rfl rfl rfl dX11_tellProof_14 rfl (fun x_4 ex_4 => ?_)
    refine lv_icmp_ge (tgt := 45) hx hb dX11_tellProof_17 (by decide) (fun c_5 => ?_) (fun c_5 => hp_n (n := 20) rfl ?_)
    ·
      have jc_5 := il_le c_5
      refine lv_aload_n hx hb dX11_tellProof_45 rfl (lv_at hl 0 rfl) (hp_n (n := 46) rfl ?_)
      refine st_ldcw hx hb hown (sr_X11_500 C.2) dX11_tellProof_46 (hp_n (n := 49) rfl ?_)
      refine q_cv (pc' := 52) Bh_2 (hp_runV (As := [.ref (Γ.2.2.2.2.1 6)]) (rest := []) C Bh_2 (t_X11_tellText Γ l αh_2 Bh_2.2.2.1 a0 (cw_k Bh_2.2.2 k0) 6 (by decide)) lb_X11_tellText lv_X11_tellText lk_X11_411 (cw_k Bh_2.2.2 k0) rfl (by decide) rfl hl.1 rfl (Nat.le_of_ble_eq_true rfl) dX11_tellProof_49 ⟨Nat.le_refl _, Nat.le_refl _⟩) (fun _ h => cw_tr Bh_2.2.2 h (by decide)) rfl (fun αh_6 Hh_6 Lh_6 ph_6 Bh_6 => ?_)
      exact q_vret C Bh_6 hr hlk Bh_6.2.2 dX11_tellProof_52
    ·
      have jc_5 := il_nle c_5
      refine lv_aload_n hx hb dX11_tellProof_20 rfl (lv_at hl 0 rfl) (hp_n (n := 21) rfl ?_)
      refine st_ldcw hx hb hown (sr_X11_498 C.2) dX11_tellProof_21 (hp_n (n := 24) rfl ?_)
      refine q_cv (pc' := 27) Bh_2 (hp_runV (As := [.ref (Γ.2.2.2.2.1 0)]) (rest := []) C Bh_2 (t_X11_tellText Γ l αh_2 Bh_2.2.2.1 a0 (cw_k Bh_2.2.2 k0) 0 (by decide)) lb_X11_tellText lv_X11_tellText lk_X11_411 (cw_k Bh_2.2.2 k0) rfl (by decide) rfl hl.1 rfl (Nat.le_of_ble_eq_true rfl) dX11_tellProof_24 ⟨Nat.le_refl _, Nat.le_refl _⟩) (fun _ h => cw_tr Bh_2.2.2 h (by decide)) rfl (fun αh_7 Hh_7 Lh_7 ph_7 Bh_7 => ?_)
      refine lv_aload_n hx hb dX11_tellProof_27 rfl (lv_at hl 0 rfl) (hp_n (n := 28) rfl ?_)
      refine lv_aload_n hx hb dX11_tellProof_28 rfl (lv_at hl 0 rfl) (hp_n (n := 29) rfl ?_)
      have t_8 : b_3 = hp_R αh_7 614 a0 := by rw [cw_R ph_7 a0 (by decide)]; exact eb_3
      refine q_gets (κ := 12) (k := 14) (φ := 614) (pc' := 32) C Bh_7 (cw_k Bh_7.2.2 k0) fl_X11_69 rfl rfl rfl t_8 dX11_tellProof_29 rfl ?_
      refine lv_iload_n hx hb dX11_tellProof_32 rfl (lv_at hl 1 rfl) (hp_n (n := 33) rfl ?_)
      refine q_ci (pc' := 36) Bh_7 (hp_runV (As := [.int v1_h_2]) (rest := [.ref a0]) C Bh_7 (t_X5_at Γ l αh_7 Bh_7.2.2.1 b_3 (cw_k Bh_7.2.2 kb_3) v1_h_2) lb_X5_at lv_X5_at lk_X11_135 (cw_k Bh_7.2.2 kb_3) rfl (by decide) rfl hl.1 rfl (Nat.le_of_ble_eq_true rfl) dX11_tellProof_33 ⟨Nat.le_refl _, Nat.le_refl _⟩) (fun _ _ h => by rw [h]; exact Bh_7.2.2) rfl (fun rh_9 αh_9 Hh_9 Lh_9 ph_9 Bh_9 => ?_)
      rw [ph_9] at Bh_9
      refine q_cv (pc' := 39) Bh_9 (hp_runV (As := [.int rh_9]) (rest := []) C Bh_9 (t_X11_tellNumber Γ l αh_7 Bh_9.2.2.1 a0 (cw_k Bh_9.2.2 k0) rh_9) lb_X11_tellNumber lv_X11_tellNumber lk_X11_415 (cw_k Bh_9.2.2 k0) rfl (by decide) rfl hl.1 rfl (Nat.le_of_ble_eq_true rfl) dX11_tellProof_36 ⟨Nat.le_refl _, Nat.le_refl _⟩) (fun _ h => cw_tr Bh_9.2.2 h (by decide)) rfl (fun αh_10 Hh_10 Lh_10 ph_10 Bh_10 => ?_)
      obtain ⟨x_11, ex_11⟩ : ∃ y : Int32, y = v1_h_2 + 1 := ⟨_, rfl⟩
      have qx_11 : x_11.toInt = v1_h_2.toInt + 1 := by have q0 := ib_hi x_4; have qa := ib_lo v1_h_2; rw [ex_11]; exact ii_add (by omega) (by omega)
      refine lv_iinc (v := x_11) (lv' := [(1, .int x_11), (0, .ref a0)]) hx hb dX11_tellProof_39 hl (k := 1) rfl (by rw [ex_11]; rfl) (by decide) rfl (fun ls hl => hp_n (n := 42) rfl ?_)
      refine lv_goto (tgt := 9) hx hb dX11_tellProof_42 (by decide) ?_
      exact ih9 _ (by have q0 := ib_hi x_4; have q1 := ib_lo x_4; have qa := ib_hi v1_h_2; have qb := ib_lo v1_h_2; have qc : (v1_h_2 + 1).toInt = v1_h_2.toInt + (1 : Int32).toInt := ii_add (by omega) (by omega); rw [ex_11]; omega) αh_10 Hh_10 Lh_10 Bh_10 x_11 (by omega) ls (lv_sub hl [1, 0] rfl) rfl
  refine lv_istore_n (lv' := [(1, .int 0), (0, .ref a0)]) hx hb dX11_tellProof_8 rfl hl (by decide) rfl (fun ls hl => hp_n (n := 9) rfl ?_)
  exact J9 _ αh_1 Hh_1 Lh_1 Bh_1 0 (by omega) ls (lv_sub hl [1, 0] rfl) rfl
abbrev w_X11_tell : cw_W := ([301, 453, 454, 600, 611], [], [20, 21, 22, 23, 25, 33], [])
set_option maxRecDepth 100000 in
set_option maxHeartbeats 4000000 in
theorem t_X11_tell (Γ : hp_G) (l : Launch) (α : hp_T) (g : GC α) (a0 : Nat) (k0 : hp_K α a0 = 12) (a1 : Int32) (a2 : Int32) (a3 : Int32) : Met l yX11_tell (hp_ws yX11_tell cX11_tell 6 (some .int)) (hp_rm 6 0 0) (hp_Pc Γ α [.ref a0, .int a1, .int a2, .int a3]) (hp_Qi Γ (fun r β => cw w_X11_tell α β)) 0 0 (hp_A Γ) := by
  refine hp_start (by decide) ?_
  intro p e s m below meth c C hr hlk B0 hnm
  have C : hp_C Γ p m c cX11_tell 6 s ([.ref a0, .int a1, .int a2, .int a3] : List Value).toArray RX11 := C
  have hx := C.1.1
  have hb := C.1.2.1
  have hown := C.1.2.2.2.1
  have hts := C.1.2.2.2.2
  have B : hp_B Γ (cw w_X11_tell) s α α s.heap [] := ⟨B0.1, B0.2.1, cw_rf g⟩
  have lit0 : (0 : Int32).toInt = 0 := by decide
  have hl := lv_entry ([.ref a0, .int a1, .int a2, .int a3]) (n := 6) (Nat.le_of_ble_eq_true rfl)
  show W p l e (hp_rm 6 0 0) s m ([.ref a0, .int a1, .int a2, .int a3] : List Value).toArray below meth c s.heap [] 0 0 (MQ below (hp_Qi Γ (fun r β => cw w_X11_tell α β)) ([.ref a0, .int a1, .int a2, .int a3] : List Value).toArray s 0 0 (hp_A Γ)) (entryFrame m ([.ref a0, .int a1, .int a2, .int a3] : List Value).toArray 6)
  rw [lg_entry_eq]
  generalize (lg_sl ([.ref a0, .int a1, .int a2, .int a3]) ++ List.replicate (6 - (lg_sl ([.ref a0, .int a1, .int a2, .int a3])).length) Slot.unset).toArray = ls at hl ⊢
  have hl : lv_has ls 6 [(0, .ref a0), (1, .int a1), (2, .int a2), (3, .int a3)] := hl
  refine lv_aload_n hx hb dX11_tell_0 rfl (lv_at hl 0 rfl) (hp_n (n := 1) rfl ?_)
  refine q_getr (κ := 12) (k := 1) (φ := 601) (pc' := 4) C B (cw_k B.2.2 k0) fl_X11_16 rfl rfl rfl (cw_r B.2.2 k0 rfl rfl (by decide) (by decide)) dX11_tell_1 rfl (fun b_1 eb_1 kb_1 => ?_)
  refine lv_iload_n hx hb dX11_tell_4 rfl (lv_at hl 1 rfl) (hp_n (n := 5) rfl ?_)
  refine q_cq (pc' := 8) B (hp_runV (As := [.int a1]) (rest := []) C B (t_X10_logAt Γ l α B.2.2.1 b_1 (cw_k B.2.2 kb_1) a1) lb_X10_logAt lv_X10_logAt lk_X11_163 (cw_k B.2.2 kb_1) rfl (by decide) rfl hl.1 rfl (Nat.le_of_ble_eq_true rfl) dX11_tell_5 ⟨Nat.le_refl _, Nat.le_refl _⟩) (fun _ _ h => by rw [h.1]; exact B.2.2) rfl (fun rh_2 αh_2 Hh_2 Lh_2 ph_2 Bh_2 => ?_)
  rw [ph_2.1] at Bh_2
  rcases rh_2 with _ | bh_2
  ·
    refine lv_astoreN (lv' := [(4, .null), (0, .ref a0), (1, .int a1), (2, .int a2), (3, .int a3)]) hx hb dX11_tell_8 hl (by decide) rfl (fun ls hl => hp_n (n := 10) rfl ?_)
    refine lv_aloadN hx hb dX11_tell_10 (lv_at hl 0 rfl) (hp_n (n := 12) rfl ?_)
    refine lv_iload_n hx hb dX11_tell_12 rfl (lv_at hl 3 rfl) (hp_n (n := 13) rfl ?_)
    refine lv_iload_n hx hb dX11_tell_13 rfl (lv_at hl 4 rfl) (hp_n (n := 14) rfl ?_)
    refine q_ci (pc' := 17) Bh_2 (hp_runS (As := [va_rf none, .int a2, .int a3]) (rest := []) C Bh_2 (t_X11_wrongInclusion Γ l α Bh_2.2.2.1 none (fun b h => by cases h) a2 a3) lb_X11_wrongInclusion ls_X11_wrongInclusion lk_X11_264 rfl (by decide) rfl hl.1 rfl (Nat.le_of_ble_eq_true rfl) dX11_tell_14 ⟨Nat.le_refl _, Nat.le_refl _⟩) (fun _ _ h => by rw [h]; exact Bh_2.2.2) rfl (fun rh_3 αh_3 Hh_3 Lh_3 ph_3 Bh_3 => ?_)
    rw [ph_3] at Bh_3
    refine lv_istore (lv' := [(5, .int rh_3), (4, .null), (0, .ref a0), (1, .int a1), (2, .int a2), (3, .int a3)]) hx hb dX11_tell_17 hl (by decide) rfl (fun ls hl => hp_n (n := 19) rfl ?_)
    refine lv_iload hx hb dX11_tell_19 (lv_at hl 0 rfl) (hp_n (n := 21) rfl ?_)
    have J29 : ∀ (Hh_4 : Heap) (Lh_4 : List Loc) (Bh_4 : hp_B Γ (cw w_X11_tell) s α α Hh_4 Lh_4) (ls : Array Slot) (hl : lv_has ls 6 [(0, .ref a0), (5, .int rh_3)]), W p l e (hp_rm 6 0 0) s m ([.ref a0, .int a1, .int a2, .int a3] : List Value).toArray below meth c Hh_4 Lh_4 0 0 (MQ below (hp_Qi Γ (fun r β => cw w_X11_tell α β)) ([.ref a0, .int a1, .int a2, .int a3] : List Value).toArray s 0 0 (hp_A Γ)) (F0 m 29 ls []) := by
      intro Hh_4 Lh_4 Bh_4 ls hl
      refine lv_aload_n hx hb dX11_tell_29 rfl (lv_at hl 0 rfl) (hp_n (n := 30) rfl ?_)
      refine lv_iload hx hb dX11_tell_30 (lv_at hl 1 rfl) (hp_n (n := 32) rfl ?_)
      refine q_ci (pc' := 35) Bh_4 (hp_runV (As := [.int rh_3]) (rest := []) C Bh_4 (t_X11_refuse Γ l α Bh_4.2.2.1 a0 (cw_k Bh_4.2.2 k0) rh_3) lb_X11_refuse lv_X11_refuse lk_X11_98 (cw_k Bh_4.2.2 k0) rfl (by decide) rfl hl.1 rfl (Nat.le_of_ble_eq_true rfl) dX11_tell_32 ⟨Nat.le_refl _, Nat.le_refl _⟩) (fun _ _ h => cw_tr Bh_4.2.2 h (by decide)) rfl (fun rh_5 αh_5 Hh_5 Lh_5 ph_5 Bh_5 => ?_)
      exact q_iret C Bh_5 hr hlk Bh_5.2.2 dX11_tell_35
    refine lv_if_ne (tgt := 29) hx hb dX11_tell_21 (by decide) (fun c_6 => ?_) (fun c_6 => hp_n (n := 24) rfl ?_)
    ·
      have jc_6 := il_ne c_6
      exact J29 Hh_3 Lh_3 Bh_3 ls (lv_sub hl [2, 0] rfl)
    ·
      have jc_6 := il_eq c_6
      refine lv_aloadN hx hb dX11_tell_24 (lv_at hl 1 rfl) (hp_n (n := 26) rfl ?_)
      refine lv_ifnonnullN hx hb dX11_tell_26 (hp_n (n := 29) rfl ?_)
      exact J29 Hh_3 Lh_3 Bh_3 ls (lv_sub hl [2, 0] rfl)
  ·
    have kbh_2 : hp_K α bh_2 = 3 := cw_k' Bh_2.2.2 (ph_2.2 bh_2 rfl)
    refine lv_astore (lv' := [(4, .ref bh_2), (0, .ref a0), (1, .int a1), (2, .int a2), (3, .int a3)]) hx hb dX11_tell_8 hl (by decide) rfl (fun ls hl => hp_n (n := 10) rfl ?_)
    refine lv_aload hx hb dX11_tell_10 (lv_at hl 0 rfl) (hp_n (n := 12) rfl ?_)
    refine lv_iload_n hx hb dX11_tell_12 rfl (lv_at hl 3 rfl) (hp_n (n := 13) rfl ?_)
    refine lv_iload_n hx hb dX11_tell_13 rfl (lv_at hl 4 rfl) (hp_n (n := 14) rfl ?_)
    refine q_ci (pc' := 17) Bh_2 (hp_runS (As := [va_rf (some bh_2), .int a2, .int a3]) (rest := []) C Bh_2 (t_X11_wrongInclusion Γ l α Bh_2.2.2.1 (some bh_2) (fun b h => by cases h; exact (cw_k Bh_2.2.2 kbh_2)) a2 a3) lb_X11_wrongInclusion ls_X11_wrongInclusion lk_X11_264 rfl (by decide) rfl hl.1 rfl (Nat.le_of_ble_eq_true rfl) dX11_tell_14 ⟨Nat.le_refl _, Nat.le_refl _⟩) (fun _ _ h => by rw [h]; exact Bh_2.2.2) rfl (fun rh_7 αh_7 Hh_7 Lh_7 ph_7 Bh_7 => ?_)
    rw [ph_7] at Bh_7
    refine lv_istore (lv' := [(5, .int rh_7), (4, .ref bh_2), (0, .ref a0), (1, .int a1), (2, .int a2), (3, .int a3)]) hx hb dX11_tell_17 hl (by decide) rfl (fun ls hl => hp_n (n := 19) rfl ?_)
    refine lv_iload hx hb dX11_tell_19 (lv_at hl 0 rfl) (hp_n (n := 21) rfl ?_)
    have J29 : ∀ (Hh_8 : Heap) (Lh_8 : List Loc) (Bh_8 : hp_B Γ (cw w_X11_tell) s α α Hh_8 Lh_8) (ls : Array Slot) (hl : lv_has ls 6 [(0, .ref a0), (5, .int rh_7)]), W p l e (hp_rm 6 0 0) s m ([.ref a0, .int a1, .int a2, .int a3] : List Value).toArray below meth c Hh_8 Lh_8 0 0 (MQ below (hp_Qi Γ (fun r β => cw w_X11_tell α β)) ([.ref a0, .int a1, .int a2, .int a3] : List Value).toArray s 0 0 (hp_A Γ)) (F0 m 29 ls []) := by
      intro Hh_8 Lh_8 Bh_8 ls hl
      refine lv_aload_n hx hb dX11_tell_29 rfl (lv_at hl 0 rfl) (hp_n (n := 30) rfl ?_)
      refine lv_iload hx hb dX11_tell_30 (lv_at hl 1 rfl) (hp_n (n := 32) rfl ?_)
      refine q_ci (pc' := 35) Bh_8 (hp_runV (As := [.int rh_7]) (rest := []) C Bh_8 (t_X11_refuse Γ l α Bh_8.2.2.1 a0 (cw_k Bh_8.2.2 k0) rh_7) lb_X11_refuse lv_X11_refuse lk_X11_98 (cw_k Bh_8.2.2 k0) rfl (by decide) rfl hl.1 rfl (Nat.le_of_ble_eq_true rfl) dX11_tell_32 ⟨Nat.le_refl _, Nat.le_refl _⟩) (fun _ _ h => cw_tr Bh_8.2.2 h (by decide)) rfl (fun rh_9 αh_9 Hh_9 Lh_9 ph_9 Bh_9 => ?_)
      exact q_iret C Bh_9 hr hlk Bh_9.2.2 dX11_tell_35
    refine lv_if_ne (tgt := 29) hx hb dX11_tell_21 (by decide) (fun c_10 => ?_) (fun c_10 => hp_n (n := 24) rfl ?_)
    ·
      have jc_10 := il_ne c_10
      exact J29 Hh_7 Lh_7 Bh_7 ls (lv_sub hl [2, 0] rfl)
    ·
      have jc_10 := il_eq c_10
      refine lv_aload hx hb dX11_tell_24 (lv_at hl 1 rfl) (hp_n (n := 26) rfl ?_)
      refine lv_ifnonnull (tgt := 36) hx hb dX11_tell_26 (by decide) ?_
      refine lv_aload_n hx hb dX11_tell_36 rfl (lv_at hl 2 rfl) (hp_n (n := 37) rfl ?_)
      refine q_getr (κ := 12) (k := 12) (φ := 612) (pc' := 40) C Bh_7 (cw_k Bh_7.2.2 k0) fl_X11_62 rfl rfl rfl (cw_r Bh_7.2.2 k0 rfl rfl (by decide) (by decide)) dX11_tell_37 rfl (fun b_11 eb_11 kb_11 => ?_)
      refine lv_iload_n hx hb dX11_tell_40 rfl (lv_at hl 4 rfl) (hp_n (n := 41) rfl ?_)
      refine lv_iload_n hx hb dX11_tell_41 rfl (lv_at hl 5 rfl) (hp_n (n := 42) rfl ?_)
      refine q_cv (pc' := 45) Bh_7 (hp_runV (As := [.int a2, .int a3]) (rest := []) C Bh_7 (t_X8_toThing Γ l α Bh_7.2.2.1 b_11 (cw_k Bh_7.2.2 kb_11) a2 a3) lb_X8_toThing lv_X8_toThing lk_X11_267 (cw_k Bh_7.2.2 kb_11) rfl (by decide) rfl hl.1 rfl (Nat.le_of_ble_eq_true rfl) dX11_tell_42 ⟨Nat.le_refl _, Nat.le_refl _⟩) (fun _ h => cw_tr Bh_7.2.2 h (by decide)) rfl (fun αh_12 Hh_12 Lh_12 ph_12 Bh_12 => ?_)
      refine lv_aload_n hx hb dX11_tell_45 rfl (lv_at hl 2 rfl) (hp_n (n := 46) rfl ?_)
      have t_13 : b_1 = hp_R αh_12 601 a0 := by rw [cw_R ph_12 a0 (by decide)]; exact eb_1
      refine q_gets (κ := 12) (k := 1) (φ := 601) (pc' := 49) C Bh_12 (cw_k Bh_12.2.2 k0) fl_X11_16 rfl rfl rfl t_13 dX11_tell_46 rfl ?_
      refine lv_aload_n hx hb dX11_tell_49 rfl (lv_at hl 2 rfl) (hp_n (n := 50) rfl ?_)
      have t_14 : b_11 = hp_R αh_12 612 a0 := by rw [cw_R ph_12 a0 (by decide)]; exact eb_11
      refine q_gets (κ := 12) (k := 12) (φ := 612) (pc' := 53) C Bh_12 (cw_k Bh_12.2.2 k0) fl_X11_62 rfl rfl rfl t_14 dX11_tell_50 rfl ?_
      refine lv_aload hx hb dX11_tell_53 (lv_at hl 1 rfl) (hp_n (n := 55) rfl ?_)
      refine lv_aload_n hx hb dX11_tell_55 rfl (lv_at hl 2 rfl) (hp_n (n := 56) rfl ?_)
      refine q_getr (κ := 12) (k := 14) (φ := 614) (pc' := 59) C Bh_12 (cw_k Bh_12.2.2 k0) fl_X11_69 rfl rfl rfl (cw_r Bh_12.2.2 k0 rfl rfl (by decide) (by decide)) dX11_tell_56 rfl (fun b_15 eb_15 kb_15 => ?_)
      refine q_cv (pc' := 62) Bh_12 (hp_runV (As := [.ref b_11, va_rf (some bh_2), .ref b_15]) (rest := []) C Bh_12 (t_X10_marksAlong Γ l αh_12 Bh_12.2.2.1 b_1 (cw_k Bh_12.2.2 kb_1) b_11 (cw_k Bh_12.2.2 kb_11) (some bh_2) (fun b h => by cases h; exact (cw_k Bh_12.2.2 kbh_2)) b_15 (cw_k Bh_12.2.2 kb_15)) lb_X10_marksAlong lv_X10_marksAlong lk_X11_270 (cw_k Bh_12.2.2 kb_1) rfl (by decide) rfl hl.1 rfl (Nat.le_of_ble_eq_true rfl) dX11_tell_59 ⟨Nat.le_refl _, Nat.le_refl _⟩) (fun _ h => cw_tr Bh_12.2.2 h (by decide)) rfl (fun αh_16 Hh_16 Lh_16 ph_16 Bh_16 => ?_)
      refine lv_aload_n hx hb dX11_tell_62 rfl (lv_at hl 2 rfl) (hp_n (n := 63) rfl ?_)
      refine lv_iconst (v := 0) hx hb dX11_tell_63 (by decide) (hp_n (n := 64) rfl ?_)
      refine q_puti (κ := 12) (k := 11) (φ := 611) (pc' := 67) C Bh_16 (cw_k Bh_16.2.2 k0) fl_X11_56 rfl rfl rfl rfl rfl rfl (cw_sI Bh_16.2.2 (by decide) (fun h => absurd h (by decide))) dX11_tell_64 rfl (fun αh_17 Hh_17 Lh_17 eh_17 Bh_17 => ?_)
      refine lv_aload_n hx hb dX11_tell_67 rfl (lv_at hl 2 rfl) (hp_n (n := 68) rfl ?_)
      refine st_ldcw hx hb hown (sr_X11_409 C.2) dX11_tell_68 (hp_n (n := 71) rfl ?_)
      refine q_cv (pc' := 74) Bh_17 (hp_runV (As := [.ref (Γ.2.2.2.2.1 15)]) (rest := []) C Bh_17 (t_X11_tellText Γ l αh_17 Bh_17.2.2.1 a0 (cw_k Bh_17.2.2 k0) 15 (by decide)) lb_X11_tellText lv_X11_tellText lk_X11_411 (cw_k Bh_17.2.2 k0) rfl (by decide) rfl hl.1 rfl (Nat.le_of_ble_eq_true rfl) dX11_tell_71 ⟨Nat.le_refl _, Nat.le_refl _⟩) (fun _ h => cw_tr Bh_17.2.2 h (by decide)) rfl (fun αh_18 Hh_18 Lh_18 ph_18 Bh_18 => ?_)
      refine lv_aload_n hx hb dX11_tell_74 rfl (lv_at hl 2 rfl) (hp_n (n := 75) rfl ?_)
      refine lv_iload_n hx hb dX11_tell_75 rfl (lv_at hl 4 rfl) (hp_n (n := 76) rfl ?_)
      refine q_cv (pc' := 79) Bh_18 (hp_runV (As := [.int a2]) (rest := []) C Bh_18 (t_X11_tellNumber Γ l αh_18 Bh_18.2.2.1 a0 (cw_k Bh_18.2.2 k0) a2) lb_X11_tellNumber lv_X11_tellNumber lk_X11_415 (cw_k Bh_18.2.2 k0) rfl (by decide) rfl hl.1 rfl (Nat.le_of_ble_eq_true rfl) dX11_tell_76 ⟨Nat.le_refl _, Nat.le_refl _⟩) (fun _ h => cw_tr Bh_18.2.2 h (by decide)) rfl (fun αh_19 Hh_19 Lh_19 ph_19 Bh_19 => ?_)
      refine lv_aload_n hx hb dX11_tell_79 rfl (lv_at hl 2 rfl) (hp_n (n := 80) rfl ?_)
      refine st_ldcw hx hb hown (sr_X11_418 C.2) dX11_tell_80 (hp_n (n := 83) rfl ?_)
      refine q_cv (pc' := 86) Bh_19 (hp_runV (As := [.ref (Γ.2.2.2.2.1 4)]) (rest := []) C Bh_19 (t_X11_tellText Γ l αh_19 Bh_19.2.2.1 a0 (cw_k Bh_19.2.2 k0) 4 (by decide)) lb_X11_tellText lv_X11_tellText lk_X11_411 (cw_k Bh_19.2.2 k0) rfl (by decide) rfl hl.1 rfl (Nat.le_of_ble_eq_true rfl) dX11_tell_83 ⟨Nat.le_refl _, Nat.le_refl _⟩) (fun _ h => cw_tr Bh_19.2.2 h (by decide)) rfl (fun αh_20 Hh_20 Lh_20 ph_20 Bh_20 => ?_)
      refine lv_aload_n hx hb dX11_tell_86 rfl (lv_at hl 2 rfl) (hp_n (n := 87) rfl ?_)
      refine lv_iload_n hx hb dX11_tell_87 rfl (lv_at hl 5 rfl) (hp_n (n := 88) rfl ?_)
      refine q_cv (pc' := 91) Bh_20 (hp_runV (As := [.int a3]) (rest := []) C Bh_20 (t_X11_tellNumber Γ l αh_20 Bh_20.2.2.1 a0 (cw_k Bh_20.2.2 k0) a3) lb_X11_tellNumber lv_X11_tellNumber lk_X11_415 (cw_k Bh_20.2.2 k0) rfl (by decide) rfl hl.1 rfl (Nat.le_of_ble_eq_true rfl) dX11_tell_88 ⟨Nat.le_refl _, Nat.le_refl _⟩) (fun _ h => cw_tr Bh_20.2.2 h (by decide)) rfl (fun αh_21 Hh_21 Lh_21 ph_21 Bh_21 => ?_)
      refine lv_aload_n hx hb dX11_tell_91 rfl (lv_at hl 2 rfl) (hp_n (n := 92) rfl ?_)
      refine st_ldcw hx hb hown (sr_X11_420 C.2) dX11_tell_92 (hp_n (n := 95) rfl ?_)
      refine q_cv (pc' := 98) Bh_21 (hp_runV (As := [.ref (Γ.2.2.2.2.1 3)]) (rest := []) C Bh_21 (t_X11_tellText Γ l αh_21 Bh_21.2.2.1 a0 (cw_k Bh_21.2.2 k0) 3 (by decide)) lb_X11_tellText lv_X11_tellText lk_X11_411 (cw_k Bh_21.2.2 k0) rfl (by decide) rfl hl.1 rfl (Nat.le_of_ble_eq_true rfl) dX11_tell_95 ⟨Nat.le_refl _, Nat.le_refl _⟩) (fun _ h => cw_tr Bh_21.2.2 h (by decide)) rfl (fun αh_22 Hh_22 Lh_22 ph_22 Bh_22 => ?_)
      refine lv_aload_n hx hb dX11_tell_98 rfl (lv_at hl 2 rfl) (hp_n (n := 99) rfl ?_)
      refine lv_aload hx hb dX11_tell_99 (lv_at hl 1 rfl) (hp_n (n := 101) rfl ?_)
      refine lv_iload_n hx hb dX11_tell_101 rfl (lv_at hl 4 rfl) (hp_n (n := 102) rfl ?_)
      refine q_ci (pc' := 105) Bh_22 (hp_runV (As := [.int a2]) (rest := [.ref a0]) C Bh_22 (t_X2_markAt Γ l αh_22 Bh_22.2.2.1 bh_2 (cw_k Bh_22.2.2 kbh_2) a2) lb_X2_markAt lv_X2_markAt lk_X11_174 (cw_k Bh_22.2.2 kbh_2) rfl (by decide) rfl hl.1 rfl (Nat.le_of_ble_eq_true rfl) dX11_tell_102 ⟨Nat.le_refl _, Nat.le_refl _⟩) (fun _ _ h => by rw [h]; exact Bh_22.2.2) rfl (fun rh_23 αh_23 Hh_23 Lh_23 ph_23 Bh_23 => ?_)
      rw [ph_23] at Bh_23
      refine q_cv (pc' := 108) Bh_23 (hp_runV (As := [.int rh_23]) (rest := []) C Bh_23 (t_X11_tellNumber Γ l αh_22 Bh_23.2.2.1 a0 (cw_k Bh_23.2.2 k0) rh_23) lb_X11_tellNumber lv_X11_tellNumber lk_X11_415 (cw_k Bh_23.2.2 k0) rfl (by decide) rfl hl.1 rfl (Nat.le_of_ble_eq_true rfl) dX11_tell_105 ⟨Nat.le_refl _, Nat.le_refl _⟩) (fun _ h => cw_tr Bh_23.2.2 h (by decide)) rfl (fun αh_24 Hh_24 Lh_24 ph_24 Bh_24 => ?_)
      refine lv_aload_n hx hb dX11_tell_108 rfl (lv_at hl 2 rfl) (hp_n (n := 109) rfl ?_)
      refine st_ldcw hx hb hown (sr_X11_422 C.2) dX11_tell_109 (hp_n (n := 112) rfl ?_)
      refine q_cv (pc' := 115) Bh_24 (hp_runV (As := [.ref (Γ.2.2.2.2.1 2)]) (rest := []) C Bh_24 (t_X11_tellText Γ l αh_24 Bh_24.2.2.1 a0 (cw_k Bh_24.2.2 k0) 2 (by decide)) lb_X11_tellText lv_X11_tellText lk_X11_411 (cw_k Bh_24.2.2 k0) rfl (by decide) rfl hl.1 rfl (Nat.le_of_ble_eq_true rfl) dX11_tell_112 ⟨Nat.le_refl _, Nat.le_refl _⟩) (fun _ h => cw_tr Bh_24.2.2 h (by decide)) rfl (fun αh_25 Hh_25 Lh_25 ph_25 Bh_25 => ?_)
      refine lv_aload_n hx hb dX11_tell_115 rfl (lv_at hl 2 rfl) (hp_n (n := 116) rfl ?_)
      refine lv_aload_n hx hb dX11_tell_116 rfl (lv_at hl 2 rfl) (hp_n (n := 117) rfl ?_)
      have t_26 : b_1 = hp_R αh_16 601 a0 := by rw [cw_R ph_16 a0 (by decide)]; exact t_13
      have t_27 : b_1 = hp_R αh_17 601 a0 := by rw [eh_17]; exact t_26
      have t_28 : b_1 = hp_R αh_18 601 a0 := by rw [cw_R ph_18 a0 (by decide)]; exact t_27
      have t_29 : b_1 = hp_R αh_19 601 a0 := by rw [cw_R ph_19 a0 (by decide)]; exact t_28
      have t_30 : b_1 = hp_R αh_20 601 a0 := by rw [cw_R ph_20 a0 (by decide)]; exact t_29
      have t_31 : b_1 = hp_R αh_21 601 a0 := by rw [cw_R ph_21 a0 (by decide)]; exact t_30
      have t_32 : b_1 = hp_R αh_22 601 a0 := by rw [cw_R ph_22 a0 (by decide)]; exact t_31
      have t_33 : b_1 = hp_R αh_24 601 a0 := by rw [cw_R ph_24 a0 (by decide)]; exact t_32
      have t_34 : b_1 = hp_R αh_25 601 a0 := by rw [cw_R ph_25 a0 (by decide)]; exact t_33
      refine q_gets (κ := 12) (k := 1) (φ := 601) (pc' := 120) C Bh_25 (cw_k Bh_25.2.2 k0) fl_X11_16 rfl rfl rfl t_34 dX11_tell_117 rfl ?_
      refine lv_aload hx hb dX11_tell_120 (lv_at hl 1 rfl) (hp_n (n := 122) rfl ?_)
      refine lv_iload_n hx hb dX11_tell_122 rfl (lv_at hl 5 rfl) (hp_n (n := 123) rfl ?_)
      refine q_ci (pc' := 126) Bh_25 (hp_runV (As := [va_rf (some bh_2), .int a3]) (rest := [.ref a0]) C Bh_25 (t_X10_headOf Γ l αh_25 Bh_25.2.2.1 b_1 (cw_k Bh_25.2.2 kb_1) (some bh_2) (fun b h => by cases h; exact (cw_k Bh_25.2.2 kbh_2)) a3) lb_X10_headOf lv_X10_headOf lk_X11_184 (cw_k Bh_25.2.2 kb_1) rfl (by decide) rfl hl.1 rfl (Nat.le_of_ble_eq_true rfl) dX11_tell_123 ⟨Nat.le_refl _, Nat.le_refl _⟩) (fun _ _ h => cw_tr Bh_25.2.2 h (by decide)) rfl (fun rh_35 αh_35 Hh_35 Lh_35 ph_35 Bh_35 => ?_)
      refine q_cv (pc' := 129) Bh_35 (hp_runV (As := [.int rh_35]) (rest := []) C Bh_35 (t_X11_tellNumber Γ l αh_35 Bh_35.2.2.1 a0 (cw_k Bh_35.2.2 k0) rh_35) lb_X11_tellNumber lv_X11_tellNumber lk_X11_415 (cw_k Bh_35.2.2 k0) rfl (by decide) rfl hl.1 rfl (Nat.le_of_ble_eq_true rfl) dX11_tell_126 ⟨Nat.le_refl _, Nat.le_refl _⟩) (fun _ h => cw_tr Bh_35.2.2 h (by decide)) rfl (fun αh_36 Hh_36 Lh_36 ph_36 Bh_36 => ?_)
      refine lv_aload_n hx hb dX11_tell_129 rfl (lv_at hl 2 rfl) (hp_n (n := 130) rfl ?_)
      refine q_cv (pc' := 133) Bh_36 (hp_runV (As := []) (rest := []) C Bh_36 (t_X11_tellProof Γ l αh_36 Bh_36.2.2.1 a0 (cw_k Bh_36.2.2 k0)) lb_X11_tellProof lv_X11_tellProof lk_X11_424 (cw_k Bh_36.2.2 k0) rfl (by decide) rfl hl.1 rfl (Nat.le_of_ble_eq_true rfl) dX11_tell_130 ⟨Nat.le_refl _, Nat.le_refl _⟩) (fun _ h => cw_tr Bh_36.2.2 h (by decide)) rfl (fun αh_37 Hh_37 Lh_37 ph_37 Bh_37 => ?_)
      refine lv_aload_n hx hb dX11_tell_133 rfl (lv_at hl 2 rfl) (hp_n (n := 134) rfl ?_)
      refine lv_aload_n hx hb dX11_tell_134 rfl (lv_at hl 2 rfl) (hp_n (n := 135) rfl ?_)
      have t_38 : 0 = hp_I αh_17 611 a0 := by rw [eh_17]; exact hp_I_at.symm
      refine q_geti (κ := 12) (k := 11) (φ := 611) (pc' := 138) C Bh_37 (cw_k Bh_37.2.2 k0) fl_X11_56 rfl rfl rfl dX11_tell_135 rfl (fun x_39 ex_39 => ?_)
      refine q_ci (pc' := 141) Bh_37 (hp_runV (As := [.int x_39]) (rest := []) C Bh_37 (t_X11_answer Γ l αh_37 Bh_37.2.2.1 a0 (cw_k Bh_37.2.2 k0) x_39) lb_X11_answer lv_X11_answer lk_X11_115 (cw_k Bh_37.2.2 k0) rfl (by decide) rfl hl.1 rfl (Nat.le_of_ble_eq_true rfl) dX11_tell_138 ⟨Nat.le_refl _, Nat.le_refl _⟩) (fun _ _ h => cw_tr Bh_37.2.2 h (by decide)) rfl (fun rh_40 αh_40 Hh_40 Lh_40 ph_40 Bh_40 => ?_)
      exact q_iret C Bh_40 hr hlk Bh_40.2.2 dX11_tell_141
abbrev w_X11_tellGrowth : cw_W := ([301, 453, 454, 600, 611], [], [20, 21, 22, 23, 25, 33], [])
set_option maxRecDepth 100000 in
set_option maxHeartbeats 4000000 in
theorem t_X11_tellGrowth (Γ : hp_G) (l : Launch) (α : hp_T) (g : GC α) (a0 : Nat) (k0 : hp_K α a0 = 12) (a1 : Int32) (a2 : Int32) (a3 : Int32) : Met l yX11_tellGrowth (hp_ws yX11_tellGrowth cX11_tellGrowth 6 (some .int)) (hp_rm 6 0 0) (hp_Pc Γ α [.ref a0, .int a1, .int a2, .int a3]) (hp_Qi Γ (fun r β => cw w_X11_tellGrowth α β)) 0 0 (hp_A Γ) := by
  refine hp_start (by decide) ?_
  intro p e s m below meth c C hr hlk B0 hnm
  have C : hp_C Γ p m c cX11_tellGrowth 6 s ([.ref a0, .int a1, .int a2, .int a3] : List Value).toArray RX11 := C
  have hx := C.1.1
  have hb := C.1.2.1
  have hown := C.1.2.2.2.1
  have hts := C.1.2.2.2.2
  have B : hp_B Γ (cw w_X11_tellGrowth) s α α s.heap [] := ⟨B0.1, B0.2.1, cw_rf g⟩
  have lit0 : (0 : Int32).toInt = 0 := by decide
  have hl := lv_entry ([.ref a0, .int a1, .int a2, .int a3]) (n := 6) (Nat.le_of_ble_eq_true rfl)
  show W p l e (hp_rm 6 0 0) s m ([.ref a0, .int a1, .int a2, .int a3] : List Value).toArray below meth c s.heap [] 0 0 (MQ below (hp_Qi Γ (fun r β => cw w_X11_tellGrowth α β)) ([.ref a0, .int a1, .int a2, .int a3] : List Value).toArray s 0 0 (hp_A Γ)) (entryFrame m ([.ref a0, .int a1, .int a2, .int a3] : List Value).toArray 6)
  rw [lg_entry_eq]
  generalize (lg_sl ([.ref a0, .int a1, .int a2, .int a3]) ++ List.replicate (6 - (lg_sl ([.ref a0, .int a1, .int a2, .int a3])).length) Slot.unset).toArray = ls at hl ⊢
  have hl : lv_has ls 6 [(0, .ref a0), (1, .int a1), (2, .int a2), (3, .int a3)] := hl
  refine lv_aload_n hx hb dX11_tellGrowth_0 rfl (lv_at hl 0 rfl) (hp_n (n := 1) rfl ?_)
  refine q_getr (κ := 12) (k := 1) (φ := 601) (pc' := 4) C B (cw_k B.2.2 k0) fl_X11_16 rfl rfl rfl (cw_r B.2.2 k0 rfl rfl (by decide) (by decide)) dX11_tellGrowth_1 rfl (fun b_1 eb_1 kb_1 => ?_)
  refine lv_iload_n hx hb dX11_tellGrowth_4 rfl (lv_at hl 1 rfl) (hp_n (n := 5) rfl ?_)
  refine q_cq (pc' := 8) B (hp_runV (As := [.int a1]) (rest := []) C B (t_X10_logAt Γ l α B.2.2.1 b_1 (cw_k B.2.2 kb_1) a1) lb_X10_logAt lv_X10_logAt lk_X11_163 (cw_k B.2.2 kb_1) rfl (by decide) rfl hl.1 rfl (Nat.le_of_ble_eq_true rfl) dX11_tellGrowth_5 ⟨Nat.le_refl _, Nat.le_refl _⟩) (fun _ _ h => by rw [h.1]; exact B.2.2) rfl (fun rh_2 αh_2 Hh_2 Lh_2 ph_2 Bh_2 => ?_)
  rw [ph_2.1] at Bh_2
  rcases rh_2 with _ | bh_2
  ·
    refine lv_astoreN (lv' := [(4, .null), (0, .ref a0), (1, .int a1), (2, .int a2), (3, .int a3)]) hx hb dX11_tellGrowth_8 hl (by decide) rfl (fun ls hl => hp_n (n := 10) rfl ?_)
    refine lv_aloadN hx hb dX11_tellGrowth_10 (lv_at hl 0 rfl) (hp_n (n := 12) rfl ?_)
    refine lv_iload_n hx hb dX11_tellGrowth_12 rfl (lv_at hl 3 rfl) (hp_n (n := 13) rfl ?_)
    refine lv_iload_n hx hb dX11_tellGrowth_13 rfl (lv_at hl 4 rfl) (hp_n (n := 14) rfl ?_)
    refine q_ci (pc' := 17) Bh_2 (hp_runS (As := [va_rf none, .int a2, .int a3]) (rest := []) C Bh_2 (t_X11_wrongGrowth Γ l α Bh_2.2.2.1 none (fun b h => by cases h) a2 a3) lb_X11_wrongGrowth ls_X11_wrongGrowth lk_X11_180 rfl (by decide) rfl hl.1 rfl (Nat.le_of_ble_eq_true rfl) dX11_tellGrowth_14 ⟨Nat.le_refl _, Nat.le_refl _⟩) (fun _ _ h => by rw [h]; exact Bh_2.2.2) rfl (fun rh_3 αh_3 Hh_3 Lh_3 ph_3 Bh_3 => ?_)
    rw [ph_3] at Bh_3
    refine lv_istore (lv' := [(5, .int rh_3), (4, .null), (0, .ref a0), (1, .int a1), (2, .int a2), (3, .int a3)]) hx hb dX11_tellGrowth_17 hl (by decide) rfl (fun ls hl => hp_n (n := 19) rfl ?_)
    refine lv_iload hx hb dX11_tellGrowth_19 (lv_at hl 0 rfl) (hp_n (n := 21) rfl ?_)
    refine lv_if_eq (tgt := 31) hx hb dX11_tellGrowth_21 (by decide) (fun c_4 => ?_) (fun c_4 => hp_n (n := 24) rfl ?_)
    ·
      have jc_4 := il_eq c_4
      refine lv_aload_n hx hb dX11_tellGrowth_31 rfl (lv_at hl 2 rfl) (hp_n (n := 32) rfl ?_)
      refine q_getr (κ := 12) (k := 12) (φ := 612) (pc' := 35) C Bh_3 (cw_k Bh_3.2.2 k0) fl_X11_62 rfl rfl rfl (cw_r Bh_3.2.2 k0 rfl rfl (by decide) (by decide)) dX11_tellGrowth_32 rfl (fun b_5 eb_5 kb_5 => ?_)
      refine lv_iload_n hx hb dX11_tellGrowth_35 rfl (lv_at hl 4 rfl) (hp_n (n := 36) rfl ?_)
      refine lv_iload_n hx hb dX11_tellGrowth_36 rfl (lv_at hl 5 rfl) (hp_n (n := 37) rfl ?_)
      refine q_cv (pc' := 40) Bh_3 (hp_runV (As := [.int a2, .int a3]) (rest := []) C Bh_3 (t_X8_toGrowth Γ l α Bh_3.2.2.1 b_5 (cw_k Bh_3.2.2 kb_5) a2 a3) lb_X8_toGrowth lv_X8_toGrowth lk_X11_274 (cw_k Bh_3.2.2 kb_5) rfl (by decide) rfl hl.1 rfl (Nat.le_of_ble_eq_true rfl) dX11_tellGrowth_37 ⟨Nat.le_refl _, Nat.le_refl _⟩) (fun _ h => cw_tr Bh_3.2.2 h (by decide)) rfl (fun αh_6 Hh_6 Lh_6 ph_6 Bh_6 => ?_)
      refine lv_aload_n hx hb dX11_tellGrowth_40 rfl (lv_at hl 2 rfl) (hp_n (n := 41) rfl ?_)
      have t_7 : b_1 = hp_R αh_6 601 a0 := by rw [cw_R ph_6 a0 (by decide)]; exact eb_1
      refine q_gets (κ := 12) (k := 1) (φ := 601) (pc' := 44) C Bh_6 (cw_k Bh_6.2.2 k0) fl_X11_16 rfl rfl rfl t_7 dX11_tellGrowth_41 rfl ?_
      refine lv_aload_n hx hb dX11_tellGrowth_44 rfl (lv_at hl 2 rfl) (hp_n (n := 45) rfl ?_)
      have t_8 : b_5 = hp_R αh_6 612 a0 := by rw [cw_R ph_6 a0 (by decide)]; exact eb_5
      refine q_gets (κ := 12) (k := 12) (φ := 612) (pc' := 48) C Bh_6 (cw_k Bh_6.2.2 k0) fl_X11_62 rfl rfl rfl t_8 dX11_tellGrowth_45 rfl ?_
      refine lv_aloadN hx hb dX11_tellGrowth_48 (lv_at hl 1 rfl) (hp_n (n := 50) rfl ?_)
      refine lv_aload_n hx hb dX11_tellGrowth_50 rfl (lv_at hl 2 rfl) (hp_n (n := 51) rfl ?_)
      refine q_getr (κ := 12) (k := 14) (φ := 614) (pc' := 54) C Bh_6 (cw_k Bh_6.2.2 k0) fl_X11_69 rfl rfl rfl (cw_r Bh_6.2.2 k0 rfl rfl (by decide) (by decide)) dX11_tellGrowth_51 rfl (fun b_9 eb_9 kb_9 => ?_)
      refine q_cv (pc' := 57) Bh_6 (hp_runV (As := [.ref b_5, va_rf none, .ref b_9]) (rest := []) C Bh_6 (t_X10_marksAlong Γ l αh_6 Bh_6.2.2.1 b_1 (cw_k Bh_6.2.2 kb_1) b_5 (cw_k Bh_6.2.2 kb_5) none (fun b h => by cases h) b_9 (cw_k Bh_6.2.2 kb_9)) lb_X10_marksAlong lv_X10_marksAlong lk_X11_270 (cw_k Bh_6.2.2 kb_1) rfl (by decide) rfl hl.1 rfl (Nat.le_of_ble_eq_true rfl) dX11_tellGrowth_54 ⟨Nat.le_refl _, Nat.le_refl _⟩) (fun _ h => cw_tr Bh_6.2.2 h (by decide)) rfl (fun αh_10 Hh_10 Lh_10 ph_10 Bh_10 => ?_)
      refine lv_aload_n hx hb dX11_tellGrowth_57 rfl (lv_at hl 2 rfl) (hp_n (n := 58) rfl ?_)
      refine lv_iconst (v := 0) hx hb dX11_tellGrowth_58 (by decide) (hp_n (n := 59) rfl ?_)
      refine q_puti (κ := 12) (k := 11) (φ := 611) (pc' := 62) C Bh_10 (cw_k Bh_10.2.2 k0) fl_X11_56 rfl rfl rfl rfl rfl rfl (cw_sI Bh_10.2.2 (by decide) (fun h => absurd h (by decide))) dX11_tellGrowth_59 rfl (fun αh_11 Hh_11 Lh_11 eh_11 Bh_11 => ?_)
      refine lv_aload_n hx hb dX11_tellGrowth_62 rfl (lv_at hl 2 rfl) (hp_n (n := 63) rfl ?_)
      refine st_ldcw hx hb hown (sr_X11_427 C.2) dX11_tellGrowth_63 (hp_n (n := 66) rfl ?_)
      refine q_cv (pc' := 69) Bh_11 (hp_runV (As := [.ref (Γ.2.2.2.2.1 12)]) (rest := []) C Bh_11 (t_X11_tellText Γ l αh_11 Bh_11.2.2.1 a0 (cw_k Bh_11.2.2 k0) 12 (by decide)) lb_X11_tellText lv_X11_tellText lk_X11_411 (cw_k Bh_11.2.2 k0) rfl (by decide) rfl hl.1 rfl (Nat.le_of_ble_eq_true rfl) dX11_tellGrowth_66 ⟨Nat.le_refl _, Nat.le_refl _⟩) (fun _ h => cw_tr Bh_11.2.2 h (by decide)) rfl (fun αh_12 Hh_12 Lh_12 ph_12 Bh_12 => ?_)
      refine lv_aload_n hx hb dX11_tellGrowth_69 rfl (lv_at hl 2 rfl) (hp_n (n := 70) rfl ?_)
      refine lv_iload_n hx hb dX11_tellGrowth_70 rfl (lv_at hl 4 rfl) (hp_n (n := 71) rfl ?_)
      refine q_cv (pc' := 74) Bh_12 (hp_runV (As := [.int a2]) (rest := []) C Bh_12 (t_X11_tellNumber Γ l αh_12 Bh_12.2.2.1 a0 (cw_k Bh_12.2.2 k0) a2) lb_X11_tellNumber lv_X11_tellNumber lk_X11_415 (cw_k Bh_12.2.2 k0) rfl (by decide) rfl hl.1 rfl (Nat.le_of_ble_eq_true rfl) dX11_tellGrowth_71 ⟨Nat.le_refl _, Nat.le_refl _⟩) (fun _ h => cw_tr Bh_12.2.2 h (by decide)) rfl (fun αh_13 Hh_13 Lh_13 ph_13 Bh_13 => ?_)
      refine lv_aload_n hx hb dX11_tellGrowth_74 rfl (lv_at hl 2 rfl) (hp_n (n := 75) rfl ?_)
      refine st_ldcw hx hb hown (sr_X11_420 C.2) dX11_tellGrowth_75 (hp_n (n := 78) rfl ?_)
      refine q_cv (pc' := 81) Bh_13 (hp_runV (As := [.ref (Γ.2.2.2.2.1 3)]) (rest := []) C Bh_13 (t_X11_tellText Γ l αh_13 Bh_13.2.2.1 a0 (cw_k Bh_13.2.2 k0) 3 (by decide)) lb_X11_tellText lv_X11_tellText lk_X11_411 (cw_k Bh_13.2.2 k0) rfl (by decide) rfl hl.1 rfl (Nat.le_of_ble_eq_true rfl) dX11_tellGrowth_78 ⟨Nat.le_refl _, Nat.le_refl _⟩) (fun _ h => cw_tr Bh_13.2.2 h (by decide)) rfl (fun αh_14 Hh_14 Lh_14 ph_14 Bh_14 => ?_)
      refine lv_aload_n hx hb dX11_tellGrowth_81 rfl (lv_at hl 2 rfl) (hp_n (n := 82) rfl ?_)
      refine lv_aload_n hx hb dX11_tellGrowth_82 rfl (lv_at hl 2 rfl) (hp_n (n := 83) rfl ?_)
      have t_15 : b_1 = hp_R αh_10 601 a0 := by rw [cw_R ph_10 a0 (by decide)]; exact t_7
      have t_16 : b_1 = hp_R αh_11 601 a0 := by rw [eh_11]; exact t_15
      have t_17 : b_1 = hp_R αh_12 601 a0 := by rw [cw_R ph_12 a0 (by decide)]; exact t_16
      have t_18 : b_1 = hp_R αh_13 601 a0 := by rw [cw_R ph_13 a0 (by decide)]; exact t_17
      have t_19 : b_1 = hp_R αh_14 601 a0 := by rw [cw_R ph_14 a0 (by decide)]; exact t_18
      refine q_gets (κ := 12) (k := 1) (φ := 601) (pc' := 86) C Bh_14 (cw_k Bh_14.2.2 k0) fl_X11_16 rfl rfl rfl t_19 dX11_tellGrowth_83 rfl ?_
      refine lv_aloadN hx hb dX11_tellGrowth_86 (lv_at hl 1 rfl) (hp_n (n := 88) rfl ?_)
      refine lv_iload_n hx hb dX11_tellGrowth_88 rfl (lv_at hl 4 rfl) (hp_n (n := 89) rfl ?_)
      refine q_ci (pc' := 92) Bh_14 (hp_runV (As := [va_rf none, .int a2]) (rest := [.ref a0]) C Bh_14 (t_X10_headOf Γ l αh_14 Bh_14.2.2.1 b_1 (cw_k Bh_14.2.2 kb_1) none (fun b h => by cases h) a2) lb_X10_headOf lv_X10_headOf lk_X11_184 (cw_k Bh_14.2.2 kb_1) rfl (by decide) rfl hl.1 rfl (Nat.le_of_ble_eq_true rfl) dX11_tellGrowth_89 ⟨Nat.le_refl _, Nat.le_refl _⟩) (fun _ _ h => cw_tr Bh_14.2.2 h (by decide)) rfl (fun rh_20 αh_20 Hh_20 Lh_20 ph_20 Bh_20 => ?_)
      refine q_cv (pc' := 95) Bh_20 (hp_runV (As := [.int rh_20]) (rest := []) C Bh_20 (t_X11_tellNumber Γ l αh_20 Bh_20.2.2.1 a0 (cw_k Bh_20.2.2 k0) rh_20) lb_X11_tellNumber lv_X11_tellNumber lk_X11_415 (cw_k Bh_20.2.2 k0) rfl (by decide) rfl hl.1 rfl (Nat.le_of_ble_eq_true rfl) dX11_tellGrowth_92 ⟨Nat.le_refl _, Nat.le_refl _⟩) (fun _ h => cw_tr Bh_20.2.2 h (by decide)) rfl (fun αh_21 Hh_21 Lh_21 ph_21 Bh_21 => ?_)
      refine lv_aload_n hx hb dX11_tellGrowth_95 rfl (lv_at hl 2 rfl) (hp_n (n := 96) rfl ?_)
      refine st_ldcw hx hb hown (sr_X11_429 C.2) dX11_tellGrowth_96 (hp_n (n := 99) rfl ?_)
      refine q_cv (pc' := 102) Bh_21 (hp_runV (As := [.ref (Γ.2.2.2.2.1 5)]) (rest := []) C Bh_21 (t_X11_tellText Γ l αh_21 Bh_21.2.2.1 a0 (cw_k Bh_21.2.2 k0) 5 (by decide)) lb_X11_tellText lv_X11_tellText lk_X11_411 (cw_k Bh_21.2.2 k0) rfl (by decide) rfl hl.1 rfl (Nat.le_of_ble_eq_true rfl) dX11_tellGrowth_99 ⟨Nat.le_refl _, Nat.le_refl _⟩) (fun _ h => cw_tr Bh_21.2.2 h (by decide)) rfl (fun αh_22 Hh_22 Lh_22 ph_22 Bh_22 => ?_)
      refine lv_aload_n hx hb dX11_tellGrowth_102 rfl (lv_at hl 2 rfl) (hp_n (n := 103) rfl ?_)
      refine lv_iload_n hx hb dX11_tellGrowth_103 rfl (lv_at hl 5 rfl) (hp_n (n := 104) rfl ?_)
      refine q_cv (pc' := 107) Bh_22 (hp_runV (As := [.int a3]) (rest := []) C Bh_22 (t_X11_tellNumber Γ l αh_22 Bh_22.2.2.1 a0 (cw_k Bh_22.2.2 k0) a3) lb_X11_tellNumber lv_X11_tellNumber lk_X11_415 (cw_k Bh_22.2.2 k0) rfl (by decide) rfl hl.1 rfl (Nat.le_of_ble_eq_true rfl) dX11_tellGrowth_104 ⟨Nat.le_refl _, Nat.le_refl _⟩) (fun _ h => cw_tr Bh_22.2.2 h (by decide)) rfl (fun αh_23 Hh_23 Lh_23 ph_23 Bh_23 => ?_)
      refine lv_aload_n hx hb dX11_tellGrowth_107 rfl (lv_at hl 2 rfl) (hp_n (n := 108) rfl ?_)
      refine st_ldcw hx hb hown (sr_X11_422 C.2) dX11_tellGrowth_108 (hp_n (n := 111) rfl ?_)
      refine q_cv (pc' := 114) Bh_23 (hp_runV (As := [.ref (Γ.2.2.2.2.1 2)]) (rest := []) C Bh_23 (t_X11_tellText Γ l αh_23 Bh_23.2.2.1 a0 (cw_k Bh_23.2.2 k0) 2 (by decide)) lb_X11_tellText lv_X11_tellText lk_X11_411 (cw_k Bh_23.2.2 k0) rfl (by decide) rfl hl.1 rfl (Nat.le_of_ble_eq_true rfl) dX11_tellGrowth_111 ⟨Nat.le_refl _, Nat.le_refl _⟩) (fun _ h => cw_tr Bh_23.2.2 h (by decide)) rfl (fun αh_24 Hh_24 Lh_24 ph_24 Bh_24 => ?_)
      refine lv_aload_n hx hb dX11_tellGrowth_114 rfl (lv_at hl 2 rfl) (hp_n (n := 115) rfl ?_)
      refine lv_aload_n hx hb dX11_tellGrowth_115 rfl (lv_at hl 2 rfl) (hp_n (n := 116) rfl ?_)
      have t_25 : b_1 = hp_R αh_20 601 a0 := by rw [cw_R ph_20 a0 (by decide)]; exact t_19
      have t_26 : b_1 = hp_R αh_21 601 a0 := by rw [cw_R ph_21 a0 (by decide)]; exact t_25
      have t_27 : b_1 = hp_R αh_22 601 a0 := by rw [cw_R ph_22 a0 (by decide)]; exact t_26
      have t_28 : b_1 = hp_R αh_23 601 a0 := by rw [cw_R ph_23 a0 (by decide)]; exact t_27
      have t_29 : b_1 = hp_R αh_24 601 a0 := by rw [cw_R ph_24 a0 (by decide)]; exact t_28
      refine q_gets (κ := 12) (k := 1) (φ := 601) (pc' := 119) C Bh_24 (cw_k Bh_24.2.2 k0) fl_X11_16 rfl rfl rfl t_29 dX11_tellGrowth_116 rfl ?_
      refine lv_aloadN hx hb dX11_tellGrowth_119 (lv_at hl 1 rfl) (hp_n (n := 121) rfl ?_)
      refine lv_iload_n hx hb dX11_tellGrowth_121 rfl (lv_at hl 5 rfl) (hp_n (n := 122) rfl ?_)
      refine q_ci (pc' := 125) Bh_24 (hp_runV (As := [va_rf none, .int a3]) (rest := [.ref a0]) C Bh_24 (t_X10_headOf Γ l αh_24 Bh_24.2.2.1 b_1 (cw_k Bh_24.2.2 kb_1) none (fun b h => by cases h) a3) lb_X10_headOf lv_X10_headOf lk_X11_184 (cw_k Bh_24.2.2 kb_1) rfl (by decide) rfl hl.1 rfl (Nat.le_of_ble_eq_true rfl) dX11_tellGrowth_122 ⟨Nat.le_refl _, Nat.le_refl _⟩) (fun _ _ h => cw_tr Bh_24.2.2 h (by decide)) rfl (fun rh_30 αh_30 Hh_30 Lh_30 ph_30 Bh_30 => ?_)
      refine q_cv (pc' := 128) Bh_30 (hp_runV (As := [.int rh_30]) (rest := []) C Bh_30 (t_X11_tellNumber Γ l αh_30 Bh_30.2.2.1 a0 (cw_k Bh_30.2.2 k0) rh_30) lb_X11_tellNumber lv_X11_tellNumber lk_X11_415 (cw_k Bh_30.2.2 k0) rfl (by decide) rfl hl.1 rfl (Nat.le_of_ble_eq_true rfl) dX11_tellGrowth_125 ⟨Nat.le_refl _, Nat.le_refl _⟩) (fun _ h => cw_tr Bh_30.2.2 h (by decide)) rfl (fun αh_31 Hh_31 Lh_31 ph_31 Bh_31 => ?_)
      refine lv_aload_n hx hb dX11_tellGrowth_128 rfl (lv_at hl 2 rfl) (hp_n (n := 129) rfl ?_)
      refine q_cv (pc' := 132) Bh_31 (hp_runV (As := []) (rest := []) C Bh_31 (t_X11_tellProof Γ l αh_31 Bh_31.2.2.1 a0 (cw_k Bh_31.2.2 k0)) lb_X11_tellProof lv_X11_tellProof lk_X11_424 (cw_k Bh_31.2.2 k0) rfl (by decide) rfl hl.1 rfl (Nat.le_of_ble_eq_true rfl) dX11_tellGrowth_129 ⟨Nat.le_refl _, Nat.le_refl _⟩) (fun _ h => cw_tr Bh_31.2.2 h (by decide)) rfl (fun αh_32 Hh_32 Lh_32 ph_32 Bh_32 => ?_)
      refine lv_aload_n hx hb dX11_tellGrowth_132 rfl (lv_at hl 2 rfl) (hp_n (n := 133) rfl ?_)
      refine lv_aload_n hx hb dX11_tellGrowth_133 rfl (lv_at hl 2 rfl) (hp_n (n := 134) rfl ?_)
      have t_33 : 0 = hp_I αh_11 611 a0 := by rw [eh_11]; exact hp_I_at.symm
      refine q_geti (κ := 12) (k := 11) (φ := 611) (pc' := 137) C Bh_32 (cw_k Bh_32.2.2 k0) fl_X11_56 rfl rfl rfl dX11_tellGrowth_134 rfl (fun x_34 ex_34 => ?_)
      refine q_ci (pc' := 140) Bh_32 (hp_runV (As := [.int x_34]) (rest := []) C Bh_32 (t_X11_answer Γ l αh_32 Bh_32.2.2.1 a0 (cw_k Bh_32.2.2 k0) x_34) lb_X11_answer lv_X11_answer lk_X11_115 (cw_k Bh_32.2.2 k0) rfl (by decide) rfl hl.1 rfl (Nat.le_of_ble_eq_true rfl) dX11_tellGrowth_137 ⟨Nat.le_refl _, Nat.le_refl _⟩) (fun _ _ h => cw_tr Bh_32.2.2 h (by decide)) rfl (fun rh_35 αh_35 Hh_35 Lh_35 ph_35 Bh_35 => ?_)
      exact q_iret C Bh_35 hr hlk Bh_35.2.2 dX11_tellGrowth_140
    ·
      have jc_4 := il_ne c_4
      refine lv_aload_n hx hb dX11_tellGrowth_24 rfl (lv_at hl 2 rfl) (hp_n (n := 25) rfl ?_)
      refine lv_iload hx hb dX11_tellGrowth_25 (lv_at hl 0 rfl) (hp_n (n := 27) rfl ?_)
      refine q_ci (pc' := 30) Bh_3 (hp_runV (As := [.int rh_3]) (rest := []) C Bh_3 (t_X11_refuse Γ l α Bh_3.2.2.1 a0 (cw_k Bh_3.2.2 k0) rh_3) lb_X11_refuse lv_X11_refuse lk_X11_98 (cw_k Bh_3.2.2 k0) rfl (by decide) rfl hl.1 rfl (Nat.le_of_ble_eq_true rfl) dX11_tellGrowth_27 ⟨Nat.le_refl _, Nat.le_refl _⟩) (fun _ _ h => cw_tr Bh_3.2.2 h (by decide)) rfl (fun rh_36 αh_36 Hh_36 Lh_36 ph_36 Bh_36 => ?_)
      exact q_iret C Bh_36 hr hlk Bh_36.2.2 dX11_tellGrowth_30
  ·
    have kbh_2 : hp_K α bh_2 = 3 := cw_k' Bh_2.2.2 (ph_2.2 bh_2 rfl)
    refine lv_astore (lv' := [(4, .ref bh_2), (0, .ref a0), (1, .int a1), (2, .int a2), (3, .int a3)]) hx hb dX11_tellGrowth_8 hl (by decide) rfl (fun ls hl => hp_n (n := 10) rfl ?_)
    refine lv_aload hx hb dX11_tellGrowth_10 (lv_at hl 0 rfl) (hp_n (n := 12) rfl ?_)
    refine lv_iload_n hx hb dX11_tellGrowth_12 rfl (lv_at hl 3 rfl) (hp_n (n := 13) rfl ?_)
    refine lv_iload_n hx hb dX11_tellGrowth_13 rfl (lv_at hl 4 rfl) (hp_n (n := 14) rfl ?_)
    refine q_ci (pc' := 17) Bh_2 (hp_runS (As := [va_rf (some bh_2), .int a2, .int a3]) (rest := []) C Bh_2 (t_X11_wrongGrowth Γ l α Bh_2.2.2.1 (some bh_2) (fun b h => by cases h; exact (cw_k Bh_2.2.2 kbh_2)) a2 a3) lb_X11_wrongGrowth ls_X11_wrongGrowth lk_X11_180 rfl (by decide) rfl hl.1 rfl (Nat.le_of_ble_eq_true rfl) dX11_tellGrowth_14 ⟨Nat.le_refl _, Nat.le_refl _⟩) (fun _ _ h => by rw [h]; exact Bh_2.2.2) rfl (fun rh_37 αh_37 Hh_37 Lh_37 ph_37 Bh_37 => ?_)
    rw [ph_37] at Bh_37
    refine lv_istore (lv' := [(5, .int rh_37), (4, .ref bh_2), (0, .ref a0), (1, .int a1), (2, .int a2), (3, .int a3)]) hx hb dX11_tellGrowth_17 hl (by decide) rfl (fun ls hl => hp_n (n := 19) rfl ?_)
    refine lv_iload hx hb dX11_tellGrowth_19 (lv_at hl 0 rfl) (hp_n (n := 21) rfl ?_)
    refine lv_if_eq (tgt := 31) hx hb dX11_tellGrowth_21 (by decide) (fun c_38 => ?_) (fun c_38 => hp_n (n := 24) rfl ?_)
    ·
      have jc_38 := il_eq c_38
      refine lv_aload_n hx hb dX11_tellGrowth_31 rfl (lv_at hl 2 rfl) (hp_n (n := 32) rfl ?_)
      refine q_getr (κ := 12) (k := 12) (φ := 612) (pc' := 35) C Bh_37 (cw_k Bh_37.2.2 k0) fl_X11_62 rfl rfl rfl (cw_r Bh_37.2.2 k0 rfl rfl (by decide) (by decide)) dX11_tellGrowth_32 rfl (fun b_39 eb_39 kb_39 => ?_)
      refine lv_iload_n hx hb dX11_tellGrowth_35 rfl (lv_at hl 4 rfl) (hp_n (n := 36) rfl ?_)
      refine lv_iload_n hx hb dX11_tellGrowth_36 rfl (lv_at hl 5 rfl) (hp_n (n := 37) rfl ?_)
      refine q_cv (pc' := 40) Bh_37 (hp_runV (As := [.int a2, .int a3]) (rest := []) C Bh_37 (t_X8_toGrowth Γ l α Bh_37.2.2.1 b_39 (cw_k Bh_37.2.2 kb_39) a2 a3) lb_X8_toGrowth lv_X8_toGrowth lk_X11_274 (cw_k Bh_37.2.2 kb_39) rfl (by decide) rfl hl.1 rfl (Nat.le_of_ble_eq_true rfl) dX11_tellGrowth_37 ⟨Nat.le_refl _, Nat.le_refl _⟩) (fun _ h => cw_tr Bh_37.2.2 h (by decide)) rfl (fun αh_40 Hh_40 Lh_40 ph_40 Bh_40 => ?_)
      refine lv_aload_n hx hb dX11_tellGrowth_40 rfl (lv_at hl 2 rfl) (hp_n (n := 41) rfl ?_)
      have t_41 : b_1 = hp_R αh_40 601 a0 := by rw [cw_R ph_40 a0 (by decide)]; exact eb_1
      refine q_gets (κ := 12) (k := 1) (φ := 601) (pc' := 44) C Bh_40 (cw_k Bh_40.2.2 k0) fl_X11_16 rfl rfl rfl t_41 dX11_tellGrowth_41 rfl ?_
      refine lv_aload_n hx hb dX11_tellGrowth_44 rfl (lv_at hl 2 rfl) (hp_n (n := 45) rfl ?_)
      have t_42 : b_39 = hp_R αh_40 612 a0 := by rw [cw_R ph_40 a0 (by decide)]; exact eb_39
      refine q_gets (κ := 12) (k := 12) (φ := 612) (pc' := 48) C Bh_40 (cw_k Bh_40.2.2 k0) fl_X11_62 rfl rfl rfl t_42 dX11_tellGrowth_45 rfl ?_
      refine lv_aload hx hb dX11_tellGrowth_48 (lv_at hl 1 rfl) (hp_n (n := 50) rfl ?_)
      refine lv_aload_n hx hb dX11_tellGrowth_50 rfl (lv_at hl 2 rfl) (hp_n (n := 51) rfl ?_)
      refine q_getr (κ := 12) (k := 14) (φ := 614) (pc' := 54) C Bh_40 (cw_k Bh_40.2.2 k0) fl_X11_69 rfl rfl rfl (cw_r Bh_40.2.2 k0 rfl rfl (by decide) (by decide)) dX11_tellGrowth_51 rfl (fun b_43 eb_43 kb_43 => ?_)
      refine q_cv (pc' := 57) Bh_40 (hp_runV (As := [.ref b_39, va_rf (some bh_2), .ref b_43]) (rest := []) C Bh_40 (t_X10_marksAlong Γ l αh_40 Bh_40.2.2.1 b_1 (cw_k Bh_40.2.2 kb_1) b_39 (cw_k Bh_40.2.2 kb_39) (some bh_2) (fun b h => by cases h; exact (cw_k Bh_40.2.2 kbh_2)) b_43 (cw_k Bh_40.2.2 kb_43)) lb_X10_marksAlong lv_X10_marksAlong lk_X11_270 (cw_k Bh_40.2.2 kb_1) rfl (by decide) rfl hl.1 rfl (Nat.le_of_ble_eq_true rfl) dX11_tellGrowth_54 ⟨Nat.le_refl _, Nat.le_refl _⟩) (fun _ h => cw_tr Bh_40.2.2 h (by decide)) rfl (fun αh_44 Hh_44 Lh_44 ph_44 Bh_44 => ?_)
      refine lv_aload_n hx hb dX11_tellGrowth_57 rfl (lv_at hl 2 rfl) (hp_n (n := 58) rfl ?_)
      refine lv_iconst (v := 0) hx hb dX11_tellGrowth_58 (by decide) (hp_n (n := 59) rfl ?_)
      refine q_puti (κ := 12) (k := 11) (φ := 611) (pc' := 62) C Bh_44 (cw_k Bh_44.2.2 k0) fl_X11_56 rfl rfl rfl rfl rfl rfl (cw_sI Bh_44.2.2 (by decide) (fun h => absurd h (by decide))) dX11_tellGrowth_59 rfl (fun αh_45 Hh_45 Lh_45 eh_45 Bh_45 => ?_)
      refine lv_aload_n hx hb dX11_tellGrowth_62 rfl (lv_at hl 2 rfl) (hp_n (n := 63) rfl ?_)
      refine st_ldcw hx hb hown (sr_X11_427 C.2) dX11_tellGrowth_63 (hp_n (n := 66) rfl ?_)
      refine q_cv (pc' := 69) Bh_45 (hp_runV (As := [.ref (Γ.2.2.2.2.1 12)]) (rest := []) C Bh_45 (t_X11_tellText Γ l αh_45 Bh_45.2.2.1 a0 (cw_k Bh_45.2.2 k0) 12 (by decide)) lb_X11_tellText lv_X11_tellText lk_X11_411 (cw_k Bh_45.2.2 k0) rfl (by decide) rfl hl.1 rfl (Nat.le_of_ble_eq_true rfl) dX11_tellGrowth_66 ⟨Nat.le_refl _, Nat.le_refl _⟩) (fun _ h => cw_tr Bh_45.2.2 h (by decide)) rfl (fun αh_46 Hh_46 Lh_46 ph_46 Bh_46 => ?_)
      refine lv_aload_n hx hb dX11_tellGrowth_69 rfl (lv_at hl 2 rfl) (hp_n (n := 70) rfl ?_)
      refine lv_iload_n hx hb dX11_tellGrowth_70 rfl (lv_at hl 4 rfl) (hp_n (n := 71) rfl ?_)
      refine q_cv (pc' := 74) Bh_46 (hp_runV (As := [.int a2]) (rest := []) C Bh_46 (t_X11_tellNumber Γ l αh_46 Bh_46.2.2.1 a0 (cw_k Bh_46.2.2 k0) a2) lb_X11_tellNumber lv_X11_tellNumber lk_X11_415 (cw_k Bh_46.2.2 k0) rfl (by decide) rfl hl.1 rfl (Nat.le_of_ble_eq_true rfl) dX11_tellGrowth_71 ⟨Nat.le_refl _, Nat.le_refl _⟩) (fun _ h => cw_tr Bh_46.2.2 h (by decide)) rfl (fun αh_47 Hh_47 Lh_47 ph_47 Bh_47 => ?_)
      refine lv_aload_n hx hb dX11_tellGrowth_74 rfl (lv_at hl 2 rfl) (hp_n (n := 75) rfl ?_)
      refine st_ldcw hx hb hown (sr_X11_420 C.2) dX11_tellGrowth_75 (hp_n (n := 78) rfl ?_)
      refine q_cv (pc' := 81) Bh_47 (hp_runV (As := [.ref (Γ.2.2.2.2.1 3)]) (rest := []) C Bh_47 (t_X11_tellText Γ l αh_47 Bh_47.2.2.1 a0 (cw_k Bh_47.2.2 k0) 3 (by decide)) lb_X11_tellText lv_X11_tellText lk_X11_411 (cw_k Bh_47.2.2 k0) rfl (by decide) rfl hl.1 rfl (Nat.le_of_ble_eq_true rfl) dX11_tellGrowth_78 ⟨Nat.le_refl _, Nat.le_refl _⟩) (fun _ h => cw_tr Bh_47.2.2 h (by decide)) rfl (fun αh_48 Hh_48 Lh_48 ph_48 Bh_48 => ?_)
      refine lv_aload_n hx hb dX11_tellGrowth_81 rfl (lv_at hl 2 rfl) (hp_n (n := 82) rfl ?_)
      refine lv_aload_n hx hb dX11_tellGrowth_82 rfl (lv_at hl 2 rfl) (hp_n (n := 83) rfl ?_)
      have t_49 : b_1 = hp_R αh_44 601 a0 := by rw [cw_R ph_44 a0 (by decide)]; exact t_41
      have t_50 : b_1 = hp_R αh_45 601 a0 := by rw [eh_45]; exact t_49
      have t_51 : b_1 = hp_R αh_46 601 a0 := by rw [cw_R ph_46 a0 (by decide)]; exact t_50
      have t_52 : b_1 = hp_R αh_47 601 a0 := by rw [cw_R ph_47 a0 (by decide)]; exact t_51
      have t_53 : b_1 = hp_R αh_48 601 a0 := by rw [cw_R ph_48 a0 (by decide)]; exact t_52
      refine q_gets (κ := 12) (k := 1) (φ := 601) (pc' := 86) C Bh_48 (cw_k Bh_48.2.2 k0) fl_X11_16 rfl rfl rfl t_53 dX11_tellGrowth_83 rfl ?_
      refine lv_aload hx hb dX11_tellGrowth_86 (lv_at hl 1 rfl) (hp_n (n := 88) rfl ?_)
      refine lv_iload_n hx hb dX11_tellGrowth_88 rfl (lv_at hl 4 rfl) (hp_n (n := 89) rfl ?_)
      refine q_ci (pc' := 92) Bh_48 (hp_runV (As := [va_rf (some bh_2), .int a2]) (rest := [.ref a0]) C Bh_48 (t_X10_headOf Γ l αh_48 Bh_48.2.2.1 b_1 (cw_k Bh_48.2.2 kb_1) (some bh_2) (fun b h => by cases h; exact (cw_k Bh_48.2.2 kbh_2)) a2) lb_X10_headOf lv_X10_headOf lk_X11_184 (cw_k Bh_48.2.2 kb_1) rfl (by decide) rfl hl.1 rfl (Nat.le_of_ble_eq_true rfl) dX11_tellGrowth_89 ⟨Nat.le_refl _, Nat.le_refl _⟩) (fun _ _ h => cw_tr Bh_48.2.2 h (by decide)) rfl (fun rh_54 αh_54 Hh_54 Lh_54 ph_54 Bh_54 => ?_)
      refine q_cv (pc' := 95) Bh_54 (hp_runV (As := [.int rh_54]) (rest := []) C Bh_54 (t_X11_tellNumber Γ l αh_54 Bh_54.2.2.1 a0 (cw_k Bh_54.2.2 k0) rh_54) lb_X11_tellNumber lv_X11_tellNumber lk_X11_415 (cw_k Bh_54.2.2 k0) rfl (by decide) rfl hl.1 rfl (Nat.le_of_ble_eq_true rfl) dX11_tellGrowth_92 ⟨Nat.le_refl _, Nat.le_refl _⟩) (fun _ h => cw_tr Bh_54.2.2 h (by decide)) rfl (fun αh_55 Hh_55 Lh_55 ph_55 Bh_55 => ?_)
      refine lv_aload_n hx hb dX11_tellGrowth_95 rfl (lv_at hl 2 rfl) (hp_n (n := 96) rfl ?_)
      refine st_ldcw hx hb hown (sr_X11_429 C.2) dX11_tellGrowth_96 (hp_n (n := 99) rfl ?_)
      refine q_cv (pc' := 102) Bh_55 (hp_runV (As := [.ref (Γ.2.2.2.2.1 5)]) (rest := []) C Bh_55 (t_X11_tellText Γ l αh_55 Bh_55.2.2.1 a0 (cw_k Bh_55.2.2 k0) 5 (by decide)) lb_X11_tellText lv_X11_tellText lk_X11_411 (cw_k Bh_55.2.2 k0) rfl (by decide) rfl hl.1 rfl (Nat.le_of_ble_eq_true rfl) dX11_tellGrowth_99 ⟨Nat.le_refl _, Nat.le_refl _⟩) (fun _ h => cw_tr Bh_55.2.2 h (by decide)) rfl (fun αh_56 Hh_56 Lh_56 ph_56 Bh_56 => ?_)
      refine lv_aload_n hx hb dX11_tellGrowth_102 rfl (lv_at hl 2 rfl) (hp_n (n := 103) rfl ?_)
      refine lv_iload_n hx hb dX11_tellGrowth_103 rfl (lv_at hl 5 rfl) (hp_n (n := 104) rfl ?_)
      refine q_cv (pc' := 107) Bh_56 (hp_runV (As := [.int a3]) (rest := []) C Bh_56 (t_X11_tellNumber Γ l αh_56 Bh_56.2.2.1 a0 (cw_k Bh_56.2.2 k0) a3) lb_X11_tellNumber lv_X11_tellNumber lk_X11_415 (cw_k Bh_56.2.2 k0) rfl (by decide) rfl hl.1 rfl (Nat.le_of_ble_eq_true rfl) dX11_tellGrowth_104 ⟨Nat.le_refl _, Nat.le_refl _⟩) (fun _ h => cw_tr Bh_56.2.2 h (by decide)) rfl (fun αh_57 Hh_57 Lh_57 ph_57 Bh_57 => ?_)
      refine lv_aload_n hx hb dX11_tellGrowth_107 rfl (lv_at hl 2 rfl) (hp_n (n := 108) rfl ?_)
      refine st_ldcw hx hb hown (sr_X11_422 C.2) dX11_tellGrowth_108 (hp_n (n := 111) rfl ?_)
      refine q_cv (pc' := 114) Bh_57 (hp_runV (As := [.ref (Γ.2.2.2.2.1 2)]) (rest := []) C Bh_57 (t_X11_tellText Γ l αh_57 Bh_57.2.2.1 a0 (cw_k Bh_57.2.2 k0) 2 (by decide)) lb_X11_tellText lv_X11_tellText lk_X11_411 (cw_k Bh_57.2.2 k0) rfl (by decide) rfl hl.1 rfl (Nat.le_of_ble_eq_true rfl) dX11_tellGrowth_111 ⟨Nat.le_refl _, Nat.le_refl _⟩) (fun _ h => cw_tr Bh_57.2.2 h (by decide)) rfl (fun αh_58 Hh_58 Lh_58 ph_58 Bh_58 => ?_)
      refine lv_aload_n hx hb dX11_tellGrowth_114 rfl (lv_at hl 2 rfl) (hp_n (n := 115) rfl ?_)
      refine lv_aload_n hx hb dX11_tellGrowth_115 rfl (lv_at hl 2 rfl) (hp_n (n := 116) rfl ?_)
      have t_59 : b_1 = hp_R αh_54 601 a0 := by rw [cw_R ph_54 a0 (by decide)]; exact t_53
      have t_60 : b_1 = hp_R αh_55 601 a0 := by rw [cw_R ph_55 a0 (by decide)]; exact t_59
      have t_61 : b_1 = hp_R αh_56 601 a0 := by rw [cw_R ph_56 a0 (by decide)]; exact t_60
      have t_62 : b_1 = hp_R αh_57 601 a0 := by rw [cw_R ph_57 a0 (by decide)]; exact t_61
      have t_63 : b_1 = hp_R αh_58 601 a0 := by rw [cw_R ph_58 a0 (by decide)]; exact t_62
      refine q_gets (κ := 12) (k := 1) (φ := 601) (pc' := 119) C Bh_58 (cw_k Bh_58.2.2 k0) fl_X11_16 rfl rfl rfl t_63 dX11_tellGrowth_116 rfl ?_
      refine lv_aload hx hb dX11_tellGrowth_119 (lv_at hl 1 rfl) (hp_n (n := 121) rfl ?_)
      refine lv_iload_n hx hb dX11_tellGrowth_121 rfl (lv_at hl 5 rfl) (hp_n (n := 122) rfl ?_)
      refine q_ci (pc' := 125) Bh_58 (hp_runV (As := [va_rf (some bh_2), .int a3]) (rest := [.ref a0]) C Bh_58 (t_X10_headOf Γ l αh_58 Bh_58.2.2.1 b_1 (cw_k Bh_58.2.2 kb_1) (some bh_2) (fun b h => by cases h; exact (cw_k Bh_58.2.2 kbh_2)) a3) lb_X10_headOf lv_X10_headOf lk_X11_184 (cw_k Bh_58.2.2 kb_1) rfl (by decide) rfl hl.1 rfl (Nat.le_of_ble_eq_true rfl) dX11_tellGrowth_122 ⟨Nat.le_refl _, Nat.le_refl _⟩) (fun _ _ h => cw_tr Bh_58.2.2 h (by decide)) rfl (fun rh_64 αh_64 Hh_64 Lh_64 ph_64 Bh_64 => ?_)
      refine q_cv (pc' := 128) Bh_64 (hp_runV (As := [.int rh_64]) (rest := []) C Bh_64 (t_X11_tellNumber Γ l αh_64 Bh_64.2.2.1 a0 (cw_k Bh_64.2.2 k0) rh_64) lb_X11_tellNumber lv_X11_tellNumber lk_X11_415 (cw_k Bh_64.2.2 k0) rfl (by decide) rfl hl.1 rfl (Nat.le_of_ble_eq_true rfl) dX11_tellGrowth_125 ⟨Nat.le_refl _, Nat.le_refl _⟩) (fun _ h => cw_tr Bh_64.2.2 h (by decide)) rfl (fun αh_65 Hh_65 Lh_65 ph_65 Bh_65 => ?_)
      refine lv_aload_n hx hb dX11_tellGrowth_128 rfl (lv_at hl 2 rfl) (hp_n (n := 129) rfl ?_)
      refine q_cv (pc' := 132) Bh_65 (hp_runV (As := []) (rest := []) C Bh_65 (t_X11_tellProof Γ l αh_65 Bh_65.2.2.1 a0 (cw_k Bh_65.2.2 k0)) lb_X11_tellProof lv_X11_tellProof lk_X11_424 (cw_k Bh_65.2.2 k0) rfl (by decide) rfl hl.1 rfl (Nat.le_of_ble_eq_true rfl) dX11_tellGrowth_129 ⟨Nat.le_refl _, Nat.le_refl _⟩) (fun _ h => cw_tr Bh_65.2.2 h (by decide)) rfl (fun αh_66 Hh_66 Lh_66 ph_66 Bh_66 => ?_)
      refine lv_aload_n hx hb dX11_tellGrowth_132 rfl (lv_at hl 2 rfl) (hp_n (n := 133) rfl ?_)
      refine lv_aload_n hx hb dX11_tellGrowth_133 rfl (lv_at hl 2 rfl) (hp_n (n := 134) rfl ?_)
      have t_67 : 0 = hp_I αh_45 611 a0 := by rw [eh_45]; exact hp_I_at.symm
      refine q_geti (κ := 12) (k := 11) (φ := 611) (pc' := 137) C Bh_66 (cw_k Bh_66.2.2 k0) fl_X11_56 rfl rfl rfl dX11_tellGrowth_134 rfl (fun x_68 ex_68 => ?_)
      refine q_ci (pc' := 140) Bh_66 (hp_runV (As := [.int x_68]) (rest := []) C Bh_66 (t_X11_answer Γ l αh_66 Bh_66.2.2.1 a0 (cw_k Bh_66.2.2 k0) x_68) lb_X11_answer lv_X11_answer lk_X11_115 (cw_k Bh_66.2.2 k0) rfl (by decide) rfl hl.1 rfl (Nat.le_of_ble_eq_true rfl) dX11_tellGrowth_137 ⟨Nat.le_refl _, Nat.le_refl _⟩) (fun _ _ h => cw_tr Bh_66.2.2 h (by decide)) rfl (fun rh_69 αh_69 Hh_69 Lh_69 ph_69 Bh_69 => ?_)
      exact q_iret C Bh_69 hr hlk Bh_69.2.2 dX11_tellGrowth_140
    ·
      have jc_38 := il_ne c_38
      refine lv_aload_n hx hb dX11_tellGrowth_24 rfl (lv_at hl 2 rfl) (hp_n (n := 25) rfl ?_)
      refine lv_iload hx hb dX11_tellGrowth_25 (lv_at hl 0 rfl) (hp_n (n := 27) rfl ?_)
      refine q_ci (pc' := 30) Bh_37 (hp_runV (As := [.int rh_37]) (rest := []) C Bh_37 (t_X11_refuse Γ l α Bh_37.2.2.1 a0 (cw_k Bh_37.2.2 k0) rh_37) lb_X11_refuse lv_X11_refuse lk_X11_98 (cw_k Bh_37.2.2 k0) rfl (by decide) rfl hl.1 rfl (Nat.le_of_ble_eq_true rfl) dX11_tellGrowth_27 ⟨Nat.le_refl _, Nat.le_refl _⟩) (fun _ _ h => cw_tr Bh_37.2.2 h (by decide)) rfl (fun rh_70 αh_70 Hh_70 Lh_70 ph_70 Bh_70 => ?_)
      exact q_iret C Bh_70 hr hlk Bh_70.2.2 dX11_tellGrowth_30
abbrev w_X11_out : cw_W := ([600], [], [], [])
set_option maxRecDepth 100000 in
set_option maxHeartbeats 4000000 in
theorem t_X11_out (Γ : hp_G) (l : Launch) (α : hp_T) (g : GC α) (a0 : Nat) (k0 : hp_K α a0 = 12) (a1 : Int32) : Met l yX11_out (hp_ws yX11_out cX11_out 2 (some .int)) (hp_rm 1 0 0) (hp_Pc Γ α [.ref a0, .int a1]) (hp_Qi Γ (fun r β => cw w_X11_out α β)) 0 0 (hp_A Γ) := by
  refine hp_start (by decide) ?_
  intro p e s m below meth c C hr hlk B0 hnm
  have C : hp_C Γ p m c cX11_out 2 s ([.ref a0, .int a1] : List Value).toArray RX11 := C
  have hx := C.1.1
  have hb := C.1.2.1
  have hown := C.1.2.2.2.1
  have hts := C.1.2.2.2.2
  have B : hp_B Γ (cw w_X11_out) s α α s.heap [] := ⟨B0.1, B0.2.1, cw_rf g⟩
  have lit0 : (0 : Int32).toInt = 0 := by decide
  have lit1 : (1 : Int32).toInt = 1 := by decide
  have lit5 : (5 : Int32).toInt = 5 := by decide
  have lit256 : (256 : Int32).toInt = 256 := by decide
  have hl := lv_entry ([.ref a0, .int a1]) (n := 2) (Nat.le_of_ble_eq_true rfl)
  show W p l e (hp_rm 1 0 0) s m ([.ref a0, .int a1] : List Value).toArray below meth c s.heap [] 0 0 (MQ below (hp_Qi Γ (fun r β => cw w_X11_out α β)) ([.ref a0, .int a1] : List Value).toArray s 0 0 (hp_A Γ)) (entryFrame m ([.ref a0, .int a1] : List Value).toArray 2)
  rw [lg_entry_eq]
  generalize (lg_sl ([.ref a0, .int a1]) ++ List.replicate (2 - (lg_sl ([.ref a0, .int a1])).length) Slot.unset).toArray = ls at hl ⊢
  have hl : lv_has ls 2 [(0, .ref a0), (1, .int a1)] := hl
  refine lv_iload_n hx hb dX11_out_0 rfl (lv_at hl 1 rfl) (hp_n (n := 1) rfl ?_)
  refine lv_if_ge (tgt := 10) hx hb dX11_out_1 (by decide) (fun c_1 => ?_) (fun c_1 => hp_n (n := 4) rfl ?_)
  ·
    have jc_1 := il_le c_1
    refine lv_iload_n hx hb dX11_out_10 rfl (lv_at hl 1 rfl) (hp_n (n := 11) rfl ?_)
    refine lv_aload_n hx hb dX11_out_11 rfl (lv_at hl 0 rfl) (hp_n (n := 12) rfl ?_)
    refine q_geti (κ := 12) (k := 11) (φ := 611) (pc' := 15) C B (cw_k B.2.2 k0) fl_X11_56 rfl rfl rfl dX11_out_12 rfl (fun x_2 ex_2 => ?_)
    have J40 : ∀ (Hh_3 : Heap) (Lh_3 : List Loc) (Bh_3 : hp_B Γ (cw w_X11_out) s α α Hh_3 Lh_3) (ls : Array Slot) (hl : lv_has ls 2 [(0, .ref a0)]), W p l e (hp_rm 1 0 0) s m ([.ref a0, .int a1] : List Value).toArray below meth c Hh_3 Lh_3 0 0 (MQ below (hp_Qi Γ (fun r β => cw w_X11_out α β)) ([.ref a0, .int a1] : List Value).toArray s 0 0 (hp_A Γ)) (F0 m 40 ls []) := by
      intro Hh_3 Lh_3 Bh_3 ls hl
      refine lv_aload_n hx hb dX11_out_40 rfl (lv_at hl 0 rfl) (hp_n (n := 41) rfl ?_)
      refine lv_iconst (v := 5) hx hb dX11_out_41 (by decide) (hp_n (n := 42) rfl ?_)
      refine q_ci (pc' := 45) Bh_3 (hp_runV (As := [.int 5]) (rest := []) C Bh_3 (t_X11_refuse Γ l α Bh_3.2.2.1 a0 (cw_k Bh_3.2.2 k0) 5) lb_X11_refuse lv_X11_refuse lk_X11_98 (cw_k Bh_3.2.2 k0) rfl (by decide) rfl hl.1 rfl (Nat.le_of_ble_eq_true rfl) dX11_out_42 ⟨Nat.le_refl _, Nat.le_refl _⟩) (fun _ _ h => cw_tr Bh_3.2.2 h (by decide)) rfl (fun rh_4 αh_4 Hh_4 Lh_4 ph_4 Bh_4 => ?_)
      exact q_iret C Bh_4 hr hlk Bh_4.2.2 dX11_out_45
    refine lv_icmp_ge (tgt := 40) hx hb dX11_out_15 (by decide) (fun c_5 => ?_) (fun c_5 => hp_n (n := 18) rfl ?_)
    ·
      have jc_5 := il_le c_5
      exact J40 s.heap [] B ls (lv_sub hl [0] rfl)
    ·
      have jc_5 := il_nle c_5
      refine lv_iload_n hx hb dX11_out_18 rfl (lv_at hl 1 rfl) (hp_n (n := 19) rfl ?_)
      refine lv_aload_n hx hb dX11_out_19 rfl (lv_at hl 0 rfl) (hp_n (n := 20) rfl ?_)
      refine q_getr (κ := 12) (k := 10) (φ := 610) (pc' := 23) C B (cw_k B.2.2 k0) fl_X11_53 rfl rfl rfl (cw_r B.2.2 k0 rfl rfl (by decide) (by decide)) dX11_out_20 rfl (fun b_6 eb_6 kb_6 => ?_)
      refine q_alen (κ := 25) (t := 1) (n := 256) (x := 256) (ty := .byte) (pc' := 24) C B (cw_k B.2.2 kb_6) (by decide) rfl rfl rfl dX11_out_23 rfl ?_
      refine lv_icmp_ge (tgt := 40) hx hb dX11_out_24 (by decide) (fun c_7 => ?_) (fun c_7 => hp_n (n := 27) rfl ?_)
      ·
        have jc_7 := il_le c_7
        exact J40 s.heap [] B ls (lv_sub hl [0] rfl)
      ·
        have jc_7 := il_nle c_7
        refine lv_aload_n hx hb dX11_out_27 rfl (lv_at hl 0 rfl) (hp_n (n := 28) rfl ?_)
        refine lv_aload_n hx hb dX11_out_28 rfl (lv_at hl 0 rfl) (hp_n (n := 29) rfl ?_)
        refine q_gets (κ := 12) (k := 10) (φ := 610) (pc' := 32) C B (cw_k B.2.2 k0) fl_X11_53 rfl rfl rfl eb_6 dX11_out_29 rfl ?_
        refine lv_iload_n hx hb dX11_out_32 rfl (lv_at hl 1 rfl) (hp_n (n := 33) rfl ?_)
        refine q_bal (κ := 25) (n := 256) (pc' := 34) C B (cw_k B.2.2 kb_6) (by decide) rfl (vi_of (by omega) (by omega)) dX11_out_33 rfl (lv_topi (fun x_8 ex_8 => ?_))
        refine q_ci (pc' := 37) B (hp_runV (As := [.int x_8]) (rest := []) C B (t_X11_answer Γ l α B.2.2.1 a0 (cw_k B.2.2 k0) x_8) lb_X11_answer lv_X11_answer lk_X11_115 (cw_k B.2.2 k0) rfl (by decide) rfl hl.1 rfl (Nat.le_of_ble_eq_true rfl) dX11_out_34 ⟨Nat.le_refl _, Nat.le_refl _⟩) (fun _ _ h => cw_tr B.2.2 h (by decide)) rfl (fun rh_9 αh_9 Hh_9 Lh_9 ph_9 Bh_9 => ?_)
        refine lv_goto (tgt := 45) hx hb dX11_out_37 (by decide) ?_
        exact q_iret C Bh_9 hr hlk Bh_9.2.2 dX11_out_45
  ·
    have jc_1 := il_nle c_1
    refine lv_aload_n hx hb dX11_out_4 rfl (lv_at hl 0 rfl) (hp_n (n := 5) rfl ?_)
    refine lv_iconst (v := 1) hx hb dX11_out_5 (by decide) (hp_n (n := 6) rfl ?_)
    refine q_ci (pc' := 9) B (hp_runV (As := [.int 1]) (rest := []) C B (t_X11_refuse Γ l α B.2.2.1 a0 (cw_k B.2.2 k0) 1) lb_X11_refuse lv_X11_refuse lk_X11_98 (cw_k B.2.2 k0) rfl (by decide) rfl hl.1 rfl (Nat.le_of_ble_eq_true rfl) dX11_out_6 ⟨Nat.le_refl _, Nat.le_refl _⟩) (fun _ _ h => cw_tr B.2.2 h (by decide)) rfl (fun rh_10 αh_10 Hh_10 Lh_10 ph_10 Bh_10 => ?_)
    exact q_iret C Bh_10 hr hlk Bh_10.2.2 dX11_out_9
abbrev w_X11_trusted : cw_W := ([600], [], [], [])
set_option maxRecDepth 100000 in
set_option maxHeartbeats 4000000 in
theorem t_X11_trusted (Γ : hp_G) (l : Launch) (α : hp_T) (g : GC α) (a0 : Nat) (k0 : hp_K α a0 = 12) (a1 : Int32) (a2 : Int32) : Met l yX11_trusted (hp_ws yX11_trusted cX11_trusted 6 (some .int)) (hp_rm 1 0 0) (hp_Pc Γ α [.ref a0, .int a1, .int a2]) (hp_Qi Γ (fun r β => cw w_X11_trusted α β)) 0 0 (hp_A Γ) := by
  refine hp_start (by decide) ?_
  intro p e s m below meth c C hr hlk B0 hnm
  have C : hp_C Γ p m c cX11_trusted 6 s ([.ref a0, .int a1, .int a2] : List Value).toArray RX11 := C
  have hx := C.1.1
  have hb := C.1.2.1
  have hown := C.1.2.2.2.1
  have hts := C.1.2.2.2.2
  have B : hp_B Γ (cw w_X11_trusted) s α α s.heap [] := ⟨B0.1, B0.2.1, cw_rf g⟩
  have lit0 : (0 : Int32).toInt = 0 := by decide
  have lit1 : (1 : Int32).toInt = 1 := by decide
  have lit4 : (4 : Int32).toInt = 4 := by decide
  have hl := lv_entry ([.ref a0, .int a1, .int a2]) (n := 6) (Nat.le_of_ble_eq_true rfl)
  show W p l e (hp_rm 1 0 0) s m ([.ref a0, .int a1, .int a2] : List Value).toArray below meth c s.heap [] 0 0 (MQ below (hp_Qi Γ (fun r β => cw w_X11_trusted α β)) ([.ref a0, .int a1, .int a2] : List Value).toArray s 0 0 (hp_A Γ)) (entryFrame m ([.ref a0, .int a1, .int a2] : List Value).toArray 6)
  rw [lg_entry_eq]
  generalize (lg_sl ([.ref a0, .int a1, .int a2]) ++ List.replicate (6 - (lg_sl ([.ref a0, .int a1, .int a2])).length) Slot.unset).toArray = ls at hl ⊢
  have hl : lv_has ls 6 [(0, .ref a0), (1, .int a1), (2, .int a2)] := hl
  refine lv_iload_n hx hb dX11_trusted_0 rfl (lv_at hl 1 rfl) (hp_n (n := 1) rfl ?_)
  have J12 : ∀ (Hh_1 : Heap) (Lh_1 : List Loc) (Bh_1 : hp_B Γ (cw w_X11_trusted) s α α Hh_1 Lh_1) (ls : Array Slot) (hl : lv_has ls 6 [(0, .ref a0)]), W p l e (hp_rm 1 0 0) s m ([.ref a0, .int a1, .int a2] : List Value).toArray below meth c Hh_1 Lh_1 0 0 (MQ below (hp_Qi Γ (fun r β => cw w_X11_trusted α β)) ([.ref a0, .int a1, .int a2] : List Value).toArray s 0 0 (hp_A Γ)) (F0 m 12 ls []) := by
    intro Hh_1 Lh_1 Bh_1 ls hl
    refine lv_aload_n hx hb dX11_trusted_12 rfl (lv_at hl 0 rfl) (hp_n (n := 13) rfl ?_)
    refine lv_iconst (v := 1) hx hb dX11_trusted_13 (by decide) (hp_n (n := 14) rfl ?_)
    refine q_ci (pc' := 17) Bh_1 (hp_runV (As := [.int 1]) (rest := []) C Bh_1 (t_X11_refuse Γ l α Bh_1.2.2.1 a0 (cw_k Bh_1.2.2 k0) 1) lb_X11_refuse lv_X11_refuse lk_X11_98 (cw_k Bh_1.2.2 k0) rfl (by decide) rfl hl.1 rfl (Nat.le_of_ble_eq_true rfl) dX11_trusted_14 ⟨Nat.le_refl _, Nat.le_refl _⟩) (fun _ _ h => cw_tr Bh_1.2.2 h (by decide)) rfl (fun rh_2 αh_2 Hh_2 Lh_2 ph_2 Bh_2 => ?_)
    exact q_iret C Bh_2 hr hlk Bh_2.2.2 dX11_trusted_17
  refine lv_if_lt (tgt := 12) hx hb dX11_trusted_1 (by decide) (fun c_3 => ?_) (fun c_3 => hp_n (n := 4) rfl ?_)
  ·
    have jc_3 := il_lt c_3
    exact J12 s.heap [] B ls (lv_sub hl [0] rfl)
  ·
    have jc_3 := il_nlt c_3
    refine lv_aload_n hx hb dX11_trusted_4 rfl (lv_at hl 0 rfl) (hp_n (n := 5) rfl ?_)
    refine lv_iload_n hx hb dX11_trusted_5 rfl (lv_at hl 2 rfl) (hp_n (n := 6) rfl ?_)
    refine q_ci (pc' := 9) B (hp_runV (As := [.int a2]) (rest := []) C B (t_X11_isMark Γ l α B.2.2.1 a0 (cw_k B.2.2 k0) a2) lb_X11_isMark lv_X11_isMark lk_X11_188 (cw_k B.2.2 k0) rfl (by decide) rfl hl.1 rfl (Nat.le_of_ble_eq_true rfl) dX11_trusted_6 ⟨Nat.le_refl _, Nat.le_refl _⟩) (fun _ _ h => by rw [h.1]; exact B.2.2) rfl (fun rh_4 αh_4 Hh_4 Lh_4 ph_4 Bh_4 => ?_)
    rw [ph_4.1] at Bh_4
    have zh_4 := ph_4.2
    refine lv_if_ne (tgt := 18) hx hb dX11_trusted_9 (by decide) (fun c_5 => ?_) (fun c_5 => hp_n (n := 12) rfl ?_)
    ·
      have jc_5 := il_ne c_5
      refine lv_iconst (v := 0) hx hb dX11_trusted_18 (by decide) (hp_n (n := 19) rfl ?_)
      refine lv_istore_n (lv' := [(3, .int 0), (0, .ref a0), (1, .int a1), (2, .int a2)]) hx hb dX11_trusted_19 rfl hl (by decide) rfl (fun ls hl => hp_n (n := 20) rfl ?_)
      refine lv_iconst (v := 0) hx hb dX11_trusted_20 (by decide) (hp_n (n := 21) rfl ?_)
      have J23 : ∀ (nq : Nat) (Hh_6 : Heap) (Lh_6 : List Loc) (Bh_6 : hp_B Γ (cw w_X11_trusted) s α α Hh_6 Lh_6) (v3_h_6 : Int32) (v4_h_6 : Int32) (ih_6_0 : 0 ≤ v4_h_6.toInt) (ls : Array Slot) (hl : lv_has ls 6 [(0, .ref a0), (1, .int a1), (2, .int a2), (3, .int v3_h_6), (4, .int v4_h_6)]) (hmu23 : (2147483647 - v4_h_6.toInt).toNat = nq), W p l e (hp_rm 1 0 0) s m ([.ref a0, .int a1, .int a2] : List Value).toArray below meth c Hh_6 Lh_6 0 0 (MQ below (hp_Qi Γ (fun r β => cw w_X11_trusted α β)) ([.ref a0, .int a1, .int a2] : List Value).toArray s 0 0 (hp_A Γ)) (F0 m 23 ls []) := by
        intro nq
        induction nq using Nat.strongRecOn with
        | ind nq ih23 =>
        intro Hh_6 Lh_6 Bh_6 v3_h_6 v4_h_6 ih_6_0 ls hl hmu23
        have inv23_0 := ih_6_0
        refine lv_iload hx hb dX11_trusted_23 (lv_at hl 4 rfl) (hp_n (n := 25) rfl ?_)
        refine lv_iconst (v := 4) hx hb dX11_trusted_25 (by decide) (hp_n (n := 26) rfl ?_)
        refine lv_icmp_ge (tgt := 72) hx hb dX11_trusted_26 (by decide) (fun c_7 => ?_) (fun c_7 => hp_n (n := 29) rfl ?_)
        ·
          have jc_7 := il_le c_7
          refine lv_aload_n hx hb dX11_trusted_72 rfl (lv_at hl 0 rfl) (hp_n (n := 73) rfl ?_)
          refine lv_iload_n hx hb dX11_trusted_73 rfl (lv_at hl 3 rfl) (hp_n (n := 74) rfl ?_)
          refine q_ci (pc' := 77) Bh_6 (hp_runV (As := [.int v3_h_6]) (rest := []) C Bh_6 (t_X11_answer Γ l α Bh_6.2.2.1 a0 (cw_k Bh_6.2.2 k0) v3_h_6) lb_X11_answer lv_X11_answer lk_X11_115 (cw_k Bh_6.2.2 k0) rfl (by decide) rfl hl.1 rfl (Nat.le_of_ble_eq_true rfl) dX11_trusted_74 ⟨Nat.le_refl _, Nat.le_refl _⟩) (fun _ _ h => cw_tr Bh_6.2.2 h (by decide)) rfl (fun rh_8 αh_8 Hh_8 Lh_8 ph_8 Bh_8 => ?_)
          exact q_iret C Bh_8 hr hlk Bh_8.2.2 dX11_trusted_77
        ·
          have jc_7 := il_nle c_7
          refine lv_aload_n hx hb dX11_trusted_29 rfl (lv_at hl 0 rfl) (hp_n (n := 30) rfl ?_)
          refine q_getr (κ := 12) (k := 1) (φ := 601) (pc' := 33) C Bh_6 (cw_k Bh_6.2.2 k0) fl_X11_16 rfl rfl rfl (cw_r Bh_6.2.2 k0 rfl rfl (by decide) (by decide)) dX11_trusted_30 rfl (fun b_9 eb_9 kb_9 => ?_)
          refine lv_iload hx hb dX11_trusted_33 (lv_at hl 4 rfl) (hp_n (n := 35) rfl ?_)
          refine q_cq (pc' := 38) Bh_6 (hp_runV (As := [.int v4_h_6]) (rest := []) C Bh_6 (t_X10_watcherAt Γ l α Bh_6.2.2.1 b_9 (cw_k Bh_6.2.2 kb_9) v4_h_6) lb_X10_watcherAt lv_X10_watcherAt lk_X11_220 (cw_k Bh_6.2.2 kb_9) rfl (by decide) rfl hl.1 rfl (Nat.le_of_ble_eq_true rfl) dX11_trusted_35 ⟨Nat.le_refl _, Nat.le_refl _⟩) (fun _ _ h => by rw [h.1]; exact Bh_6.2.2) rfl (fun rh_10 αh_10 Hh_10 Lh_10 ph_10 Bh_10 => ?_)
          rw [ph_10.1] at Bh_10
          rcases rh_10 with _ | bh_10
          ·
            refine lv_astoreN (lv' := [(5, .null), (0, .ref a0), (1, .int a1), (2, .int a2), (3, .int v3_h_6), (4, .int v4_h_6)]) hx hb dX11_trusted_38 hl (by decide) rfl (fun ls hl => hp_n (n := 40) rfl ?_)
            refine lv_aloadN hx hb dX11_trusted_40 (lv_at hl 0 rfl) (hp_n (n := 42) rfl ?_)
            refine lv_ifnullN (tgt := 66) hx hb dX11_trusted_42 (by decide) ?_
            obtain ⟨x_11, ex_11⟩ : ∃ y : Int32, y = v4_h_6 + 1 := ⟨_, rfl⟩
            have qx_11 : x_11.toInt = v4_h_6.toInt + 1 := by have qa := ib_lo v4_h_6; rw [ex_11]; exact ii_add (by omega) (by omega)
            refine lv_iinc (v := x_11) (lv' := [(4, .int x_11), (5, .null), (0, .ref a0), (1, .int a1), (2, .int a2), (3, .int v3_h_6)]) hx hb dX11_trusted_66 hl (k := 5) rfl (by rw [ex_11]; rfl) (by decide) rfl (fun ls hl => hp_n (n := 69) rfl ?_)
            refine lv_goto (tgt := 23) hx hb dX11_trusted_69 (by decide) ?_
            exact ih23 _ (by have qa := ib_hi v4_h_6; have qb := ib_lo v4_h_6; have qc : (v4_h_6 + 1).toInt = v4_h_6.toInt + (1 : Int32).toInt := ii_add (by omega) (by omega); rw [ex_11]; omega) Hh_10 Lh_10 Bh_10 v3_h_6 x_11 (by omega) ls (lv_sub hl [2, 3, 4, 5, 0] rfl) rfl
          ·
            have kbh_10 : hp_K α bh_10 = 8 := cw_k' Bh_10.2.2 (ph_10.2 bh_10 rfl)
            refine lv_astore (lv' := [(5, .ref bh_10), (0, .ref a0), (1, .int a1), (2, .int a2), (3, .int v3_h_6), (4, .int v4_h_6)]) hx hb dX11_trusted_38 hl (by decide) rfl (fun ls hl => hp_n (n := 40) rfl ?_)
            refine lv_aload hx hb dX11_trusted_40 (lv_at hl 0 rfl) (hp_n (n := 42) rfl ?_)
            refine lv_ifnull hx hb dX11_trusted_42 (hp_n (n := 45) rfl ?_)
            refine lv_aload hx hb dX11_trusted_45 (lv_at hl 0 rfl) (hp_n (n := 47) rfl ?_)
            refine q_geti (κ := 8) (k := 0) (φ := 400) (pc' := 50) C Bh_10 (cw_k Bh_10.2.2 kbh_10) fl_X11_224 rfl rfl rfl dX11_trusted_47 rfl (fun x_12 ex_12 => ?_)
            refine lv_iload_n hx hb dX11_trusted_50 rfl (lv_at hl 2 rfl) (hp_n (n := 51) rfl ?_)
            refine lv_icmp_ne (tgt := 66) hx hb dX11_trusted_51 (by decide) (fun c_13 => ?_) (fun c_13 => hp_n (n := 54) rfl ?_)
            ·
              have jc_13 := il_ne c_13
              obtain ⟨x_14, ex_14⟩ : ∃ y : Int32, y = v4_h_6 + 1 := ⟨_, rfl⟩
              have qx_14 : x_14.toInt = v4_h_6.toInt + 1 := by have qa := ib_lo v4_h_6; rw [ex_14]; exact ii_add (by omega) (by omega)
              refine lv_iinc (v := x_14) (lv' := [(4, .int x_14), (5, .ref bh_10), (0, .ref a0), (1, .int a1), (2, .int a2), (3, .int v3_h_6)]) hx hb dX11_trusted_66 hl (k := 5) rfl (by rw [ex_14]; rfl) (by decide) rfl (fun ls hl => hp_n (n := 69) rfl ?_)
              refine lv_goto (tgt := 23) hx hb dX11_trusted_69 (by decide) ?_
              exact ih23 _ (by have qa := ib_hi v4_h_6; have qb := ib_lo v4_h_6; have qc : (v4_h_6 + 1).toInt = v4_h_6.toInt + (1 : Int32).toInt := ii_add (by omega) (by omega); rw [ex_14]; omega) Hh_10 Lh_10 Bh_10 v3_h_6 x_14 (by omega) ls (lv_sub hl [2, 3, 4, 5, 0] rfl) rfl
            ·
              have jc_13 := il_eq c_13
              refine lv_aload hx hb dX11_trusted_54 (lv_at hl 0 rfl) (hp_n (n := 56) rfl ?_)
              refine q_geti (κ := 8) (k := 1) (φ := 401) (pc' := 59) C Bh_10 (cw_k Bh_10.2.2 kbh_10) fl_X11_227 rfl rfl rfl dX11_trusted_56 rfl (fun x_15 ex_15 => ?_)
              refine lv_iload_n hx hb dX11_trusted_59 rfl (lv_at hl 3 rfl) (hp_n (n := 60) rfl ?_)
              refine lv_icmp_ne (tgt := 66) hx hb dX11_trusted_60 (by decide) (fun c_16 => ?_) (fun c_16 => hp_n (n := 63) rfl ?_)
              ·
                have jc_16 := il_ne c_16
                obtain ⟨x_17, ex_17⟩ : ∃ y : Int32, y = v4_h_6 + 1 := ⟨_, rfl⟩
                have qx_17 : x_17.toInt = v4_h_6.toInt + 1 := by have qa := ib_lo v4_h_6; rw [ex_17]; exact ii_add (by omega) (by omega)
                refine lv_iinc (v := x_17) (lv' := [(4, .int x_17), (5, .ref bh_10), (0, .ref a0), (1, .int a1), (2, .int a2), (3, .int v3_h_6)]) hx hb dX11_trusted_66 hl (k := 5) rfl (by rw [ex_17]; rfl) (by decide) rfl (fun ls hl => hp_n (n := 69) rfl ?_)
                refine lv_goto (tgt := 23) hx hb dX11_trusted_69 (by decide) ?_
                exact ih23 _ (by have qa := ib_hi v4_h_6; have qb := ib_lo v4_h_6; have qc : (v4_h_6 + 1).toInt = v4_h_6.toInt + (1 : Int32).toInt := ii_add (by omega) (by omega); rw [ex_17]; omega) Hh_10 Lh_10 Bh_10 v3_h_6 x_17 (by omega) ls (lv_sub hl [2, 3, 4, 5, 0] rfl) rfl
              ·
                have jc_16 := il_eq c_16
                obtain ⟨x_18, ex_18⟩ : ∃ y : Int32, y = v3_h_6 + 1 := ⟨_, rfl⟩
                refine lv_iinc (v := x_18) (lv' := [(3, .int x_18), (5, .ref bh_10), (0, .ref a0), (1, .int a1), (2, .int a2), (4, .int v4_h_6)]) hx hb dX11_trusted_63 hl (k := 4) rfl (by rw [ex_18]; rfl) (by decide) rfl (fun ls hl => hp_n (n := 66) rfl ?_)
                obtain ⟨x_19, ex_19⟩ : ∃ y : Int32, y = v4_h_6 + 1 := ⟨_, rfl⟩
                have qx_19 : x_19.toInt = v4_h_6.toInt + 1 := by have qa := ib_lo v4_h_6; rw [ex_19]; exact ii_add (by omega) (by omega)
                refine lv_iinc (v := x_19) (lv' := [(4, .int x_19), (3, .int x_18), (5, .ref bh_10), (0, .ref a0), (1, .int a1), (2, .int a2)]) hx hb dX11_trusted_66 hl (k := 5) rfl (by rw [ex_19]; rfl) (by decide) rfl (fun ls hl => hp_n (n := 69) rfl ?_)
                refine lv_goto (tgt := 23) hx hb dX11_trusted_69 (by decide) ?_
                exact ih23 _ (by have qa := ib_hi v4_h_6; have qb := ib_lo v4_h_6; have qc : (v4_h_6 + 1).toInt = v4_h_6.toInt + (1 : Int32).toInt := ii_add (by omega) (by omega); rw [ex_19]; omega) Hh_10 Lh_10 Bh_10 x_18 x_19 (by omega) ls (lv_sub hl [3, 4, 5, 1, 0] rfl) rfl
      refine lv_istore (lv' := [(4, .int 0), (3, .int 0), (0, .ref a0), (1, .int a1), (2, .int a2)]) hx hb dX11_trusted_21 hl (by decide) rfl (fun ls hl => hp_n (n := 23) rfl ?_)
      exact J23 _ Hh_4 Lh_4 Bh_4 0 0 (by omega) ls (lv_sub hl [2, 3, 4, 1, 0] rfl) rfl
    ·
      have jc_5 := il_eq c_5
      exact J12 Hh_4 Lh_4 Bh_4 ls (lv_sub hl [0] rfl)
abbrev w_X11_saves : cw_W := ([453, 454, 600], [], [21, 22, 23], [])
set_option maxRecDepth 100000 in
set_option maxHeartbeats 4000000 in
theorem t_X11_saves (Γ : hp_G) (l : Launch) (α : hp_T) (g : GC α) (a0 : Nat) (k0 : hp_K α a0 = 12) (a1 : Int32) (a2 : Int32) : Met l yX11_saves (hp_ws yX11_saves cX11_saves 5 (some .int)) (hp_rm 5 0 0) (hp_Pc Γ α [.ref a0, .int a1, .int a2]) (hp_Qi Γ (fun r β => cw w_X11_saves α β)) 0 0 (hp_A Γ) := by
  refine hp_start (by decide) ?_
  intro p e s m below meth c C hr hlk B0 hnm
  have C : hp_C Γ p m c cX11_saves 5 s ([.ref a0, .int a1, .int a2] : List Value).toArray RX11 := C
  have hx := C.1.1
  have hb := C.1.2.1
  have hown := C.1.2.2.2.1
  have hts := C.1.2.2.2.2
  have B : hp_B Γ (cw w_X11_saves) s α α s.heap [] := ⟨B0.1, B0.2.1, cw_rf g⟩
  have lit0 : (0 : Int32).toInt = 0 := by decide
  have lit1 : (1 : Int32).toInt = 1 := by decide
  have lit30 : (30 : Int32).toInt = 30 := by decide
  have hl := lv_entry ([.ref a0, .int a1, .int a2]) (n := 5) (Nat.le_of_ble_eq_true rfl)
  show W p l e (hp_rm 5 0 0) s m ([.ref a0, .int a1, .int a2] : List Value).toArray below meth c s.heap [] 0 0 (MQ below (hp_Qi Γ (fun r β => cw w_X11_saves α β)) ([.ref a0, .int a1, .int a2] : List Value).toArray s 0 0 (hp_A Γ)) (entryFrame m ([.ref a0, .int a1, .int a2] : List Value).toArray 5)
  rw [lg_entry_eq]
  generalize (lg_sl ([.ref a0, .int a1, .int a2]) ++ List.replicate (5 - (lg_sl ([.ref a0, .int a1, .int a2])).length) Slot.unset).toArray = ls at hl ⊢
  have hl : lv_has ls 5 [(0, .ref a0), (1, .int a1), (2, .int a2)] := hl
  refine lv_iload_n hx hb dX11_saves_0 rfl (lv_at hl 1 rfl) (hp_n (n := 1) rfl ?_)
  refine q_ci (pc' := 4) B (hp_runS (As := [.int a1]) (rest := []) C B (t_X11_isSet Γ l α B.2.2.1 a1) lb_X11_isSet ls_X11_isSet lk_X11_277 rfl (by decide) rfl hl.1 rfl (Nat.le_of_ble_eq_true rfl) dX11_saves_1 ⟨Nat.le_refl _, Nat.le_refl _⟩) (fun _ _ h => by rw [h.1]; exact B.2.2) rfl (fun rh_1 αh_1 Hh_1 Lh_1 ph_1 Bh_1 => ?_)
  rw [ph_1.1] at Bh_1
  have zh_1 := ph_1.2
  have J15 : ∀ (Hh_2 : Heap) (Lh_2 : List Loc) (Bh_2 : hp_B Γ (cw w_X11_saves) s α α Hh_2 Lh_2) (ls : Array Slot) (hl : lv_has ls 5 [(0, .ref a0)]), W p l e (hp_rm 5 0 0) s m ([.ref a0, .int a1, .int a2] : List Value).toArray below meth c Hh_2 Lh_2 0 0 (MQ below (hp_Qi Γ (fun r β => cw w_X11_saves α β)) ([.ref a0, .int a1, .int a2] : List Value).toArray s 0 0 (hp_A Γ)) (F0 m 15 ls []) := by
    intro Hh_2 Lh_2 Bh_2 ls hl
    refine lv_aload_n hx hb dX11_saves_15 rfl (lv_at hl 0 rfl) (hp_n (n := 16) rfl ?_)
    refine lv_iconst (v := 1) hx hb dX11_saves_16 (by decide) (hp_n (n := 17) rfl ?_)
    refine q_ci (pc' := 20) Bh_2 (hp_runV (As := [.int 1]) (rest := []) C Bh_2 (t_X11_refuse Γ l α Bh_2.2.2.1 a0 (cw_k Bh_2.2.2 k0) 1) lb_X11_refuse lv_X11_refuse lk_X11_98 (cw_k Bh_2.2.2 k0) rfl (by decide) rfl hl.1 rfl (Nat.le_of_ble_eq_true rfl) dX11_saves_17 ⟨Nat.le_refl _, Nat.le_refl _⟩) (fun _ _ h => cw_tr Bh_2.2.2 h (by decide)) rfl (fun rh_3 αh_3 Hh_3 Lh_3 ph_3 Bh_3 => ?_)
    exact q_iret C Bh_3 hr hlk Bh_3.2.2 dX11_saves_20
  refine lv_if_eq (tgt := 15) hx hb dX11_saves_4 (by decide) (fun c_4 => ?_) (fun c_4 => hp_n (n := 7) rfl ?_)
  ·
    have jc_4 := il_eq c_4
    exact J15 Hh_1 Lh_1 Bh_1 ls (lv_sub hl [0] rfl)
  ·
    have jc_4 := il_ne c_4
    refine lv_iload_n hx hb dX11_saves_7 rfl (lv_at hl 1 rfl) (hp_n (n := 8) rfl ?_)
    refine lv_iload_n hx hb dX11_saves_8 rfl (lv_at hl 2 rfl) (hp_n (n := 9) rfl ?_)
    refine q_ci (pc' := 12) Bh_1 (hp_runS (As := [.int a1, .int a2]) (rest := []) C Bh_1 (t_X11_lieBelow Γ l α Bh_1.2.2.1 a1 a2) lb_X11_lieBelow ls_X11_lieBelow lk_X11_280 rfl (by decide) rfl hl.1 rfl (Nat.le_of_ble_eq_true rfl) dX11_saves_9 ⟨Nat.le_refl _, Nat.le_refl _⟩) (fun _ _ h => by rw [h.1]; exact Bh_1.2.2) rfl (fun rh_5 αh_5 Hh_5 Lh_5 ph_5 Bh_5 => ?_)
    rw [ph_5.1] at Bh_5
    have zh_5 := ph_5.2
    refine lv_if_ne (tgt := 21) hx hb dX11_saves_12 (by decide) (fun c_6 => ?_) (fun c_6 => hp_n (n := 15) rfl ?_)
    ·
      have jc_6 := il_ne c_6
      refine lv_iconst (v := 0) hx hb dX11_saves_21 (by decide) (hp_n (n := 22) rfl ?_)
      refine lv_istore_n (lv' := [(3, .int 0), (0, .ref a0), (1, .int a1), (2, .int a2)]) hx hb dX11_saves_22 rfl hl (by decide) rfl (fun ls hl => hp_n (n := 23) rfl ?_)
      refine lv_iconst (v := 0) hx hb dX11_saves_23 (by decide) (hp_n (n := 24) rfl ?_)
      have J26 : ∀ (nq : Nat) (αh_7 : hp_T) (Hh_7 : Heap) (Lh_7 : List Loc) (Bh_7 : hp_B Γ (cw w_X11_saves) s α αh_7 Hh_7 Lh_7) (v3_h_7 : Int32) (v4_h_7 : Int32) (ih_7_0 : 0 ≤ v4_h_7.toInt) (ls : Array Slot) (hl : lv_has ls 5 [(0, .ref a0), (1, .int a1), (2, .int a2), (3, .int v3_h_7), (4, .int v4_h_7)]) (hmu26 : (2147483647 - v4_h_7.toInt).toNat = nq), W p l e (hp_rm 5 0 0) s m ([.ref a0, .int a1, .int a2] : List Value).toArray below meth c Hh_7 Lh_7 0 0 (MQ below (hp_Qi Γ (fun r β => cw w_X11_saves α β)) ([.ref a0, .int a1, .int a2] : List Value).toArray s 0 0 (hp_A Γ)) (F0 m 26 ls []) := by
        intro nq
        induction nq using Nat.strongRecOn with
        | ind nq ih26 =>
        intro αh_7 Hh_7 Lh_7 Bh_7 v3_h_7 v4_h_7 ih_7_0 ls hl hmu26
        have inv26_0 := ih_7_0
        refine lv_iload hx hb dX11_saves_26 (lv_at hl 4 rfl) (hp_n (n := 28) rfl ?_)
        refine lv_bipush (v := 30) hx hb dX11_saves_28 (by decide) (hp_n (n := 30) rfl ?_)
        refine lv_icmp_ge (tgt := 69) hx hb dX11_saves_30 (by decide) (fun c_8 => ?_) (fun c_8 => hp_n (n := 33) rfl ?_)
        ·
          have jc_8 := il_le c_8
          refine lv_aload_n hx hb dX11_saves_69 rfl (lv_at hl 0 rfl) (hp_n (n := 70) rfl ?_)
          refine q_getr (κ := 12) (k := 12) (φ := 612) (pc' := 73) C Bh_7 (cw_k Bh_7.2.2 k0) fl_X11_62 rfl rfl rfl (cw_r Bh_7.2.2 k0 rfl rfl (by decide) (by decide)) dX11_saves_70 rfl (fun b_9 eb_9 kb_9 => ?_)
          refine lv_iload_n hx hb dX11_saves_73 rfl (lv_at hl 1 rfl) (hp_n (n := 74) rfl ?_)
          refine lv_iload_n hx hb dX11_saves_74 rfl (lv_at hl 2 rfl) (hp_n (n := 75) rfl ?_)
          refine q_cv (pc' := 78) Bh_7 (hp_runV (As := [.int a1, .int a2]) (rest := []) C Bh_7 (t_X8_toBundle Γ l αh_7 Bh_7.2.2.1 b_9 (cw_k Bh_7.2.2 kb_9) a1 a2) lb_X8_toBundle lv_X8_toBundle lk_X11_284 (cw_k Bh_7.2.2 kb_9) rfl (by decide) rfl hl.1 rfl (Nat.le_of_ble_eq_true rfl) dX11_saves_75 ⟨Nat.le_refl _, Nat.le_refl _⟩) (fun _ h => cw_tr Bh_7.2.2 h (by decide)) rfl (fun αh_10 Hh_10 Lh_10 ph_10 Bh_10 => ?_)
          refine lv_aload_n hx hb dX11_saves_78 rfl (lv_at hl 0 rfl) (hp_n (n := 79) rfl ?_)
          refine lv_iload_n hx hb dX11_saves_79 rfl (lv_at hl 3 rfl) (hp_n (n := 80) rfl ?_)
          refine lv_aload_n hx hb dX11_saves_80 rfl (lv_at hl 0 rfl) (hp_n (n := 81) rfl ?_)
          have t_11 : b_9 = hp_R αh_10 612 a0 := by rw [cw_R ph_10 a0 (by decide)]; exact eb_9
          refine q_gets (κ := 12) (k := 12) (φ := 612) (pc' := 84) C Bh_10 (cw_k Bh_10.2.2 k0) fl_X11_62 rfl rfl rfl t_11 dX11_saves_81 rfl ?_
          refine q_geti (κ := 9) (k := 3) (φ := 453) (pc' := 87) C Bh_10 (cw_k Bh_10.2.2 kb_9) fl_X11_312 rfl rfl rfl dX11_saves_84 rfl (fun x_12 ex_12 => ?_)
          obtain ⟨gx_12a, gx_12b⟩ : 0 ≤ x_12.toInt ∧ x_12.toInt ≤ 64 := by rw [ex_12]; exact Bh_10.2.2.1.1 453 b_9 rfl
          refine lv_isub hx hb dX11_saves_87 (hp_n (n := 88) rfl (lv_topi (fun x_13 ex_13 => ?_)))
          refine q_ci (pc' := 91) Bh_10 (hp_runV (As := [.int x_13]) (rest := []) C Bh_10 (t_X11_answer Γ l αh_10 Bh_10.2.2.1 a0 (cw_k Bh_10.2.2 k0) x_13) lb_X11_answer lv_X11_answer lk_X11_115 (cw_k Bh_10.2.2 k0) rfl (by decide) rfl hl.1 rfl (Nat.le_of_ble_eq_true rfl) dX11_saves_88 ⟨Nat.le_refl _, Nat.le_refl _⟩) (fun _ _ h => cw_tr Bh_10.2.2 h (by decide)) rfl (fun rh_14 αh_14 Hh_14 Lh_14 ph_14 Bh_14 => ?_)
          exact q_iret C Bh_14 hr hlk Bh_14.2.2 dX11_saves_91
        ·
          have jc_8 := il_nle c_8
          refine lv_iload_n hx hb dX11_saves_33 rfl (lv_at hl 1 rfl) (hp_n (n := 34) rfl ?_)
          refine lv_iload hx hb dX11_saves_34 (lv_at hl 4 rfl) (hp_n (n := 36) rfl ?_)
          refine lv_iconst (v := 1) hx hb dX11_saves_36 (by decide) (hp_n (n := 37) rfl ?_)
          refine q_ci (pc' := 40) Bh_7 (hp_runS (As := [.int a1, .int v4_h_7, .int 1]) (rest := []) C Bh_7 (t_X11_hasOneOf Γ l αh_7 Bh_7.2.2.1 a1 v4_h_7 1) lb_X11_hasOneOf ls_X11_hasOneOf lk_X11_431 rfl (by decide) rfl hl.1 rfl (Nat.le_of_ble_eq_true rfl) dX11_saves_37 ⟨Nat.le_refl _, Nat.le_refl _⟩) (fun _ _ h => by rw [h.1]; exact Bh_7.2.2) rfl (fun rh_15 αh_15 Hh_15 Lh_15 ph_15 Bh_15 => ?_)
          rw [ph_15.1] at Bh_15
          have zh_15 := ph_15.2
          refine lv_if_eq (tgt := 63) hx hb dX11_saves_40 (by decide) (fun c_16 => ?_) (fun c_16 => hp_n (n := 43) rfl ?_)
          ·
            have jc_16 := il_eq c_16
            obtain ⟨x_17, ex_17⟩ : ∃ y : Int32, y = v4_h_7 + 1 := ⟨_, rfl⟩
            have qx_17 : x_17.toInt = v4_h_7.toInt + 1 := by have qa := ib_lo v4_h_7; rw [ex_17]; exact ii_add (by omega) (by omega)
            refine lv_iinc (v := x_17) (lv' := [(4, .int x_17), (0, .ref a0), (1, .int a1), (2, .int a2), (3, .int v3_h_7)]) hx hb dX11_saves_63 hl (k := 4) rfl (by rw [ex_17]; rfl) (by decide) rfl (fun ls hl => hp_n (n := 66) rfl ?_)
            refine lv_goto (tgt := 26) hx hb dX11_saves_66 (by decide) ?_
            exact ih26 _ (by have qa := ib_hi v4_h_7; have qb := ib_lo v4_h_7; have qc : (v4_h_7 + 1).toInt = v4_h_7.toInt + (1 : Int32).toInt := ii_add (by omega) (by omega); rw [ex_17]; omega) αh_7 Hh_15 Lh_15 Bh_15 v3_h_7 x_17 (by omega) ls (lv_sub hl [1, 2, 3, 4, 0] rfl) rfl
          ·
            have jc_16 := il_ne c_16
            refine lv_aload_n hx hb dX11_saves_43 rfl (lv_at hl 0 rfl) (hp_n (n := 44) rfl ?_)
            refine q_getr (κ := 12) (k := 12) (φ := 612) (pc' := 47) C Bh_15 (cw_k Bh_15.2.2 k0) fl_X11_62 rfl rfl rfl (cw_r Bh_15.2.2 k0 rfl rfl (by decide) (by decide)) dX11_saves_44 rfl (fun b_18 eb_18 kb_18 => ?_)
            refine lv_iload hx hb dX11_saves_47 (lv_at hl 4 rfl) (hp_n (n := 49) rfl ?_)
            refine lv_iload_n hx hb dX11_saves_49 rfl (lv_at hl 2 rfl) (hp_n (n := 50) rfl ?_)
            refine q_cv (pc' := 53) Bh_15 (hp_runV (As := [.int v4_h_7, .int a2]) (rest := []) C Bh_15 (t_X8_toThing Γ l αh_7 Bh_15.2.2.1 b_18 (cw_k Bh_15.2.2 kb_18) v4_h_7 a2) lb_X8_toThing lv_X8_toThing lk_X11_267 (cw_k Bh_15.2.2 kb_18) rfl (by decide) rfl hl.1 rfl (Nat.le_of_ble_eq_true rfl) dX11_saves_50 ⟨Nat.le_refl _, Nat.le_refl _⟩) (fun _ h => cw_tr Bh_15.2.2 h (by decide)) rfl (fun αh_19 Hh_19 Lh_19 ph_19 Bh_19 => ?_)
            refine lv_iload_n hx hb dX11_saves_53 rfl (lv_at hl 3 rfl) (hp_n (n := 54) rfl ?_)
            refine lv_aload_n hx hb dX11_saves_54 rfl (lv_at hl 0 rfl) (hp_n (n := 55) rfl ?_)
            have t_20 : b_18 = hp_R αh_19 612 a0 := by rw [cw_R ph_19 a0 (by decide)]; exact eb_18
            refine q_gets (κ := 12) (k := 12) (φ := 612) (pc' := 58) C Bh_19 (cw_k Bh_19.2.2 k0) fl_X11_62 rfl rfl rfl t_20 dX11_saves_55 rfl ?_
            refine q_geti (κ := 9) (k := 3) (φ := 453) (pc' := 61) C Bh_19 (cw_k Bh_19.2.2 kb_18) fl_X11_312 rfl rfl rfl dX11_saves_58 rfl (fun x_21 ex_21 => ?_)
            obtain ⟨gx_21a, gx_21b⟩ : 0 ≤ x_21.toInt ∧ x_21.toInt ≤ 64 := by rw [ex_21]; exact Bh_19.2.2.1.1 453 b_18 rfl
            refine lv_iadd hx hb dX11_saves_61 (hp_n (n := 62) rfl (lv_topi (fun x_22 ex_22 => ?_)))
            refine lv_istore_n (lv' := [(3, .int x_22), (0, .ref a0), (1, .int a1), (2, .int a2), (4, .int v4_h_7)]) hx hb dX11_saves_62 rfl hl (by decide) rfl (fun ls hl => hp_n (n := 63) rfl ?_)
            obtain ⟨x_23, ex_23⟩ : ∃ y : Int32, y = v4_h_7 + 1 := ⟨_, rfl⟩
            have qx_23 : x_23.toInt = v4_h_7.toInt + 1 := by have qa := ib_lo v4_h_7; rw [ex_23]; exact ii_add (by omega) (by omega)
            refine lv_iinc (v := x_23) (lv' := [(4, .int x_23), (3, .int x_22), (0, .ref a0), (1, .int a1), (2, .int a2)]) hx hb dX11_saves_63 hl (k := 4) rfl (by rw [ex_23]; rfl) (by decide) rfl (fun ls hl => hp_n (n := 66) rfl ?_)
            refine lv_goto (tgt := 26) hx hb dX11_saves_66 (by decide) ?_
            exact ih26 _ (by have qa := ib_hi v4_h_7; have qb := ib_lo v4_h_7; have qc : (v4_h_7 + 1).toInt = v4_h_7.toInt + (1 : Int32).toInt := ii_add (by omega) (by omega); rw [ex_23]; omega) αh_19 Hh_19 Lh_19 Bh_19 x_22 x_23 (by omega) ls (lv_sub hl [2, 3, 4, 1, 0] rfl) rfl
      refine lv_istore (lv' := [(4, .int 0), (3, .int 0), (0, .ref a0), (1, .int a1), (2, .int a2)]) hx hb dX11_saves_24 hl (by decide) rfl (fun ls hl => hp_n (n := 26) rfl ?_)
      exact J26 _ α Hh_5 Lh_5 Bh_5 0 0 (by omega) ls (lv_sub hl [2, 3, 4, 1, 0] rfl) rfl
    ·
      have jc_6 := il_eq c_6
      exact J15 Hh_5 Lh_5 Bh_5 ls (lv_sub hl [0] rfl)
abbrev w_X11_who : cw_W := ([600], [], [33], [])
set_option maxRecDepth 100000 in
set_option maxHeartbeats 4000000 in
theorem t_X11_who (Γ : hp_G) (l : Launch) (α : hp_T) (g : GC α) (a0 : Nat) (k0 : hp_K α a0 = 12) (a1 : Int32) (a2 : Int32) : Met l yX11_who (hp_ws yX11_who cX11_who 5 (some .int)) (hp_rm 4 0 0) (hp_Pc Γ α [.ref a0, .int a1, .int a2]) (hp_Qi Γ (fun r β => cw w_X11_who α β)) 0 0 (hp_A Γ) := by
  refine hp_start (by decide) ?_
  intro p e s m below meth c C hr hlk B0 hnm
  have C : hp_C Γ p m c cX11_who 5 s ([.ref a0, .int a1, .int a2] : List Value).toArray RX11 := C
  have hx := C.1.1
  have hb := C.1.2.1
  have hown := C.1.2.2.2.1
  have hts := C.1.2.2.2.2
  have B : hp_B Γ (cw w_X11_who) s α α s.heap [] := ⟨B0.1, B0.2.1, cw_rf g⟩
  have lit0 : (0 : Int32).toInt = 0 := by decide
  have lit1 : (1 : Int32).toInt = 1 := by decide
  have hl := lv_entry ([.ref a0, .int a1, .int a2]) (n := 5) (Nat.le_of_ble_eq_true rfl)
  show W p l e (hp_rm 4 0 0) s m ([.ref a0, .int a1, .int a2] : List Value).toArray below meth c s.heap [] 0 0 (MQ below (hp_Qi Γ (fun r β => cw w_X11_who α β)) ([.ref a0, .int a1, .int a2] : List Value).toArray s 0 0 (hp_A Γ)) (entryFrame m ([.ref a0, .int a1, .int a2] : List Value).toArray 5)
  rw [lg_entry_eq]
  generalize (lg_sl ([.ref a0, .int a1, .int a2]) ++ List.replicate (5 - (lg_sl ([.ref a0, .int a1, .int a2])).length) Slot.unset).toArray = ls at hl ⊢
  have hl : lv_has ls 5 [(0, .ref a0), (1, .int a1), (2, .int a2)] := hl
  refine lv_iload_n hx hb dX11_who_0 rfl (lv_at hl 1 rfl) (hp_n (n := 1) rfl ?_)
  have J12 : ∀ (Hh_1 : Heap) (Lh_1 : List Loc) (Bh_1 : hp_B Γ (cw w_X11_who) s α α Hh_1 Lh_1) (ls : Array Slot) (hl : lv_has ls 5 [(0, .ref a0)]), W p l e (hp_rm 4 0 0) s m ([.ref a0, .int a1, .int a2] : List Value).toArray below meth c Hh_1 Lh_1 0 0 (MQ below (hp_Qi Γ (fun r β => cw w_X11_who α β)) ([.ref a0, .int a1, .int a2] : List Value).toArray s 0 0 (hp_A Γ)) (F0 m 12 ls []) := by
    intro Hh_1 Lh_1 Bh_1 ls hl
    refine lv_aload_n hx hb dX11_who_12 rfl (lv_at hl 0 rfl) (hp_n (n := 13) rfl ?_)
    refine lv_iconst (v := 1) hx hb dX11_who_13 (by decide) (hp_n (n := 14) rfl ?_)
    refine q_ci (pc' := 17) Bh_1 (hp_runV (As := [.int 1]) (rest := []) C Bh_1 (t_X11_refuse Γ l α Bh_1.2.2.1 a0 (cw_k Bh_1.2.2 k0) 1) lb_X11_refuse lv_X11_refuse lk_X11_98 (cw_k Bh_1.2.2 k0) rfl (by decide) rfl hl.1 rfl (Nat.le_of_ble_eq_true rfl) dX11_who_14 ⟨Nat.le_refl _, Nat.le_refl _⟩) (fun _ _ h => cw_tr Bh_1.2.2 h (by decide)) rfl (fun rh_2 αh_2 Hh_2 Lh_2 ph_2 Bh_2 => ?_)
    exact q_iret C Bh_2 hr hlk Bh_2.2.2 dX11_who_17
  refine lv_if_lt (tgt := 12) hx hb dX11_who_1 (by decide) (fun c_3 => ?_) (fun c_3 => hp_n (n := 4) rfl ?_)
  ·
    have jc_3 := il_lt c_3
    exact J12 s.heap [] B ls (lv_sub hl [0] rfl)
  ·
    have jc_3 := il_nlt c_3
    refine lv_aload_n hx hb dX11_who_4 rfl (lv_at hl 0 rfl) (hp_n (n := 5) rfl ?_)
    refine lv_iload_n hx hb dX11_who_5 rfl (lv_at hl 2 rfl) (hp_n (n := 6) rfl ?_)
    refine q_ci (pc' := 9) B (hp_runV (As := [.int a2]) (rest := []) C B (t_X11_isMark Γ l α B.2.2.1 a0 (cw_k B.2.2 k0) a2) lb_X11_isMark lv_X11_isMark lk_X11_188 (cw_k B.2.2 k0) rfl (by decide) rfl hl.1 rfl (Nat.le_of_ble_eq_true rfl) dX11_who_6 ⟨Nat.le_refl _, Nat.le_refl _⟩) (fun _ _ h => by rw [h.1]; exact B.2.2) rfl (fun rh_4 αh_4 Hh_4 Lh_4 ph_4 Bh_4 => ?_)
    rw [ph_4.1] at Bh_4
    have zh_4 := ph_4.2
    refine lv_if_ne (tgt := 18) hx hb dX11_who_9 (by decide) (fun c_5 => ?_) (fun c_5 => hp_n (n := 12) rfl ?_)
    ·
      have jc_5 := il_ne c_5
      refine lv_iconst (v := 0) hx hb dX11_who_18 (by decide) (hp_n (n := 19) rfl ?_)
      refine lv_istore_n (lv' := [(3, .int 0), (0, .ref a0), (1, .int a1), (2, .int a2)]) hx hb dX11_who_19 rfl hl (by decide) rfl (fun ls hl => hp_n (n := 20) rfl ?_)
      refine lv_iconst (v := 0) hx hb dX11_who_20 (by decide) (hp_n (n := 21) rfl ?_)
      have J23 : ∀ (nq : Nat) (αh_6 : hp_T) (Hh_6 : Heap) (Lh_6 : List Loc) (Bh_6 : hp_B Γ (cw w_X11_who) s α αh_6 Hh_6 Lh_6) (v3_h_6 : Int32) (v4_h_6 : Int32) (ih_6_0 : 0 ≤ v4_h_6.toInt) (ls : Array Slot) (hl : lv_has ls 5 [(0, .ref a0), (1, .int a1), (2, .int a2), (3, .int v3_h_6), (4, .int v4_h_6)]) (hmu23 : (2147483647 - v4_h_6.toInt).toNat = nq), W p l e (hp_rm 4 0 0) s m ([.ref a0, .int a1, .int a2] : List Value).toArray below meth c Hh_6 Lh_6 0 0 (MQ below (hp_Qi Γ (fun r β => cw w_X11_who α β)) ([.ref a0, .int a1, .int a2] : List Value).toArray s 0 0 (hp_A Γ)) (F0 m 23 ls []) := by
        intro nq
        induction nq using Nat.strongRecOn with
        | ind nq ih23 =>
        intro αh_6 Hh_6 Lh_6 Bh_6 v3_h_6 v4_h_6 ih_6_0 ls hl hmu23
        have inv23_0 := ih_6_0
        refine lv_iload hx hb dX11_who_23 (lv_at hl 4 rfl) (hp_n (n := 25) rfl ?_)
        refine lv_aload_n hx hb dX11_who_25 rfl (lv_at hl 0 rfl) (hp_n (n := 26) rfl ?_)
        refine q_getr (κ := 12) (k := 1) (φ := 601) (pc' := 29) C Bh_6 (cw_k Bh_6.2.2 k0) fl_X11_16 rfl rfl rfl (cw_r Bh_6.2.2 k0 rfl rfl (by decide) (by decide)) dX11_who_26 rfl (fun b_7 eb_7 kb_7 => ?_)
        refine q_geti (κ := 11) (k := 2) (φ := 552) (pc' := 32) C Bh_6 (cw_k Bh_6.2.2 kb_7) fl_X11_112 rfl rfl rfl dX11_who_29 rfl (fun x_8 ex_8 => ?_)
        refine lv_icmp_ge (tgt := 69) hx hb dX11_who_32 (by decide) (fun c_9 => ?_) (fun c_9 => hp_n (n := 35) rfl ?_)
        ·
          have jc_9 := il_le c_9
          refine lv_aload_n hx hb dX11_who_69 rfl (lv_at hl 0 rfl) (hp_n (n := 70) rfl ?_)
          refine lv_iload_n hx hb dX11_who_70 rfl (lv_at hl 3 rfl) (hp_n (n := 71) rfl ?_)
          refine q_ci (pc' := 74) Bh_6 (hp_runV (As := [.int v3_h_6]) (rest := []) C Bh_6 (t_X11_answer Γ l αh_6 Bh_6.2.2.1 a0 (cw_k Bh_6.2.2 k0) v3_h_6) lb_X11_answer lv_X11_answer lk_X11_115 (cw_k Bh_6.2.2 k0) rfl (by decide) rfl hl.1 rfl (Nat.le_of_ble_eq_true rfl) dX11_who_71 ⟨Nat.le_refl _, Nat.le_refl _⟩) (fun _ _ h => cw_tr Bh_6.2.2 h (by decide)) rfl (fun rh_10 αh_10 Hh_10 Lh_10 ph_10 Bh_10 => ?_)
          exact q_iret C Bh_10 hr hlk Bh_10.2.2 dX11_who_74
        ·
          have jc_9 := il_nle c_9
          refine lv_aload_n hx hb dX11_who_35 rfl (lv_at hl 0 rfl) (hp_n (n := 36) rfl ?_)
          refine q_gets (κ := 12) (k := 1) (φ := 601) (pc' := 39) C Bh_6 (cw_k Bh_6.2.2 k0) fl_X11_16 rfl rfl rfl eb_7 dX11_who_36 rfl ?_
          refine lv_aload_n hx hb dX11_who_39 rfl (lv_at hl 0 rfl) (hp_n (n := 40) rfl ?_)
          refine q_gets (κ := 12) (k := 1) (φ := 601) (pc' := 43) C Bh_6 (cw_k Bh_6.2.2 k0) fl_X11_16 rfl rfl rfl eb_7 dX11_who_40 rfl ?_
          refine lv_iload hx hb dX11_who_43 (lv_at hl 4 rfl) (hp_n (n := 45) rfl ?_)
          refine q_cq (pc' := 48) Bh_6 (hp_runV (As := [.int v4_h_6]) (rest := [.ref b_7]) C Bh_6 (t_X10_logAt Γ l αh_6 Bh_6.2.2.1 b_7 (cw_k Bh_6.2.2 kb_7) v4_h_6) lb_X10_logAt lv_X10_logAt lk_X11_163 (cw_k Bh_6.2.2 kb_7) rfl (by decide) rfl hl.1 rfl (Nat.le_of_ble_eq_true rfl) dX11_who_45 ⟨Nat.le_refl _, Nat.le_refl _⟩) (fun _ _ h => by rw [h.1]; exact Bh_6.2.2) rfl (fun rh_11 αh_11 Hh_11 Lh_11 ph_11 Bh_11 => ?_)
          rw [ph_11.1] at Bh_11
          rcases rh_11 with _ | bh_11
          ·
            refine lv_iload_n hx hb dX11_who_48 rfl (lv_at hl 1 rfl) (hp_n (n := 49) rfl ?_)
            refine lv_iload_n hx hb dX11_who_49 rfl (lv_at hl 2 rfl) (hp_n (n := 50) rfl ?_)
            refine q_ci (pc' := 53) Bh_11 (hp_runV (As := [va_rf none, .int a1, .int a2]) (rest := []) C Bh_11 (t_X10_hasHead Γ l αh_6 Bh_11.2.2.1 b_7 (cw_k Bh_11.2.2 kb_7) none (fun b h => by cases h) a1 a2) lb_X10_hasHead lv_X10_hasHead lk_X11_435 (cw_k Bh_11.2.2 kb_7) rfl (by decide) rfl hl.1 rfl (Nat.le_of_ble_eq_true rfl) dX11_who_50 ⟨Nat.le_refl _, Nat.le_refl _⟩) (fun _ _ h => cw_tr Bh_11.2.2 h.1 (by decide)) rfl (fun rh_12 αh_12 Hh_12 Lh_12 ph_12 Bh_12 => ?_)
            have zh_12 := ph_12.2
            refine lv_if_eq (tgt := 63) hx hb dX11_who_53 (by decide) (fun c_13 => ?_) (fun c_13 => hp_n (n := 56) rfl ?_)
            ·
              have jc_13 := il_eq c_13
              obtain ⟨x_14, ex_14⟩ : ∃ y : Int32, y = v4_h_6 + 1 := ⟨_, rfl⟩
              have qx_14 : x_14.toInt = v4_h_6.toInt + 1 := by have q0 := ib_hi x_8; have qa := ib_lo v4_h_6; rw [ex_14]; exact ii_add (by omega) (by omega)
              refine lv_iinc (v := x_14) (lv' := [(4, .int x_14), (0, .ref a0), (1, .int a1), (2, .int a2), (3, .int v3_h_6)]) hx hb dX11_who_63 hl (k := 4) rfl (by rw [ex_14]; rfl) (by decide) rfl (fun ls hl => hp_n (n := 66) rfl ?_)
              refine lv_goto (tgt := 23) hx hb dX11_who_66 (by decide) ?_
              exact ih23 _ (by have q0 := ib_hi x_8; have q1 := ib_lo x_8; have qa := ib_hi v4_h_6; have qb := ib_lo v4_h_6; have qc : (v4_h_6 + 1).toInt = v4_h_6.toInt + (1 : Int32).toInt := ii_add (by omega) (by omega); rw [ex_14]; omega) αh_12 Hh_12 Lh_12 Bh_12 v3_h_6 x_14 (by omega) ls (lv_sub hl [1, 2, 3, 4, 0] rfl) rfl
            ·
              have jc_13 := il_ne c_13
              refine lv_iload_n hx hb dX11_who_56 rfl (lv_at hl 3 rfl) (hp_n (n := 57) rfl ?_)
              refine lv_iconst (v := 1) hx hb dX11_who_57 (by decide) (hp_n (n := 58) rfl ?_)
              refine lv_iload hx hb dX11_who_58 (lv_at hl 4 rfl) (hp_n (n := 60) rfl ?_)
              refine lv_ishl hx hb dX11_who_60 (hp_n (n := 61) rfl (lv_topi (fun x_15 ex_15 => ?_)))
              refine lv_ior hx hb dX11_who_61 (hp_n (n := 62) rfl (lv_topi (fun x_16 ex_16 => ?_)))
              refine lv_istore_n (lv' := [(3, .int x_16), (0, .ref a0), (1, .int a1), (2, .int a2), (4, .int v4_h_6)]) hx hb dX11_who_62 rfl hl (by decide) rfl (fun ls hl => hp_n (n := 63) rfl ?_)
              obtain ⟨x_17, ex_17⟩ : ∃ y : Int32, y = v4_h_6 + 1 := ⟨_, rfl⟩
              have qx_17 : x_17.toInt = v4_h_6.toInt + 1 := by have q0 := ib_hi x_8; have qa := ib_lo v4_h_6; rw [ex_17]; exact ii_add (by omega) (by omega)
              refine lv_iinc (v := x_17) (lv' := [(4, .int x_17), (3, .int x_16), (0, .ref a0), (1, .int a1), (2, .int a2)]) hx hb dX11_who_63 hl (k := 4) rfl (by rw [ex_17]; rfl) (by decide) rfl (fun ls hl => hp_n (n := 66) rfl ?_)
              refine lv_goto (tgt := 23) hx hb dX11_who_66 (by decide) ?_
              exact ih23 _ (by have q0 := ib_hi x_8; have q1 := ib_lo x_8; have qa := ib_hi v4_h_6; have qb := ib_lo v4_h_6; have qc : (v4_h_6 + 1).toInt = v4_h_6.toInt + (1 : Int32).toInt := ii_add (by omega) (by omega); rw [ex_17]; omega) αh_12 Hh_12 Lh_12 Bh_12 x_16 x_17 (by omega) ls (lv_sub hl [2, 3, 4, 1, 0] rfl) rfl
          ·
            have kbh_11 : hp_K α bh_11 = 3 := cw_k' Bh_11.2.2 (ph_11.2 bh_11 rfl)
            refine lv_iload_n hx hb dX11_who_48 rfl (lv_at hl 1 rfl) (hp_n (n := 49) rfl ?_)
            refine lv_iload_n hx hb dX11_who_49 rfl (lv_at hl 2 rfl) (hp_n (n := 50) rfl ?_)
            refine q_ci (pc' := 53) Bh_11 (hp_runV (As := [va_rf (some bh_11), .int a1, .int a2]) (rest := []) C Bh_11 (t_X10_hasHead Γ l αh_6 Bh_11.2.2.1 b_7 (cw_k Bh_11.2.2 kb_7) (some bh_11) (fun b h => by cases h; exact (cw_k Bh_11.2.2 kbh_11)) a1 a2) lb_X10_hasHead lv_X10_hasHead lk_X11_435 (cw_k Bh_11.2.2 kb_7) rfl (by decide) rfl hl.1 rfl (Nat.le_of_ble_eq_true rfl) dX11_who_50 ⟨Nat.le_refl _, Nat.le_refl _⟩) (fun _ _ h => cw_tr Bh_11.2.2 h.1 (by decide)) rfl (fun rh_18 αh_18 Hh_18 Lh_18 ph_18 Bh_18 => ?_)
            have zh_18 := ph_18.2
            refine lv_if_eq (tgt := 63) hx hb dX11_who_53 (by decide) (fun c_19 => ?_) (fun c_19 => hp_n (n := 56) rfl ?_)
            ·
              have jc_19 := il_eq c_19
              obtain ⟨x_20, ex_20⟩ : ∃ y : Int32, y = v4_h_6 + 1 := ⟨_, rfl⟩
              have qx_20 : x_20.toInt = v4_h_6.toInt + 1 := by have q0 := ib_hi x_8; have qa := ib_lo v4_h_6; rw [ex_20]; exact ii_add (by omega) (by omega)
              refine lv_iinc (v := x_20) (lv' := [(4, .int x_20), (0, .ref a0), (1, .int a1), (2, .int a2), (3, .int v3_h_6)]) hx hb dX11_who_63 hl (k := 4) rfl (by rw [ex_20]; rfl) (by decide) rfl (fun ls hl => hp_n (n := 66) rfl ?_)
              refine lv_goto (tgt := 23) hx hb dX11_who_66 (by decide) ?_
              exact ih23 _ (by have q0 := ib_hi x_8; have q1 := ib_lo x_8; have qa := ib_hi v4_h_6; have qb := ib_lo v4_h_6; have qc : (v4_h_6 + 1).toInt = v4_h_6.toInt + (1 : Int32).toInt := ii_add (by omega) (by omega); rw [ex_20]; omega) αh_18 Hh_18 Lh_18 Bh_18 v3_h_6 x_20 (by omega) ls (lv_sub hl [1, 2, 3, 4, 0] rfl) rfl
            ·
              have jc_19 := il_ne c_19
              refine lv_iload_n hx hb dX11_who_56 rfl (lv_at hl 3 rfl) (hp_n (n := 57) rfl ?_)
              refine lv_iconst (v := 1) hx hb dX11_who_57 (by decide) (hp_n (n := 58) rfl ?_)
              refine lv_iload hx hb dX11_who_58 (lv_at hl 4 rfl) (hp_n (n := 60) rfl ?_)
              refine lv_ishl hx hb dX11_who_60 (hp_n (n := 61) rfl (lv_topi (fun x_21 ex_21 => ?_)))
              refine lv_ior hx hb dX11_who_61 (hp_n (n := 62) rfl (lv_topi (fun x_22 ex_22 => ?_)))
              refine lv_istore_n (lv' := [(3, .int x_22), (0, .ref a0), (1, .int a1), (2, .int a2), (4, .int v4_h_6)]) hx hb dX11_who_62 rfl hl (by decide) rfl (fun ls hl => hp_n (n := 63) rfl ?_)
              obtain ⟨x_23, ex_23⟩ : ∃ y : Int32, y = v4_h_6 + 1 := ⟨_, rfl⟩
              have qx_23 : x_23.toInt = v4_h_6.toInt + 1 := by have q0 := ib_hi x_8; have qa := ib_lo v4_h_6; rw [ex_23]; exact ii_add (by omega) (by omega)
              refine lv_iinc (v := x_23) (lv' := [(4, .int x_23), (3, .int x_22), (0, .ref a0), (1, .int a1), (2, .int a2)]) hx hb dX11_who_63 hl (k := 4) rfl (by rw [ex_23]; rfl) (by decide) rfl (fun ls hl => hp_n (n := 66) rfl ?_)
              refine lv_goto (tgt := 23) hx hb dX11_who_66 (by decide) ?_
              exact ih23 _ (by have q0 := ib_hi x_8; have q1 := ib_lo x_8; have qa := ib_hi v4_h_6; have qb := ib_lo v4_h_6; have qc : (v4_h_6 + 1).toInt = v4_h_6.toInt + (1 : Int32).toInt := ii_add (by omega) (by omega); rw [ex_23]; omega) αh_18 Hh_18 Lh_18 Bh_18 x_22 x_23 (by omega) ls (lv_sub hl [2, 3, 4, 1, 0] rfl) rfl
      refine lv_istore (lv' := [(4, .int 0), (3, .int 0), (0, .ref a0), (1, .int a1), (2, .int a2)]) hx hb dX11_who_21 hl (by decide) rfl (fun ls hl => hp_n (n := 23) rfl ?_)
      exact J23 _ α Hh_4 Lh_4 Bh_4 0 0 (by omega) ls (lv_sub hl [2, 3, 4, 1, 0] rfl) rfl
    ·
      have jc_5 := il_eq c_5
      exact J12 Hh_4 Lh_4 Bh_4 ls (lv_sub hl [0] rfl)
end JN4_0
section JN4_1
/-! ===== the reference as pure functions: its state, rows over it ===== -/
abbrev ms_T : Type := (Nat → Int32) × (Nat → Nat → Int32) × Int64
def ms_I (σ : ms_T) (φ : Nat) : Int32 := σ.1 φ
def ms_E (σ : ms_T) (κ j : Nat) : Int32 := σ.2.1 κ j
def ms_J (σ : ms_T) : Int64 := σ.2.2
def ms_sI (σ : ms_T) (φ : Nat) (v : Int32) : ms_T := (fun ψ => if ψ = φ then v else σ.1 ψ, σ.2)
def ms_sE (σ : ms_T) (κ j : Nat) (v : Int32) : ms_T := (σ.1, fun ψ i => if ψ = κ ∧ i = j then v else σ.2.1 ψ i, σ.2.2)
def ms_sJ (σ : ms_T) (v : Int64) : ms_T := (σ.1, σ.2.1, v)
def ms_w (j : Nat) : Int64 := ([9886, 841, 555, 129530, 95762147, 380237, 257, 151331, 411, 257105, 161140, 79] : List Int64).getD j 0
def ms_mf : List (Nat × Nat) := [(40, 650), (41, 651), (42, 654), (43, 655), (44, 656), (45, 662), (46, 663), (47, 666), (48, 678), (49, 680), (50, 681), (51, 686), (52, 687), (53, 688), (54, 690), (55, 691), (56, 692), (57, 693), (58, 694), (59, 696)]
/-- a guard, a name, what comes behind a part -/
def ms_g {R : Type} (i : Int32) (n : Nat) (k : Option R) : Option R := if 0 ≤ i.toInt ∧ i.toInt < (n : Int) then k else none
def ms_n {R : Type} (i : Int32) (k : Option R) : Option R := if i = 0 then none else k
def ms_nl {R : Type} (i : Int64) (k : Option R) : Option R := if i = 0 then none else k
def ms_z {R : Type} (i : Int32) (k : Option R) : Option R := if i = 0 ∨ i = 1 then k else none
def ms_q {R : Type} (i k : Int32) (o : Option R) : Option R := if 0 ≤ i.toInt ∧ i.toInt < k.toInt then o else none
def ms_l {A R : Type} (v : A) (k : A → Option R) : Option R := k v
def ms_b {A R : Type} (x : Option A) (k : A → Option R) : Option R := match x with
  | some a => k a
  | none => none
def ms_c {A R : Type} (x : Option (A × ms_T)) (k : A → ms_T → Option R) : Option R := match x with
  | some q => k q.1 q.2
  | none => none
theorem ms_gE {R : Type} {i : Int32} {n : Nat} {k : Option R} {r : R} (h : ms_g i n k = some r) : (0 ≤ i.toInt ∧ i.toInt < (n : Int)) ∧ k = some r := by
  unfold ms_g at h
  split at h
  · exact ⟨by assumption, h⟩
  · cases h
theorem ms_nE {R : Type} {i : Int32} {k : Option R} {r : R} (h : ms_n i k = some r) : ¬ i = 0 ∧ k = some r := by
  unfold ms_n at h
  split at h
  · cases h
  · exact ⟨by assumption, h⟩
theorem ms_nlE {R : Type} {i : Int64} {k : Option R} {r : R} (h : ms_nl i k = some r) : ¬ i = 0 ∧ k = some r := by
  unfold ms_nl at h
  split at h
  · cases h
  · exact ⟨by assumption, h⟩
theorem ms_zE {R : Type} {i : Int32} {k : Option R} {r : R} (h : ms_z i k = some r) : (i = 0 ∨ i = 1) ∧ k = some r := by
  unfold ms_z at h
  split at h
  · exact ⟨by assumption, h⟩
  · cases h
theorem ms_qE {R : Type} {i k : Int32} {o : Option R} {r : R} (h : ms_q i k o = some r) : (0 ≤ i.toInt ∧ i.toInt < k.toInt) ∧ o = some r := by
  unfold ms_q at h
  split at h
  · exact ⟨by assumption, h⟩
  · cases h
theorem ms_lE {A R : Type} {v x : A} {k : A → Option R} {r : R} (e : x = v) (h : ms_l v k = some r) : k x = some r := by
  rw [e]; exact h
theorem ms_bE {A R : Type} {x : Option A} {k : A → Option R} {r : R} (h : ms_b x k = some r) : ∃ a, x = some a ∧ k a = some r := by
  cases x with
  | none => cases h
  | some a => exact ⟨a, rfl, h⟩
theorem ms_cE {A R : Type} {x : Option (A × ms_T)} {k : A → ms_T → Option R} {r : R} (h : ms_c x k = some r) : ∃ a σ, x = some (a, σ) ∧ k a σ = some r := by
  cases x with
  | none => cases h
  | some q => exact ⟨q.1, q.2, rfl, h⟩
theorem ms_iT {R : Type} {c : Prop} [Decidable c] {a b r : R} (h : c) (e : (if c then a else b) = r) : a = r := by
  rw [if_pos h] at e; exact e
theorem ms_iF {R : Type} {c : Prop} [Decidable c] {a b r : R} (h : ¬ c) (e : (if c then a else b) = r) : b = r := by
  rw [if_neg h] at e; exact e
/-- the reference's object in the picture -/
def hm_M (α : hp_T) (a : Nat) (ρ : Nat → Nat) (σ : ms_T) : Prop := hp_K α a = 13 ∧ (∀ q ∈ ms_mf, hp_R α q.2 a = ρ q.1 ∧ hp_K α (ρ q.1) = q.1) ∧ (∀ φ, 650 ≤ φ → hp_I α φ a = ms_I σ φ) ∧ (∀ κ j, 40 ≤ κ → κ < 60 → hp_E α κ (ρ κ) j = ms_E σ κ j) ∧ hp_J α 677 a = ms_J σ ∧ (∀ j, j < 12 → hp_L α 48 (ρ 48) j = ms_w j)
/-- all else stays -/
def mo (α0 α : hp_T) : Prop := hp_K α = hp_K α0 ∧ hp_R α = hp_R α0 ∧ hp_N α = hp_N α0 ∧ hp_Q α = hp_Q α0 ∧ hp_L α = hp_L α0 ∧ (∀ φ, φ < 650 → hp_I α φ = hp_I α0 φ) ∧ (∀ κ, κ < 40 → hp_E α κ = hp_E α0 κ)
theorem mo_rf {α : hp_T} : mo α α := ⟨rfl, rfl, rfl, rfl, rfl, fun _ _ => rfl, fun _ _ => rfl⟩
theorem mo_tr {α β γ : hp_T} (h : mo α β) (g : mo β γ) : mo α γ := by
  obtain ⟨h1, h2, h3, h4, h5, h6, h7⟩ := h
  obtain ⟨g1, g2, g3, g4, g5, g6, g7⟩ := g
  exact ⟨g1.trans h1, g2.trans h2, g3.trans h3, g4.trans h4, g5.trans h5, fun φ hφ => (g6 φ hφ).trans (h6 φ hφ), fun κ hκ => (g7 κ hκ).trans (h7 κ hκ)⟩
theorem mo_sI {α0 α : hp_T} {φ a : Nat} {v : Int32} (h : mo α0 α) (hφ : 650 ≤ φ) : mo α0 (hp_sI α φ a v) := by
  refine mo_tr h ⟨rfl, rfl, rfl, rfl, rfl, fun ψ hψ => ?_, fun _ _ => rfl⟩
  funext b
  simp [hp_I, hp_sI, hp_up, show ψ ≠ φ by omega]
theorem mo_sJ {α0 α : hp_T} {φ a : Nat} {v : Int64} (h : mo α0 α) : mo α0 (hp_sJ α φ a v) := mo_tr h ⟨rfl, rfl, rfl, rfl, rfl, fun _ _ => rfl, fun _ _ => rfl⟩
theorem mo_sE {α0 α : hp_T} {κ a j : Nat} {v : Int32} (h : mo α0 α) (hκ : 40 ≤ κ) : mo α0 (hp_sE α κ a j v) := by
  refine mo_tr h ⟨rfl, rfl, rfl, rfl, rfl, fun _ _ => rfl, fun ψ hψ => ?_⟩
  funext b i
  simp [hp_E, hp_sE, hp_uq, show ψ ≠ κ by omega]
theorem hm_sI {α : hp_T} {a : Nat} {ρ : Nat → Nat} {σ : ms_T} {φ : Nat} {v : Int32} (h : hm_M α a ρ σ) : hm_M (hp_sI α φ a v) a ρ (ms_sI σ φ v) := by
  obtain ⟨h1, h2, h3, h4, h5, h6⟩ := h
  refine ⟨h1, h2, fun ψ hψ => ?_, h4, h5, h6⟩
  have := h3 ψ hψ
  by_cases e : ψ = φ
  · subst e; simp [hp_I, hp_sI, hp_up, ms_I, ms_sI]
  · simp only [hp_I, ms_I] at this
    simp [hp_I, hp_sI, hp_up, ms_I, ms_sI, e, this]
theorem hm_sJ {α : hp_T} {a : Nat} {ρ : Nat → Nat} {σ : ms_T} {v : Int64} (h : hm_M α a ρ σ) : hm_M (hp_sJ α 677 a v) a ρ (ms_sJ σ v) := by
  obtain ⟨h1, h2, h3, h4, h5, h6⟩ := h
  refine ⟨h1, h2, h3, h4, ?_, h6⟩
  simp [hp_J, hp_sJ, hp_up, ms_J, ms_sJ]
theorem hm_sE {α : hp_T} {a : Nat} {ρ : Nat → Nat} {σ : ms_T} {κ j : Nat} {v : Int32} (h : hm_M α a ρ σ) : hm_M (hp_sE α κ (ρ κ) j v) a ρ (ms_sE σ κ j v) := by
  obtain ⟨h1, h2, h3, h4, h5, h6⟩ := h
  refine ⟨h1, h2, h3, fun ψ i hψ hψ2 => ?_, h5, h6⟩
  have := h4 ψ i hψ hψ2
  by_cases e : ψ = κ ∧ i = j
  · obtain ⟨rfl, rfl⟩ := e; simp [hp_E, hp_sE, hp_uq, ms_E, ms_sE]
  · have e2 : ¬ (ψ = κ ∧ ρ ψ = ρ κ ∧ i = j) := fun q => e ⟨q.1, q.2.2⟩
    simp only [hp_E, ms_E] at this
    simp only [hp_E, hp_sE, hp_uq, ms_E, ms_sE, if_neg e, if_neg e2]
    exact this
section HPM
variable {p : Program} {l : Launch} {e : Env} {R : Room} {s : State} {m : MethodId} {args : Array Value} {below : List Frame} {meth : Method} {c : Code} {H : Heap} {locs : List Loc} {cells slots : Nat} {Q : State → Prop} {cc : ByteArray} {nL : Nat} {own : String} {Γ : hp_G} {α0 α : hp_T} {Iv : hp_T → hp_T → Prop} {pc pc' : Nat} {ls : Array Slot} {rest : List Value} {a κ k index φ n : Nat} {ρ : Nat → Nat} {σ : ms_T} {i x : Int32}
theorem ms_mf40 : ∀ q ∈ ms_mf, 40 ≤ q.1 := by decide
theorem ms_mf60 : ∀ q ∈ ms_mf, q.1 < 60 := by decide
theorem m_geti (C : hp_C Γ p m c cc nL s args own) (B : hp_B Γ Iv s α0 α H locs) (hM : hm_M α a ρ σ) (hF : hp_F own index 13 k) (ht : (hp_tg 13)[k]? = some 0) (hφ : 650 + k = φ) (hdg : decode cc pc = .ok (.getfield index, 3)) (hpc : pc + 3 = pc')
    (kk : W p l e R s m args below meth c H locs cells slots Q (F0 m pc' ls (.int (ms_I σ φ) :: rest))) : W p l e R s m args below meth c H locs cells slots Q (F0 m pc ls (.ref a :: rest)) := by
  subst hφ
  exact q_get (κ := 13) C B hM.1 hF rfl ht (show Value.int (hp_I α (650 + k) a) = Value.int (ms_I σ (650 + k)) by rw [hM.2.2.1 _ (by omega)]) hdg hpc kk
theorem m_getl (C : hp_C Γ p m c cc nL s args own) (B : hp_B Γ Iv s α0 α H locs) (hM : hm_M α a ρ σ) (hF : hp_F own index 13 27) (hdg : decode cc pc = .ok (.getfield index, 3)) (hpc : pc + 3 = pc')
    (kk : W p l e R s m args below meth c H locs cells slots Q (F0 m pc' ls (.long (ms_J σ) :: rest))) : W p l e R s m args below meth c H locs cells slots Q (F0 m pc ls (.ref a :: rest)) := by
  exact q_get (κ := 13) (k := 27) (t := 2) C B hM.1 hF rfl rfl (show Value.long (hp_J α 677 a) = Value.long (ms_J σ) by rw [hM.2.2.2.2.1]) hdg hpc kk
theorem m_getr (C : hp_C Γ p m c cc nL s args own) (B : hp_B Γ Iv s α0 α H locs) (hM : hm_M α a ρ σ) (hF : hp_F own index 13 k) (ht : (hp_tg 13)[k]? = some 1) (hm : (κ, 650 + k) ∈ ms_mf) (hdg : decode cc pc = .ok (.getfield index, 3)) (hpc : pc + 3 = pc')
    (kk : W p l e R s m args below meth c H locs cells slots Q (F0 m pc' ls (.ref (ρ κ) :: rest))) : W p l e R s m args below meth c H locs cells slots Q (F0 m pc ls (.ref a :: rest)) :=
  q_get (κ := 13) C B hM.1 hF rfl ht (show Value.ref (hp_R α (650 + k) a) = Value.ref (ρ κ) by rw [(hM.2.1 _ hm).1]) hdg hpc kk
theorem m_puti (C : hp_C Γ p m c cc nL s args own) (B : hp_B Γ mo s α0 α H locs) (hM : hm_M α a ρ σ) (hF : hp_F own index 13 k) (ht : (hp_tg 13)[k]? = some 0) (hφ : 650 + k = φ) (hfin : ((hp_q 13).2.1 k).2.2.2 = false) (hn : narrow (hp_ty 13 k) (.int x) = .int x) (hfit : fits (hp_ty 13 k) (.int x) = true) (hdg : decode cc pc = .ok (.putfield index, 3)) (hpc : pc + 3 = pc')
    (kk : ∀ (β : hp_T) (H1 : Heap) (locs1 : List Loc) (τ : ms_T), τ = ms_sI σ φ x → hp_B Γ mo s α0 β H1 locs1 → hm_M β a ρ τ → W p l e R s m args below meth c H1 locs1 cells slots Q (F0 m pc' ls rest)) : W p l e R s m args below meth c H locs cells slots Q (F0 m pc ls (.int x :: .ref a :: rest)) := by
  subst hφ
  exact q_puti (κ := 13) (φ := 650 + k) C B hM.1 hF rfl ht hfin hn hfit rfl (mo_sI B.2.2 (by omega)) hdg hpc (fun β H1 L1 eb B1 => kk β H1 L1 _ rfl B1 (by rw [eb]; exact hm_sI hM))
theorem m_putl {x : Int64} (C : hp_C Γ p m c cc nL s args own) (B : hp_B Γ mo s α0 α H locs) (hM : hm_M α a ρ σ) (hF : hp_F own index 13 27) (hdg : decode cc pc = .ok (.putfield index, 3)) (hpc : pc + 3 = pc')
    (kk : ∀ (β : hp_T) (H1 : Heap) (locs1 : List Loc) (τ : ms_T), τ = ms_sJ σ x → hp_B Γ mo s α0 β H1 locs1 → hm_M β a ρ τ → W p l e R s m args below meth c H1 locs1 cells slots Q (F0 m pc' ls rest)) : W p l e R s m args below meth c H locs cells slots Q (F0 m pc ls (.long x :: .ref a :: rest)) := by
  exact q_putl (κ := 13) (k := 27) (φ := 677) C B hM.1 hF rfl rfl rfl rfl rfl rfl (mo_sJ B.2.2) hdg hpc (fun β H1 L1 eb B1 => kk β H1 L1 _ rfl B1 (by rw [eb]; exact hm_sJ hM))
theorem m_ial (C : hp_C Γ p m c cc nL s args own) (B : hp_B Γ Iv s α0 α H locs) (hM : hm_M α a ρ σ) (hm : (κ, φ) ∈ ms_mf) (hc : 20 ≤ κ ∧ κ < 60) (hn : hp_ar κ = (0, n)) (hin : 0 ≤ i.toInt ∧ i.toInt < (n : Int)) (hdg : decode cc pc = .ok (.iaload, 1)) (hpc : pc + 1 = pc')
    (kk : W p l e R s m args below meth c H locs cells slots Q (F0 m pc' ls (.int (ms_E σ κ i.toNatClampNeg) :: rest))) : W p l e R s m args below meth c H locs cells slots Q (F0 m pc ls (.int i :: .ref (ρ κ) :: rest)) :=
  q_ial (κ := κ) C B (hM.2.1 _ hm).2 hc hn (vi_of hin.1 hin.2) hdg hpc (by rw [hM.2.2.2.1 _ _ (ms_mf40 _ hm) (ms_mf60 _ hm)]; exact kk)
theorem m_bal (C : hp_C Γ p m c cc nL s args own) (B : hp_B Γ Iv s α0 α H locs) (hM : hm_M α a ρ σ) (hm : (κ, φ) ∈ ms_mf) (hc : 20 ≤ κ ∧ κ < 60) (hn : hp_ar κ = (1, n)) (hin : 0 ≤ i.toInt ∧ i.toInt < (n : Int)) (hdg : decode cc pc = .ok (.baload, 1)) (hpc : pc + 1 = pc')
    (kk : W p l e R s m args below meth c H locs cells slots Q (F0 m pc' ls (.int (ms_E σ κ i.toNatClampNeg) :: rest))) : W p l e R s m args below meth c H locs cells slots Q (F0 m pc ls (.int i :: .ref (ρ κ) :: rest)) :=
  q_bal (κ := κ) C B (hM.2.1 _ hm).2 hc hn (vi_of hin.1 hin.2) hdg hpc (by rw [hM.2.2.2.1 _ _ (ms_mf40 _ hm) (ms_mf60 _ hm)]; exact kk)
theorem m_lal (C : hp_C Γ p m c cc nL s args own) (B : hp_B Γ Iv s α0 α H locs) (hM : hm_M α a ρ σ) (hin : 0 ≤ i.toInt ∧ i.toInt < ((12 : Nat) : Int)) (hdg : decode cc pc = .ok (.laload, 1)) (hpc : pc + 1 = pc')
    (kk : W p l e R s m args below meth c H locs cells slots Q (F0 m pc' ls (.long (ms_w i.toNatClampNeg) :: rest))) : W p l e R s m args below meth c H locs cells slots Q (F0 m pc ls (.int i :: .ref (ρ 48) :: rest)) :=
  q_lal (κ := 48) (n := 12) C B (hM.2.1 (48, 678) (by decide)).2 (by decide) rfl (vi_of hin.1 hin.2) hdg hpc (by
    have h1 := ic_clamp hin.1
    rw [hM.2.2.2.2.2 _ (by omega)]; exact kk)
theorem m_ias (C : hp_C Γ p m c cc nL s args own) (B : hp_B Γ mo s α0 α H locs) (hM : hm_M α a ρ σ) (hm : (κ, φ) ∈ ms_mf) (hc : 40 ≤ κ ∧ κ < 60) (hn : hp_ar κ = (0, n)) (hin : 0 ≤ i.toInt ∧ i.toInt < (n : Int)) (hdg : decode cc pc = .ok (.iastore, 1)) (hpc : pc + 1 = pc')
    (kk : ∀ (β : hp_T) (H1 : Heap) (locs1 : List Loc) (τ : ms_T), τ = ms_sE σ κ i.toNatClampNeg x → hp_B Γ mo s α0 β H1 locs1 → hm_M β a ρ τ → W p l e R s m args below meth c H1 locs1 cells slots Q (F0 m pc' ls rest)) : W p l e R s m args below meth c H locs cells slots Q (F0 m pc ls (.int x :: .int i :: .ref (ρ κ) :: rest)) :=
  q_ias (κ := κ) C B (hM.2.1 _ hm).2 ⟨by omega, hc.2⟩ hn (vi_of hin.1 hin.2) rfl (mo_sE B.2.2 hc.1) hdg hpc (fun β H1 L1 eb B1 => kk β H1 L1 _ rfl B1 (by rw [eb]; exact hm_sE hM))
theorem m_bas (C : hp_C Γ p m c cc nL s args own) (B : hp_B Γ mo s α0 α H locs) (hM : hm_M α a ρ σ) (hm : (κ, φ) ∈ ms_mf) (hc : 40 ≤ κ ∧ κ < 60) (hn : hp_ar κ = (1, n)) (hin : 0 ≤ i.toInt ∧ i.toInt < (n : Int)) (hdg : decode cc pc = .ok (.bastore, 1)) (hpc : pc + 1 = pc')
    (kk : ∀ (β : hp_T) (H1 : Heap) (locs1 : List Loc) (τ : ms_T), τ = ms_sE σ κ i.toNatClampNeg x.toInt8.toInt32 → hp_B Γ mo s α0 β H1 locs1 → hm_M β a ρ τ → W p l e R s m args below meth c H1 locs1 cells slots Q (F0 m pc' ls rest)) : W p l e R s m args below meth c H locs cells slots Q (F0 m pc ls (.int x :: .int i :: .ref (ρ κ) :: rest)) :=
  q_bas (κ := κ) (y := x.toInt8.toInt32) C B (hM.2.1 _ hm).2 ⟨by omega, hc.2⟩ hn (vi_of hin.1 hin.2) rfl rfl (mo_sE B.2.2 hc.1) hdg hpc (fun β H1 L1 eb B1 => kk β H1 L1 _ rfl B1 (by rw [eb]; exact hm_sE hM))
variable {st : List Value} {mc ms : Nat} {aa : Array Value}
/-- calls: of what changes the state, of what does not -/
theorem m_ci {r : Int32} {τ : ms_T} (B : hp_B Γ mo s α0 α H locs) (hr : va_Run p l e R s m args below meth c H locs cells slots mc ms (F0 m pc ls st) rest (hp_Qi Γ (fun r' β => r' = r ∧ mo α β ∧ hm_M β a ρ τ) aa) (hp_A Γ)) (hpc : pc + 3 = pc')
    (kk : ∀ (β : hp_T) (H1 : Heap) (locs1 : List Loc), hp_B Γ mo s α0 β H1 locs1 → hm_M β a ρ τ → W p l e R s m args below meth c H1 locs1 (cells + mc) (slots + ms) Q (F0 m pc' ls (.int r :: rest))) : W p l e R s m args below meth c H locs cells slots Q (F0 m pc ls st) :=
  q_ci B hr (fun _ _ h => mo_tr B.2.2 h.2.1) hpc (fun r' β H1 L1 h B1 => by rw [h.1]; exact kk β H1 L1 B1 h.2.2)
theorem m_cv {τ : ms_T} (B : hp_B Γ mo s α0 α H locs) (hr : va_Run p l e R s m args below meth c H locs cells slots mc ms (F0 m pc ls st) rest (hp_Qv Γ (fun β => mo α β ∧ hm_M β a ρ τ) aa) (hp_A Γ)) (hpc : pc + 3 = pc')
    (kk : ∀ (β : hp_T) (H1 : Heap) (locs1 : List Loc), hp_B Γ mo s α0 β H1 locs1 → hm_M β a ρ τ → W p l e R s m args below meth c H1 locs1 (cells + mc) (slots + ms) Q (F0 m pc' ls rest)) : W p l e R s m args below meth c H locs cells slots Q (F0 m pc ls st) :=
  q_cv B hr (fun _ h => mo_tr B.2.2 h.1) hpc (fun β H1 L1 h B1 => kk β H1 L1 B1 h.2)
theorem m_cp {r : Int32} (B : hp_B Γ Iv s α0 α H locs) (hr : va_Run p l e R s m args below meth c H locs cells slots mc ms (F0 m pc ls st) rest (hp_Qi Γ (fun r' β => β = α ∧ r' = r) aa) (hp_A Γ)) (hpc : pc + 3 = pc')
    (kk : ∀ (H1 : Heap) (locs1 : List Loc), hp_B Γ Iv s α0 α H1 locs1 → W p l e R s m args below meth c H1 locs1 (cells + mc) (slots + ms) Q (F0 m pc' ls (.int r :: rest))) : W p l e R s m args below meth c H locs cells slots Q (F0 m pc ls st) :=
  q_ci B hr (fun _ β h => by rw [h.1]; exact B.2.2) hpc (fun r' β H1 L1 h B1 => by rw [h.2]; rw [h.1] at B1; exact kk H1 L1 B1)
end HPM
end JN4_1
section JN4_2
def f_X12_status (n : Nat) (σ : ms_T) : Option (Int32 × ms_T) :=
  ms_l (ms_sI σ 653 (0 : Int32)) fun σh1 =>
  some ((ms_I σh1 652), σh1)
set_option maxRecDepth 100000 in
set_option maxHeartbeats 4000000 in
theorem m_X12_status (n : Nat) (Γ : hp_G) (l : Launch) (α : hp_T) (a0 : Nat) (ρ : Nat → Nat) (σ : ms_T) (hM : hm_M α a0 ρ σ)  (res : (Int32 × ms_T)) (hf : f_X12_status n σ = some res) : Met l yX12_status (hp_ws yX12_status cX12_status 1 (some .int)) (hp_rm 0 0 0) (hp_Pc Γ α [.ref a0]) (hp_Qi Γ (fun r β => r = res.1 ∧ mo α β ∧ hm_M β a0 ρ res.2)) 0 0 (hp_A Γ) := by
  unfold f_X12_status at hf
  refine hp_start (by decide) ?_
  intro p e s m below meth c C hr hlk B0 hnm
  have C : hp_C Γ p m c cX12_status 1 s ([.ref a0] : List Value).toArray RX12 := C
  have hx := C.1.1
  have hb := C.1.2.1
  have hown := C.1.2.2.2.1
  have hts := C.1.2.2.2.2
  have B : hp_B Γ mo s α α s.heap [] := ⟨B0.1, B0.2.1, mo_rf⟩
  have hl := lv_entry ([.ref a0]) (n := 1) (Nat.le_of_ble_eq_true rfl)
  show W p l e (hp_rm 0 0 0) s m ([.ref a0] : List Value).toArray below meth c s.heap [] 0 0 (MQ below (hp_Qi Γ (fun r β => r = res.1 ∧ mo α β ∧ hm_M β a0 ρ res.2)) ([.ref a0] : List Value).toArray s 0 0 (hp_A Γ)) (entryFrame m ([.ref a0] : List Value).toArray 1)
  rw [lg_entry_eq]
  generalize (lg_sl ([.ref a0]) ++ List.replicate (1 - (lg_sl ([.ref a0])).length) Slot.unset).toArray = ls at hl ⊢
  have hl : lv_has ls 1 [(0, .ref a0)] := hl
  refine lv_aload_n hx hb dX12_status_0 rfl (lv_at hl 0 rfl) (hp_n (n := 1) rfl ?_)
  refine lv_iconst (v := 0) hx hb dX12_status_1 (by decide) (hp_n (n := 2) rfl ?_)
  refine m_puti (k := 3) (φ := 653) (pc' := 5) C B hM fl_X12_106 rfl rfl rfl rfl rfl dX12_status_2 rfl (fun αh1 Hh1 Lh1 σh1 eh1 Bh1 Mh1 => ?_)
  replace hf := ms_lE eh1 hf
  refine lv_aload_n hx hb dX12_status_5 rfl (lv_at hl 0 rfl) (hp_n (n := 6) rfl ?_)
  refine m_geti (k := 2) (φ := 652) (pc' := 9) C Bh1 Mh1 fl_X12_109 rfl rfl dX12_status_6 rfl ?_
  cases hf
  exact q_iret C Bh1 hr hlk ⟨rfl, Bh1.2.2, Mh1⟩ dX12_status_9
def f_X12_refuse (n : Nat) (σ : ms_T) (a1 : Int32) : Option (Int32 × ms_T) :=
  ms_l (ms_sI σ 652 a1) fun σh1 =>
  some ((-1 : Int32), σh1)
set_option maxRecDepth 100000 in
set_option maxHeartbeats 4000000 in
theorem m_X12_refuse (n : Nat) (Γ : hp_G) (l : Launch) (α : hp_T) (a0 : Nat) (ρ : Nat → Nat) (σ : ms_T) (hM : hm_M α a0 ρ σ) (a1 : Int32) (res : (Int32 × ms_T)) (hf : f_X12_refuse n σ a1 = some res) : Met l yX12_refuse (hp_ws yX12_refuse cX12_refuse 2 (some .int)) (hp_rm 0 0 0) (hp_Pc Γ α [.ref a0, .int a1]) (hp_Qi Γ (fun r β => r = res.1 ∧ mo α β ∧ hm_M β a0 ρ res.2)) 0 0 (hp_A Γ) := by
  unfold f_X12_refuse at hf
  refine hp_start (by decide) ?_
  intro p e s m below meth c C hr hlk B0 hnm
  have C : hp_C Γ p m c cX12_refuse 2 s ([.ref a0, .int a1] : List Value).toArray RX12 := C
  have hx := C.1.1
  have hb := C.1.2.1
  have hown := C.1.2.2.2.1
  have hts := C.1.2.2.2.2
  have B : hp_B Γ mo s α α s.heap [] := ⟨B0.1, B0.2.1, mo_rf⟩
  have hl := lv_entry ([.ref a0, .int a1]) (n := 2) (Nat.le_of_ble_eq_true rfl)
  show W p l e (hp_rm 0 0 0) s m ([.ref a0, .int a1] : List Value).toArray below meth c s.heap [] 0 0 (MQ below (hp_Qi Γ (fun r β => r = res.1 ∧ mo α β ∧ hm_M β a0 ρ res.2)) ([.ref a0, .int a1] : List Value).toArray s 0 0 (hp_A Γ)) (entryFrame m ([.ref a0, .int a1] : List Value).toArray 2)
  rw [lg_entry_eq]
  generalize (lg_sl ([.ref a0, .int a1]) ++ List.replicate (2 - (lg_sl ([.ref a0, .int a1])).length) Slot.unset).toArray = ls at hl ⊢
  have hl : lv_has ls 2 [(0, .ref a0), (1, .int a1)] := hl
  refine lv_aload_n hx hb dX12_refuse_0 rfl (lv_at hl 0 rfl) (hp_n (n := 1) rfl ?_)
  refine lv_iload_n hx hb dX12_refuse_1 rfl (lv_at hl 1 rfl) (hp_n (n := 2) rfl ?_)
  refine m_puti (k := 2) (φ := 652) (pc' := 5) C B hM fl_X12_109 rfl rfl rfl rfl rfl dX12_refuse_2 rfl (fun αh1 Hh1 Lh1 σh1 eh1 Bh1 Mh1 => ?_)
  replace hf := ms_lE eh1 hf
  refine lv_iconst (v := (-1)) hx hb dX12_refuse_5 (by decide) (hp_n (n := 6) rfl ?_)
  cases hf
  exact q_iret C Bh1 hr hlk ⟨rfl, Bh1.2.2, Mh1⟩ dX12_refuse_6
def f_X12_is (n : Nat) (σ : ms_T) (a1 : Int32) : Option (Int32 × ms_T) :=
  ms_l (ms_sI σ 653 (0 : Int32)) fun σh1 =>
  ms_l (ms_sI σh1 652 a1) fun σh2 =>
  if a1 = 0 then
    some ((1 : Int32), σh2)
  else
    some ((0 : Int32), σh2)
set_option maxRecDepth 100000 in
set_option maxHeartbeats 4000000 in
theorem m_X12_is (n : Nat) (Γ : hp_G) (l : Launch) (α : hp_T) (a0 : Nat) (ρ : Nat → Nat) (σ : ms_T) (hM : hm_M α a0 ρ σ) (a1 : Int32) (res : (Int32 × ms_T)) (hf : f_X12_is n σ a1 = some res) : Met l yX12_is (hp_ws yX12_is cX12_is 2 (some .boolean)) (hp_rm 0 0 0) (hp_Pc Γ α [.ref a0, .int a1]) (hp_Qi Γ (fun r β => r = res.1 ∧ mo α β ∧ hm_M β a0 ρ res.2)) 0 0 (hp_A Γ) := by
  unfold f_X12_is at hf
  refine hp_start (by decide) ?_
  intro p e s m below meth c C hr hlk B0 hnm
  have C : hp_C Γ p m c cX12_is 2 s ([.ref a0, .int a1] : List Value).toArray RX12 := C
  have hx := C.1.1
  have hb := C.1.2.1
  have hown := C.1.2.2.2.1
  have hts := C.1.2.2.2.2
  have B : hp_B Γ mo s α α s.heap [] := ⟨B0.1, B0.2.1, mo_rf⟩
  have hl := lv_entry ([.ref a0, .int a1]) (n := 2) (Nat.le_of_ble_eq_true rfl)
  show W p l e (hp_rm 0 0 0) s m ([.ref a0, .int a1] : List Value).toArray below meth c s.heap [] 0 0 (MQ below (hp_Qi Γ (fun r β => r = res.1 ∧ mo α β ∧ hm_M β a0 ρ res.2)) ([.ref a0, .int a1] : List Value).toArray s 0 0 (hp_A Γ)) (entryFrame m ([.ref a0, .int a1] : List Value).toArray 2)
  rw [lg_entry_eq]
  generalize (lg_sl ([.ref a0, .int a1]) ++ List.replicate (2 - (lg_sl ([.ref a0, .int a1])).length) Slot.unset).toArray = ls at hl ⊢
  have hl : lv_has ls 2 [(0, .ref a0), (1, .int a1)] := hl
  refine lv_aload_n hx hb dX12_is_0 rfl (lv_at hl 0 rfl) (hp_n (n := 1) rfl ?_)
  refine lv_iconst (v := 0) hx hb dX12_is_1 (by decide) (hp_n (n := 2) rfl ?_)
  refine m_puti (k := 3) (φ := 653) (pc' := 5) C B hM fl_X12_106 rfl rfl rfl rfl rfl dX12_is_2 rfl (fun αh1 Hh1 Lh1 σh1 eh1 Bh1 Mh1 => ?_)
  replace hf := ms_lE eh1 hf
  refine lv_aload_n hx hb dX12_is_5 rfl (lv_at hl 0 rfl) (hp_n (n := 6) rfl ?_)
  refine lv_iload_n hx hb dX12_is_6 rfl (lv_at hl 1 rfl) (hp_n (n := 7) rfl ?_)
  refine m_puti (k := 2) (φ := 652) (pc' := 10) C Bh1 Mh1 fl_X12_109 rfl rfl rfl rfl rfl dX12_is_7 rfl (fun αh2 Hh2 Lh2 σh2 eh2 Bh2 Mh2 => ?_)
  replace hf := ms_lE eh2 hf
  refine lv_iload_n hx hb dX12_is_10 rfl (lv_at hl 1 rfl) (hp_n (n := 11) rfl ?_)
  refine lv_if_ne (tgt := 18) hx hb dX12_is_11 (by decide) (fun c3 => ?_) (fun c3 => hp_n (n := 14) rfl ?_)
  ·
    replace hf := ms_iF c3 hf
    refine lv_iconst (v := 0) hx hb dX12_is_18 (by decide) (hp_n (n := 19) rfl ?_)
    cases hf
    exact q_zret C Bh2 hr hlk (by decide) ⟨rfl, Bh2.2.2, Mh2⟩ dX12_is_19
  ·
    replace hf := ms_iT c3 hf
    refine lv_iconst (v := 1) hx hb dX12_is_14 (by decide) (hp_n (n := 15) rfl ?_)
    refine lv_goto (tgt := 19) hx hb dX12_is_15 (by decide) ?_
    cases hf
    exact q_zret C Bh2 hr hlk (by decide) ⟨rfl, Bh2.2.2, Mh2⟩ dX12_is_19
def f_X12_isIn (n : Nat) (a0 : Int32) (a1 : Int32) (a2 : Int32) : Option Int32 :=
  if a0 < a1 then
    some (0 : Int32)
  else
    if a2 < a0 then
      some (0 : Int32)
    else
      some (1 : Int32)
set_option maxRecDepth 100000 in
set_option maxHeartbeats 4000000 in
theorem m_X12_isIn (n : Nat) (Γ : hp_G) (l : Launch) (α : hp_T) (a0 : Int32) (a1 : Int32) (a2 : Int32) (res : Int32) (hf : f_X12_isIn n a0 a1 a2 = some res) : Met l yX12_isIn (hp_ws yX12_isIn cX12_isIn 3 (some .boolean)) (hp_rm 0 0 0) (hp_Pc Γ α [.int a0, .int a1, .int a2]) (hp_Qi Γ (fun r β => β = α ∧ r = res)) 0 0 (hp_A Γ) := by
  unfold f_X12_isIn at hf
  refine hp_start (by decide) ?_
  intro p e s m below meth c C hr hlk B0 hnm
  have C : hp_C Γ p m c cX12_isIn 3 s ([.int a0, .int a1, .int a2] : List Value).toArray RX12 := C
  have hx := C.1.1
  have hb := C.1.2.1
  have hown := C.1.2.2.2.1
  have hts := C.1.2.2.2.2
  have B : hp_B Γ (fun _ _ => True) s α α s.heap [] := ⟨B0.1, B0.2.1, trivial⟩
  have hl := lv_entry ([.int a0, .int a1, .int a2]) (n := 3) (Nat.le_of_ble_eq_true rfl)
  show W p l e (hp_rm 0 0 0) s m ([.int a0, .int a1, .int a2] : List Value).toArray below meth c s.heap [] 0 0 (MQ below (hp_Qi Γ (fun r β => β = α ∧ r = res)) ([.int a0, .int a1, .int a2] : List Value).toArray s 0 0 (hp_A Γ)) (entryFrame m ([.int a0, .int a1, .int a2] : List Value).toArray 3)
  rw [lg_entry_eq]
  generalize (lg_sl ([.int a0, .int a1, .int a2]) ++ List.replicate (3 - (lg_sl ([.int a0, .int a1, .int a2])).length) Slot.unset).toArray = ls at hl ⊢
  have hl : lv_has ls 3 [(0, .int a0), (1, .int a1), (2, .int a2)] := hl
  refine lv_iload_n hx hb dX12_isIn_0 rfl (lv_at hl 0 rfl) (hp_n (n := 1) rfl ?_)
  refine lv_iload_n hx hb dX12_isIn_1 rfl (lv_at hl 1 rfl) (hp_n (n := 2) rfl ?_)
  refine lv_icmp_lt (tgt := 14) hx hb dX12_isIn_2 (by decide) (fun c1 => ?_) (fun c1 => hp_n (n := 5) rfl ?_)
  ·
    replace hf := ms_iT c1 hf
    refine lv_iconst (v := 0) hx hb dX12_isIn_14 (by decide) (hp_n (n := 15) rfl ?_)
    cases hf
    exact q_zret C B hr hlk (by decide) ⟨rfl, rfl⟩ dX12_isIn_15
  ·
    replace hf := ms_iF c1 hf
    refine lv_iload_n hx hb dX12_isIn_5 rfl (lv_at hl 0 rfl) (hp_n (n := 6) rfl ?_)
    refine lv_iload_n hx hb dX12_isIn_6 rfl (lv_at hl 2 rfl) (hp_n (n := 7) rfl ?_)
    refine lv_icmp_gt (tgt := 14) hx hb dX12_isIn_7 (by decide) (fun c2 => ?_) (fun c2 => hp_n (n := 10) rfl ?_)
    ·
      replace hf := ms_iT c2 hf
      refine lv_iconst (v := 0) hx hb dX12_isIn_14 (by decide) (hp_n (n := 15) rfl ?_)
      cases hf
      exact q_zret C B hr hlk (by decide) ⟨rfl, rfl⟩ dX12_isIn_15
    ·
      replace hf := ms_iF c2 hf
      refine lv_iconst (v := 1) hx hb dX12_isIn_10 (by decide) (hp_n (n := 11) rfl ?_)
      refine lv_goto (tgt := 15) hx hb dX12_isIn_11 (by decide) ?_
      cases hf
      exact q_zret C B hr hlk (by decide) ⟨rfl, rfl⟩ dX12_isIn_15
def f_X12_clears_L2 (n : Nat) : Nat → ms_T → Int32 → Option ms_T
  | 0, _, _ => none
  | k2 + 1, σh1, v1_h1 =>
    if (1980 : Int32) ≤ v1_h1 then
      ms_g (0 : Int32) 1980 <|
      ms_l (ms_sE σh1 40 ((0 : Int32)).toNatClampNeg (1 : Int32)) fun σh4 =>
      ms_g (1 : Int32) 1980 <|
      ms_l (ms_sE σh4 40 ((1 : Int32)).toNatClampNeg (65521 : Int32)) fun σh6 =>
      some σh6
    else
      ms_g v1_h1 1980 <|
      ms_l (ms_sE σh1 40 (v1_h1).toNatClampNeg (0 : Int32)) fun σh8 =>
      ms_l (v1_h1 + 1) fun x9 =>
      (f_X12_clears_L2 n k2) σh8 x9
def f_X12_clears (n : Nat) (σ : ms_T) : Option ms_T :=
  f_X12_clears_L2 n n σ (0 : Int32)
set_option maxRecDepth 100000 in
set_option maxHeartbeats 4000000 in
theorem m_X12_clears (n : Nat) (Γ : hp_G) (l : Launch) (α : hp_T) (a0 : Nat) (ρ : Nat → Nat) (σ : ms_T) (hM : hm_M α a0 ρ σ)  (res : ms_T) (hf : f_X12_clears n σ = some res) : Met l yX12_clears (hp_ws yX12_clears cX12_clears 2 none) (hp_rm 0 0 0) (hp_Pc Γ α [.ref a0]) (hp_Qv Γ (fun β => mo α β ∧ hm_M β a0 ρ res)) 0 0 (hp_A Γ) := by
  unfold f_X12_clears at hf
  refine hp_start (by decide) ?_
  intro p e s m below meth c C hr hlk B0 hnm
  have C : hp_C Γ p m c cX12_clears 2 s ([.ref a0] : List Value).toArray RX12 := C
  have hx := C.1.1
  have hb := C.1.2.1
  have hown := C.1.2.2.2.1
  have hts := C.1.2.2.2.2
  have B : hp_B Γ mo s α α s.heap [] := ⟨B0.1, B0.2.1, mo_rf⟩
  have hl := lv_entry ([.ref a0]) (n := 2) (Nat.le_of_ble_eq_true rfl)
  show W p l e (hp_rm 0 0 0) s m ([.ref a0] : List Value).toArray below meth c s.heap [] 0 0 (MQ below (hp_Qv Γ (fun β => mo α β ∧ hm_M β a0 ρ res)) ([.ref a0] : List Value).toArray s 0 0 (hp_A Γ)) (entryFrame m ([.ref a0] : List Value).toArray 2)
  rw [lg_entry_eq]
  generalize (lg_sl ([.ref a0]) ++ List.replicate (2 - (lg_sl ([.ref a0])).length) Slot.unset).toArray = ls at hl ⊢
  have hl : lv_has ls 2 [(0, .ref a0)] := hl
  refine lv_iconst (v := 0) hx hb dX12_clears_0 (by decide) (hp_n (n := 1) rfl ?_)
  have J2 : ∀ (k2 : Nat) (αh1 : hp_T) (Hh1 : Heap) (Lh1 : List Loc) (Bh1 : hp_B Γ mo s α αh1 Hh1 Lh1) (σh1 : ms_T) (Mh1 : hm_M αh1 a0 ρ σh1) (v1_h1 : Int32) (ls : Array Slot) (hl : lv_has ls 2 [(0, .ref a0), (1, .int v1_h1)]) (hf : f_X12_clears_L2 n k2 σh1 v1_h1 = some res), W p l e (hp_rm 0 0 0) s m ([.ref a0] : List Value).toArray below meth c Hh1 Lh1 0 0 (MQ below (hp_Qv Γ (fun β => mo α β ∧ hm_M β a0 ρ res)) ([.ref a0] : List Value).toArray s 0 0 (hp_A Γ)) (F0 m 2 ls []) := by
    intro k2
    induction k2 with
    | zero => intro αh1 Hh1 Lh1 Bh1 σh1 Mh1 v1_h1 ls hl hf; rw [f_X12_clears_L2.eq_1] at hf; cases hf
    | succ k2 ih2 =>
      intro αh1 Hh1 Lh1 Bh1 σh1 Mh1 v1_h1 ls hl hf
      rw [f_X12_clears_L2.eq_2] at hf
      refine lv_iload_n hx hb dX12_clears_2 rfl (lv_at hl 1 rfl) (hp_n (n := 3) rfl ?_)
      refine lv_sipush (v := 1980) hx hb dX12_clears_3 (by decide) (hp_n (n := 6) rfl ?_)
      refine lv_icmp_ge (tgt := 22) hx hb dX12_clears_6 (by decide) (fun c2 => ?_) (fun c2 => hp_n (n := 9) rfl ?_)
      ·
        replace hf := ms_iT c2 hf
        refine lv_aload_n hx hb dX12_clears_22 rfl (lv_at hl 0 rfl) (hp_n (n := 23) rfl ?_)
        refine m_getr (κ := 40) (k := 0) (pc' := 26) C Bh1 Mh1 fl_X12_7 rfl (by decide) dX12_clears_23 rfl ?_
        refine lv_iconst (v := 0) hx hb dX12_clears_26 (by decide) (hp_n (n := 27) rfl ?_)
        refine lv_iconst (v := 1) hx hb dX12_clears_27 (by decide) (hp_n (n := 28) rfl ?_)
        obtain ⟨g3, hf⟩ := ms_gE hf
        refine m_ias (κ := 40) (φ := 650) (n := 1980) (pc' := 29) C Bh1 Mh1 (by decide) (by decide) rfl g3 dX12_clears_28 rfl (fun αh4 Hh4 Lh4 σh4 eh4 Bh4 Mh4 => ?_)
        replace hf := ms_lE eh4 hf
        refine lv_aload_n hx hb dX12_clears_29 rfl (lv_at hl 0 rfl) (hp_n (n := 30) rfl ?_)
        refine m_getr (κ := 40) (k := 0) (pc' := 33) C Bh4 Mh4 fl_X12_7 rfl (by decide) dX12_clears_30 rfl ?_
        refine lv_iconst (v := 1) hx hb dX12_clears_33 (by decide) (hp_n (n := 34) rfl ?_)
        refine lv_ldc hx hb hown (hts _ kc_X12_112) dX12_clears_34 (hp_n (n := 36) rfl ?_)
        obtain ⟨g5, hf⟩ := ms_gE hf
        refine m_ias (κ := 40) (φ := 650) (n := 1980) (pc' := 37) C Bh4 Mh4 (by decide) (by decide) rfl g5 dX12_clears_36 rfl (fun αh6 Hh6 Lh6 σh6 eh6 Bh6 Mh6 => ?_)
        replace hf := ms_lE eh6 hf
        cases hf
        exact q_vret C Bh6 hr hlk ⟨Bh6.2.2, Mh6⟩ dX12_clears_37
      ·
        replace hf := ms_iF c2 hf
        refine lv_aload_n hx hb dX12_clears_9 rfl (lv_at hl 0 rfl) (hp_n (n := 10) rfl ?_)
        refine m_getr (κ := 40) (k := 0) (pc' := 13) C Bh1 Mh1 fl_X12_7 rfl (by decide) dX12_clears_10 rfl ?_
        refine lv_iload_n hx hb dX12_clears_13 rfl (lv_at hl 1 rfl) (hp_n (n := 14) rfl ?_)
        refine lv_iconst (v := 0) hx hb dX12_clears_14 (by decide) (hp_n (n := 15) rfl ?_)
        obtain ⟨g7, hf⟩ := ms_gE hf
        refine m_ias (κ := 40) (φ := 650) (n := 1980) (pc' := 16) C Bh1 Mh1 (by decide) (by decide) rfl g7 dX12_clears_15 rfl (fun αh8 Hh8 Lh8 σh8 eh8 Bh8 Mh8 => ?_)
        replace hf := ms_lE eh8 hf
        obtain ⟨x9, ex9⟩ : ∃ y : Int32, y = v1_h1 + 1 := ⟨_, rfl⟩
        replace hf := ms_lE ex9 hf
        refine lv_iinc (v := x9) (lv' := [(1, .int x9), (0, .ref a0)]) hx hb dX12_clears_16 hl (k := 1) rfl (by rw [ex9]; rfl) (by decide) rfl (fun ls hl => hp_n (n := 19) rfl ?_)
        refine lv_goto (tgt := 2) hx hb dX12_clears_19 (by decide) ?_
        exact ih2 αh8 Hh8 Lh8 Bh8 σh8 Mh8 x9 ls (lv_sub hl [1, 0] rfl) hf
  refine lv_istore_n (lv' := [(1, .int (0 : Int32)), (0, .ref a0)]) hx hb dX12_clears_1 rfl hl (by decide) rfl (fun ls hl => hp_n (n := 2) rfl ?_)
  exact J2 n α s.heap [] B σ hM (0 : Int32) ls (lv_sub hl [1, 0] rfl) hf
def f_X12_isRecord (n : Nat) (σ : ms_T) (a1 : Int32) : Option Int32 :=
  ms_g (0 : Int32) 1980 <|
  ms_b (f_X12_isIn n a1 (0 : Int32) ((ms_E σ 40 ((0 : Int32)).toNatClampNeg) - (1 : Int32))) fun rh2 =>
  ms_z rh2 <|
  some rh2
set_option maxRecDepth 100000 in
set_option maxHeartbeats 4000000 in
theorem m_X12_isRecord (n : Nat) (Γ : hp_G) (l : Launch) (α : hp_T) (a0 : Nat) (ρ : Nat → Nat) (σ : ms_T) (hM : hm_M α a0 ρ σ) (a1 : Int32) (res : Int32) (hf : f_X12_isRecord n σ a1 = some res) : Met l yX12_isRecord (hp_ws yX12_isRecord cX12_isRecord 2 (some .boolean)) (hp_rm 1 0 0) (hp_Pc Γ α [.ref a0, .int a1]) (hp_Qi Γ (fun r β => β = α ∧ r = res)) 0 0 (hp_A Γ) := by
  unfold f_X12_isRecord at hf
  refine hp_start (by decide) ?_
  intro p e s m below meth c C hr hlk B0 hnm
  have C : hp_C Γ p m c cX12_isRecord 2 s ([.ref a0, .int a1] : List Value).toArray RX12 := C
  have hx := C.1.1
  have hb := C.1.2.1
  have hown := C.1.2.2.2.1
  have hts := C.1.2.2.2.2
  have B : hp_B Γ (fun _ _ => True) s α α s.heap [] := ⟨B0.1, B0.2.1, trivial⟩
  have hl := lv_entry ([.ref a0, .int a1]) (n := 2) (Nat.le_of_ble_eq_true rfl)
  show W p l e (hp_rm 1 0 0) s m ([.ref a0, .int a1] : List Value).toArray below meth c s.heap [] 0 0 (MQ below (hp_Qi Γ (fun r β => β = α ∧ r = res)) ([.ref a0, .int a1] : List Value).toArray s 0 0 (hp_A Γ)) (entryFrame m ([.ref a0, .int a1] : List Value).toArray 2)
  rw [lg_entry_eq]
  generalize (lg_sl ([.ref a0, .int a1]) ++ List.replicate (2 - (lg_sl ([.ref a0, .int a1])).length) Slot.unset).toArray = ls at hl ⊢
  have hl : lv_has ls 2 [(0, .ref a0), (1, .int a1)] := hl
  refine lv_iload_n hx hb dX12_isRecord_0 rfl (lv_at hl 1 rfl) (hp_n (n := 1) rfl ?_)
  refine lv_iconst (v := 0) hx hb dX12_isRecord_1 (by decide) (hp_n (n := 2) rfl ?_)
  refine lv_aload_n hx hb dX12_isRecord_2 rfl (lv_at hl 0 rfl) (hp_n (n := 3) rfl ?_)
  refine m_getr (κ := 40) (k := 0) (pc' := 6) C B hM fl_X12_7 rfl (by decide) dX12_isRecord_3 rfl ?_
  refine lv_iconst (v := 0) hx hb dX12_isRecord_6 (by decide) (hp_n (n := 7) rfl ?_)
  obtain ⟨g1, hf⟩ := ms_gE hf
  refine m_ial (κ := 40) (φ := 650) (n := 1980) (pc' := 8) C B hM (by decide) (by decide) rfl g1 dX12_isRecord_7 rfl ?_
  refine lv_iconst (v := 1) hx hb dX12_isRecord_8 (by decide) (hp_n (n := 9) rfl ?_)
  refine lv_isub hx hb dX12_isRecord_9 (hp_n (n := 10) rfl ?_)
  obtain ⟨rh2, qh2, hf⟩ := ms_bE hf
  refine m_cp (pc' := 13) B (hp_runS (As := [.int a1, .int (0 : Int32), .int ((ms_E σ 40 ((0 : Int32)).toNatClampNeg) - (1 : Int32))]) (rest := []) C B (m_X12_isIn n Γ l α a1 (0 : Int32) ((ms_E σ 40 ((0 : Int32)).toNatClampNeg) - (1 : Int32)) rh2 qh2) lb_X12_isIn ls_X12_isIn lk_X12_113 rfl (by decide) rfl hl.1 rfl (Nat.le_of_ble_eq_true rfl) dX12_isRecord_10 ⟨Nat.le_refl _, Nat.le_refl _⟩) rfl (fun Hh2 Lh2 Bh2 => ?_)
  obtain ⟨g3, hf⟩ := ms_zE hf
  cases hf
  exact q_zret C Bh2 hr hlk (nz_z g3) ⟨rfl, rfl⟩ dX12_isRecord_13
def f_X12_sizeOf (n : Nat) (σ : ms_T) (a1 : Int32) : Option Int32 :=
  ms_g ((72 : Int32) + a1) 1980 <|
  some (ms_E σ 40 (((72 : Int32) + a1)).toNatClampNeg)
set_option maxRecDepth 100000 in
set_option maxHeartbeats 4000000 in
theorem m_X12_sizeOf (n : Nat) (Γ : hp_G) (l : Launch) (α : hp_T) (a0 : Nat) (ρ : Nat → Nat) (σ : ms_T) (hM : hm_M α a0 ρ σ) (a1 : Int32) (res : Int32) (hf : f_X12_sizeOf n σ a1 = some res) : Met l yX12_sizeOf (hp_ws yX12_sizeOf cX12_sizeOf 2 (some .int)) (hp_rm 0 0 0) (hp_Pc Γ α [.ref a0, .int a1]) (hp_Qi Γ (fun r β => β = α ∧ r = res)) 0 0 (hp_A Γ) := by
  unfold f_X12_sizeOf at hf
  refine hp_start (by decide) ?_
  intro p e s m below meth c C hr hlk B0 hnm
  have C : hp_C Γ p m c cX12_sizeOf 2 s ([.ref a0, .int a1] : List Value).toArray RX12 := C
  have hx := C.1.1
  have hb := C.1.2.1
  have hown := C.1.2.2.2.1
  have hts := C.1.2.2.2.2
  have B : hp_B Γ (fun _ _ => True) s α α s.heap [] := ⟨B0.1, B0.2.1, trivial⟩
  have hl := lv_entry ([.ref a0, .int a1]) (n := 2) (Nat.le_of_ble_eq_true rfl)
  show W p l e (hp_rm 0 0 0) s m ([.ref a0, .int a1] : List Value).toArray below meth c s.heap [] 0 0 (MQ below (hp_Qi Γ (fun r β => β = α ∧ r = res)) ([.ref a0, .int a1] : List Value).toArray s 0 0 (hp_A Γ)) (entryFrame m ([.ref a0, .int a1] : List Value).toArray 2)
  rw [lg_entry_eq]
  generalize (lg_sl ([.ref a0, .int a1]) ++ List.replicate (2 - (lg_sl ([.ref a0, .int a1])).length) Slot.unset).toArray = ls at hl ⊢
  have hl : lv_has ls 2 [(0, .ref a0), (1, .int a1)] := hl
  refine lv_aload_n hx hb dX12_sizeOf_0 rfl (lv_at hl 0 rfl) (hp_n (n := 1) rfl ?_)
  refine m_getr (κ := 40) (k := 0) (pc' := 4) C B hM fl_X12_7 rfl (by decide) dX12_sizeOf_1 rfl ?_
  refine lv_bipush (v := 72) hx hb dX12_sizeOf_4 (by decide) (hp_n (n := 6) rfl ?_)
  refine lv_iload_n hx hb dX12_sizeOf_6 rfl (lv_at hl 1 rfl) (hp_n (n := 7) rfl ?_)
  refine lv_iadd hx hb dX12_sizeOf_7 (hp_n (n := 8) rfl ?_)
  obtain ⟨g1, hf⟩ := ms_gE hf
  refine m_ial (κ := 40) (φ := 650) (n := 1980) (pc' := 9) C B hM (by decide) (by decide) rfl g1 dX12_sizeOf_8 rfl ?_
  cases hf
  exact q_iret C B hr hlk ⟨rfl, rfl⟩ dX12_sizeOf_9
def f_X12_isMark (n : Nat) (σ : ms_T) (a1 : Int32) : Option Int32 :=
  ms_g (1 : Int32) 1980 <|
  ms_b (f_X12_isIn n a1 (0 : Int32) ((ms_E σ 40 ((1 : Int32)).toNatClampNeg) - (1 : Int32))) fun rh2 =>
  ms_z rh2 <|
  some rh2
set_option maxRecDepth 100000 in
set_option maxHeartbeats 4000000 in
theorem m_X12_isMark (n : Nat) (Γ : hp_G) (l : Launch) (α : hp_T) (a0 : Nat) (ρ : Nat → Nat) (σ : ms_T) (hM : hm_M α a0 ρ σ) (a1 : Int32) (res : Int32) (hf : f_X12_isMark n σ a1 = some res) : Met l yX12_isMark (hp_ws yX12_isMark cX12_isMark 2 (some .boolean)) (hp_rm 1 0 0) (hp_Pc Γ α [.ref a0, .int a1]) (hp_Qi Γ (fun r β => β = α ∧ r = res)) 0 0 (hp_A Γ) := by
  unfold f_X12_isMark at hf
  refine hp_start (by decide) ?_
  intro p e s m below meth c C hr hlk B0 hnm
  have C : hp_C Γ p m c cX12_isMark 2 s ([.ref a0, .int a1] : List Value).toArray RX12 := C
  have hx := C.1.1
  have hb := C.1.2.1
  have hown := C.1.2.2.2.1
  have hts := C.1.2.2.2.2
  have B : hp_B Γ (fun _ _ => True) s α α s.heap [] := ⟨B0.1, B0.2.1, trivial⟩
  have hl := lv_entry ([.ref a0, .int a1]) (n := 2) (Nat.le_of_ble_eq_true rfl)
  show W p l e (hp_rm 1 0 0) s m ([.ref a0, .int a1] : List Value).toArray below meth c s.heap [] 0 0 (MQ below (hp_Qi Γ (fun r β => β = α ∧ r = res)) ([.ref a0, .int a1] : List Value).toArray s 0 0 (hp_A Γ)) (entryFrame m ([.ref a0, .int a1] : List Value).toArray 2)
  rw [lg_entry_eq]
  generalize (lg_sl ([.ref a0, .int a1]) ++ List.replicate (2 - (lg_sl ([.ref a0, .int a1])).length) Slot.unset).toArray = ls at hl ⊢
  have hl : lv_has ls 2 [(0, .ref a0), (1, .int a1)] := hl
  refine lv_iload_n hx hb dX12_isMark_0 rfl (lv_at hl 1 rfl) (hp_n (n := 1) rfl ?_)
  refine lv_iconst (v := 0) hx hb dX12_isMark_1 (by decide) (hp_n (n := 2) rfl ?_)
  refine lv_aload_n hx hb dX12_isMark_2 rfl (lv_at hl 0 rfl) (hp_n (n := 3) rfl ?_)
  refine m_getr (κ := 40) (k := 0) (pc' := 6) C B hM fl_X12_7 rfl (by decide) dX12_isMark_3 rfl ?_
  refine lv_iconst (v := 1) hx hb dX12_isMark_6 (by decide) (hp_n (n := 7) rfl ?_)
  obtain ⟨g1, hf⟩ := ms_gE hf
  refine m_ial (κ := 40) (φ := 650) (n := 1980) (pc' := 8) C B hM (by decide) (by decide) rfl g1 dX12_isMark_7 rfl ?_
  refine lv_iconst (v := 1) hx hb dX12_isMark_8 (by decide) (hp_n (n := 9) rfl ?_)
  refine lv_isub hx hb dX12_isMark_9 (hp_n (n := 10) rfl ?_)
  obtain ⟨rh2, qh2, hf⟩ := ms_bE hf
  refine m_cp (pc' := 13) B (hp_runS (As := [.int a1, .int (0 : Int32), .int ((ms_E σ 40 ((1 : Int32)).toNatClampNeg) - (1 : Int32))]) (rest := []) C B (m_X12_isIn n Γ l α a1 (0 : Int32) ((ms_E σ 40 ((1 : Int32)).toNatClampNeg) - (1 : Int32)) rh2 qh2) lb_X12_isIn ls_X12_isIn lk_X12_113 rfl (by decide) rfl hl.1 rfl (Nat.le_of_ble_eq_true rfl) dX12_isMark_10 ⟨Nat.le_refl _, Nat.le_refl _⟩) rfl (fun Hh2 Lh2 Bh2 => ?_)
  obtain ⟨g3, hf⟩ := ms_zE hf
  cases hf
  exact q_zret C Bh2 hr hlk (nz_z g3) ⟨rfl, rfl⟩ dX12_isMark_13
def f_X12_mixed (n : Nat) (σ : ms_T) (a1 : Int32) (a2 : Int32) : Option Int32 :=
  ms_g (1 : Int32) 1980 <|
  ms_nl ((ms_E σ 40 ((1 : Int32)).toNatClampNeg)).toInt64 <|
  some (((((((a1).toInt64 * (a1).toInt64) + ((3 : Int64) * (a1).toInt64)) + (a2).toInt64) + (7 : Int64)) - (((((a1).toInt64 * (a1).toInt64) + ((3 : Int64) * (a1).toInt64)) + (a2).toInt64) + (7 : Int64)) / ((ms_E σ 40 ((1 : Int32)).toNatClampNeg)).toInt64 * ((ms_E σ 40 ((1 : Int32)).toNatClampNeg)).toInt64)).toInt32
set_option maxRecDepth 100000 in
set_option maxHeartbeats 4000000 in
theorem m_X12_mixed (n : Nat) (Γ : hp_G) (l : Launch) (α : hp_T) (a0 : Nat) (ρ : Nat → Nat) (σ : ms_T) (hM : hm_M α a0 ρ σ) (a1 : Int32) (a2 : Int32) (res : Int32) (hf : f_X12_mixed n σ a1 a2 = some res) : Met l yX12_mixed (hp_ws yX12_mixed cX12_mixed 3 (some .int)) (hp_rm 0 0 0) (hp_Pc Γ α [.ref a0, .int a1, .int a2]) (hp_Qi Γ (fun r β => β = α ∧ r = res)) 0 0 (hp_A Γ) := by
  unfold f_X12_mixed at hf
  refine hp_start (by decide) ?_
  intro p e s m below meth c C hr hlk B0 hnm
  have C : hp_C Γ p m c cX12_mixed 3 s ([.ref a0, .int a1, .int a2] : List Value).toArray RX12 := C
  have hx := C.1.1
  have hb := C.1.2.1
  have hown := C.1.2.2.2.1
  have hts := C.1.2.2.2.2
  have B : hp_B Γ (fun _ _ => True) s α α s.heap [] := ⟨B0.1, B0.2.1, trivial⟩
  have hl := lv_entry ([.ref a0, .int a1, .int a2]) (n := 3) (Nat.le_of_ble_eq_true rfl)
  show W p l e (hp_rm 0 0 0) s m ([.ref a0, .int a1, .int a2] : List Value).toArray below meth c s.heap [] 0 0 (MQ below (hp_Qi Γ (fun r β => β = α ∧ r = res)) ([.ref a0, .int a1, .int a2] : List Value).toArray s 0 0 (hp_A Γ)) (entryFrame m ([.ref a0, .int a1, .int a2] : List Value).toArray 3)
  rw [lg_entry_eq]
  generalize (lg_sl ([.ref a0, .int a1, .int a2]) ++ List.replicate (3 - (lg_sl ([.ref a0, .int a1, .int a2])).length) Slot.unset).toArray = ls at hl ⊢
  have hl : lv_has ls 3 [(0, .ref a0), (1, .int a1), (2, .int a2)] := hl
  refine lv_iload_n hx hb dX12_mixed_0 rfl (lv_at hl 1 rfl) (hp_n (n := 1) rfl ?_)
  refine lv_i2l hx hb dX12_mixed_1 rfl (hp_n (n := 2) rfl ?_)
  refine lv_iload_n hx hb dX12_mixed_2 rfl (lv_at hl 1 rfl) (hp_n (n := 3) rfl ?_)
  refine lv_i2l hx hb dX12_mixed_3 rfl (hp_n (n := 4) rfl ?_)
  refine lv_lmul hx hb dX12_mixed_4 (hp_n (n := 5) rfl ?_)
  refine lv_ldc2 hx hb hown (hts _ kc_X12_117) dX12_mixed_5 (hp_n (n := 8) rfl ?_)
  refine lv_iload_n hx hb dX12_mixed_8 rfl (lv_at hl 1 rfl) (hp_n (n := 9) rfl ?_)
  refine lv_i2l hx hb dX12_mixed_9 rfl (hp_n (n := 10) rfl ?_)
  refine lv_lmul hx hb dX12_mixed_10 (hp_n (n := 11) rfl ?_)
  refine lv_ladd hx hb dX12_mixed_11 (hp_n (n := 12) rfl ?_)
  refine lv_iload_n hx hb dX12_mixed_12 rfl (lv_at hl 2 rfl) (hp_n (n := 13) rfl ?_)
  refine lv_i2l hx hb dX12_mixed_13 rfl (hp_n (n := 14) rfl ?_)
  refine lv_ladd hx hb dX12_mixed_14 (hp_n (n := 15) rfl ?_)
  refine lv_ldc2 hx hb hown (hts _ kc_X12_119) dX12_mixed_15 (hp_n (n := 18) rfl ?_)
  refine lv_ladd hx hb dX12_mixed_18 (hp_n (n := 19) rfl ?_)
  refine lv_aload_n hx hb dX12_mixed_19 rfl (lv_at hl 0 rfl) (hp_n (n := 20) rfl ?_)
  refine m_getr (κ := 40) (k := 0) (pc' := 23) C B hM fl_X12_7 rfl (by decide) dX12_mixed_20 rfl ?_
  refine lv_iconst (v := 1) hx hb dX12_mixed_23 (by decide) (hp_n (n := 24) rfl ?_)
  obtain ⟨g1, hf⟩ := ms_gE hf
  refine m_ial (κ := 40) (φ := 650) (n := 1980) (pc' := 25) C B hM (by decide) (by decide) rfl g1 dX12_mixed_24 rfl ?_
  refine lv_i2l hx hb dX12_mixed_25 rfl (hp_n (n := 26) rfl ?_)
  obtain ⟨g2, hf⟩ := ms_nlE hf
  refine lv_lrem hx hb dX12_mixed_26 g2 (hp_n (n := 27) rfl ?_)
  refine lv_l2i hx hb dX12_mixed_27 rfl (hp_n (n := 28) rfl ?_)
  cases hf
  exact q_iret C B hr hlk ⟨rfl, rfl⟩ dX12_mixed_28
def f_X12_both (n : Nat) (σ : ms_T) (a1 : Int32) (a2 : Int32) : Option Int32 :=
  ms_b (f_X12_mixed n σ (2 : Int32) a1) fun rh1 =>
  ms_b (f_X12_mixed n σ rh1 a2) fun rh2 =>
  some rh2
set_option maxRecDepth 100000 in
set_option maxHeartbeats 4000000 in
theorem m_X12_both (n : Nat) (Γ : hp_G) (l : Launch) (α : hp_T) (a0 : Nat) (ρ : Nat → Nat) (σ : ms_T) (hM : hm_M α a0 ρ σ) (a1 : Int32) (a2 : Int32) (res : Int32) (hf : f_X12_both n σ a1 a2 = some res) : Met l yX12_both (hp_ws yX12_both cX12_both 3 (some .int)) (hp_rm 1 0 0) (hp_Pc Γ α [.ref a0, .int a1, .int a2]) (hp_Qi Γ (fun r β => β = α ∧ r = res)) 0 0 (hp_A Γ) := by
  unfold f_X12_both at hf
  refine hp_start (by decide) ?_
  intro p e s m below meth c C hr hlk B0 hnm
  have C : hp_C Γ p m c cX12_both 3 s ([.ref a0, .int a1, .int a2] : List Value).toArray RX12 := C
  have hx := C.1.1
  have hb := C.1.2.1
  have hown := C.1.2.2.2.1
  have hts := C.1.2.2.2.2
  have B : hp_B Γ (fun _ _ => True) s α α s.heap [] := ⟨B0.1, B0.2.1, trivial⟩
  have hl := lv_entry ([.ref a0, .int a1, .int a2]) (n := 3) (Nat.le_of_ble_eq_true rfl)
  show W p l e (hp_rm 1 0 0) s m ([.ref a0, .int a1, .int a2] : List Value).toArray below meth c s.heap [] 0 0 (MQ below (hp_Qi Γ (fun r β => β = α ∧ r = res)) ([.ref a0, .int a1, .int a2] : List Value).toArray s 0 0 (hp_A Γ)) (entryFrame m ([.ref a0, .int a1, .int a2] : List Value).toArray 3)
  rw [lg_entry_eq]
  generalize (lg_sl ([.ref a0, .int a1, .int a2]) ++ List.replicate (3 - (lg_sl ([.ref a0, .int a1, .int a2])).length) Slot.unset).toArray = ls at hl ⊢
  have hl : lv_has ls 3 [(0, .ref a0), (1, .int a1), (2, .int a2)] := hl
  refine lv_aload_n hx hb dX12_both_0 rfl (lv_at hl 0 rfl) (hp_n (n := 1) rfl ?_)
  refine lv_aload_n hx hb dX12_both_1 rfl (lv_at hl 0 rfl) (hp_n (n := 2) rfl ?_)
  refine lv_iconst (v := 2) hx hb dX12_both_2 (by decide) (hp_n (n := 3) rfl ?_)
  refine lv_iload_n hx hb dX12_both_3 rfl (lv_at hl 1 rfl) (hp_n (n := 4) rfl ?_)
  obtain ⟨rh1, qh1, hf⟩ := ms_bE hf
  refine m_cp (pc' := 7) B (hp_runV (As := [.int (2 : Int32), .int a1]) (rest := [.ref a0]) C B (m_X12_mixed n Γ l α a0 ρ σ hM (2 : Int32) a1 rh1 qh1) lb_X12_mixed lv_X12_mixed lk_X12_121 hM.1 rfl (by decide) rfl hl.1 rfl (Nat.le_of_ble_eq_true rfl) dX12_both_4 ⟨Nat.le_refl _, Nat.le_refl _⟩) rfl (fun Hh1 Lh1 Bh1 => ?_)
  refine lv_iload_n hx hb dX12_both_7 rfl (lv_at hl 2 rfl) (hp_n (n := 8) rfl ?_)
  obtain ⟨rh2, qh2, hf⟩ := ms_bE hf
  refine m_cp (pc' := 11) Bh1 (hp_runV (As := [.int rh1, .int a2]) (rest := []) C Bh1 (m_X12_mixed n Γ l α a0 ρ σ hM rh1 a2 rh2 qh2) lb_X12_mixed lv_X12_mixed lk_X12_121 hM.1 rfl (by decide) rfl hl.1 rfl (Nat.le_of_ble_eq_true rfl) dX12_both_8 ⟨Nat.le_refl _, Nat.le_refl _⟩) rfl (fun Hh2 Lh2 Bh2 => ?_)
  cases hf
  exact q_iret C Bh2 hr hlk ⟨rfl, rfl⟩ dX12_both_11
def f_X12_entryMark_L13 (n : Nat) (σ : ms_T) : Nat → Int32 → Int32 → Int32 → Option Int32
  | 0, _, _, _ => none
  | k13 + 1, v3_h2, v4_h2, v5_h2 =>
    ms_g ((252 : Int32) + v4_h2) 1980 <|
    if (ms_E σ 40 (((252 : Int32) + v4_h2)).toNatClampNeg) ≤ v5_h2 then
      some v3_h2
    else
      ms_g (((444 : Int32) + ((8 : Int32) * v4_h2)) + v5_h2) 1980 <|
      ms_b (f_X12_mixed n σ v3_h2 (ms_E σ 40 ((((444 : Int32) + ((8 : Int32) * v4_h2)) + v5_h2)).toNatClampNeg)) fun rh6 =>
      ms_l (v5_h2 + 1) fun x7 =>
      (f_X12_entryMark_L13 n σ k13) rh6 v4_h2 x7
def f_X12_entryMark (n : Nat) (σ : ms_T) (a1 : Int32) (a2 : Int32) : Option Int32 :=
  ms_l ((((48 : Int32) * a1) + a2)) fun x1 =>
  f_X12_entryMark_L13 n σ n (1 : Int32) x1 (0 : Int32)
set_option maxRecDepth 100000 in
set_option maxHeartbeats 4000000 in
theorem m_X12_entryMark (n : Nat) (Γ : hp_G) (l : Launch) (α : hp_T) (a0 : Nat) (ρ : Nat → Nat) (σ : ms_T) (hM : hm_M α a0 ρ σ) (a1 : Int32) (a2 : Int32) (res : Int32) (hf : f_X12_entryMark n σ a1 a2 = some res) : Met l yX12_entryMark (hp_ws yX12_entryMark cX12_entryMark 6 (some .int)) (hp_rm 1 0 0) (hp_Pc Γ α [.ref a0, .int a1, .int a2]) (hp_Qi Γ (fun r β => β = α ∧ r = res)) 0 0 (hp_A Γ) := by
  unfold f_X12_entryMark at hf
  refine hp_start (by decide) ?_
  intro p e s m below meth c C hr hlk B0 hnm
  have C : hp_C Γ p m c cX12_entryMark 6 s ([.ref a0, .int a1, .int a2] : List Value).toArray RX12 := C
  have hx := C.1.1
  have hb := C.1.2.1
  have hown := C.1.2.2.2.1
  have hts := C.1.2.2.2.2
  have B : hp_B Γ (fun _ _ => True) s α α s.heap [] := ⟨B0.1, B0.2.1, trivial⟩
  have hl := lv_entry ([.ref a0, .int a1, .int a2]) (n := 6) (Nat.le_of_ble_eq_true rfl)
  show W p l e (hp_rm 1 0 0) s m ([.ref a0, .int a1, .int a2] : List Value).toArray below meth c s.heap [] 0 0 (MQ below (hp_Qi Γ (fun r β => β = α ∧ r = res)) ([.ref a0, .int a1, .int a2] : List Value).toArray s 0 0 (hp_A Γ)) (entryFrame m ([.ref a0, .int a1, .int a2] : List Value).toArray 6)
  rw [lg_entry_eq]
  generalize (lg_sl ([.ref a0, .int a1, .int a2]) ++ List.replicate (6 - (lg_sl ([.ref a0, .int a1, .int a2])).length) Slot.unset).toArray = ls at hl ⊢
  have hl : lv_has ls 6 [(0, .ref a0), (1, .int a1), (2, .int a2)] := hl
  refine lv_iconst (v := 1) hx hb dX12_entryMark_0 (by decide) (hp_n (n := 1) rfl ?_)
  refine lv_istore_n (lv' := [(3, .int (1 : Int32)), (0, .ref a0), (1, .int a1), (2, .int a2)]) hx hb dX12_entryMark_1 rfl hl (by decide) rfl (fun ls hl => hp_n (n := 2) rfl ?_)
  refine lv_bipush (v := 48) hx hb dX12_entryMark_2 (by decide) (hp_n (n := 4) rfl ?_)
  refine lv_iload_n hx hb dX12_entryMark_4 rfl (lv_at hl 2 rfl) (hp_n (n := 5) rfl ?_)
  refine lv_imul hx hb dX12_entryMark_5 (hp_n (n := 6) rfl ?_)
  refine lv_iload_n hx hb dX12_entryMark_6 rfl (lv_at hl 3 rfl) (hp_n (n := 7) rfl ?_)
  refine lv_iadd hx hb dX12_entryMark_7 (hp_n (n := 8) rfl ?_)
  refine lv_topi (fun x1 ex1 => ?_)
  replace hf := ms_lE ex1 hf
  refine lv_istore (lv' := [(4, .int x1), (3, .int (1 : Int32)), (0, .ref a0), (1, .int a1), (2, .int a2)]) hx hb dX12_entryMark_8 hl (by decide) rfl (fun ls hl => hp_n (n := 10) rfl ?_)
  refine lv_iconst (v := 0) hx hb dX12_entryMark_10 (by decide) (hp_n (n := 11) rfl ?_)
  have J13 : ∀ (k13 : Nat) (Hh2 : Heap) (Lh2 : List Loc) (Bh2 : hp_B Γ (fun _ _ => True) s α α Hh2 Lh2) (v3_h2 : Int32) (v4_h2 : Int32) (v5_h2 : Int32) (ls : Array Slot) (hl : lv_has ls 6 [(0, .ref a0), (3, .int v3_h2), (4, .int v4_h2), (5, .int v5_h2)]) (hf : f_X12_entryMark_L13 n σ k13 v3_h2 v4_h2 v5_h2 = some res), W p l e (hp_rm 1 0 0) s m ([.ref a0, .int a1, .int a2] : List Value).toArray below meth c Hh2 Lh2 0 0 (MQ below (hp_Qi Γ (fun r β => β = α ∧ r = res)) ([.ref a0, .int a1, .int a2] : List Value).toArray s 0 0 (hp_A Γ)) (F0 m 13 ls []) := by
    intro k13
    induction k13 with
    | zero => intro Hh2 Lh2 Bh2 v3_h2 v4_h2 v5_h2 ls hl hf; rw [f_X12_entryMark_L13.eq_1] at hf; cases hf
    | succ k13 ih13 =>
      intro Hh2 Lh2 Bh2 v3_h2 v4_h2 v5_h2 ls hl hf
      rw [f_X12_entryMark_L13.eq_2] at hf
      refine lv_iload hx hb dX12_entryMark_13 (lv_at hl 3 rfl) (hp_n (n := 15) rfl ?_)
      refine lv_aload_n hx hb dX12_entryMark_15 rfl (lv_at hl 0 rfl) (hp_n (n := 16) rfl ?_)
      refine m_getr (κ := 40) (k := 0) (pc' := 19) C Bh2 hM fl_X12_7 rfl (by decide) dX12_entryMark_16 rfl ?_
      refine lv_sipush (v := 252) hx hb dX12_entryMark_19 (by decide) (hp_n (n := 22) rfl ?_)
      refine lv_iload hx hb dX12_entryMark_22 (lv_at hl 2 rfl) (hp_n (n := 24) rfl ?_)
      refine lv_iadd hx hb dX12_entryMark_24 (hp_n (n := 25) rfl ?_)
      obtain ⟨g3, hf⟩ := ms_gE hf
      refine m_ial (κ := 40) (φ := 650) (n := 1980) (pc' := 26) C Bh2 hM (by decide) (by decide) rfl g3 dX12_entryMark_25 rfl ?_
      refine lv_icmp_ge (tgt := 58) hx hb dX12_entryMark_26 (by decide) (fun c4 => ?_) (fun c4 => hp_n (n := 29) rfl ?_)
      ·
        replace hf := ms_iT c4 hf
        refine lv_iload_n hx hb dX12_entryMark_58 rfl (lv_at hl 1 rfl) (hp_n (n := 59) rfl ?_)
        cases hf
        exact q_iret C Bh2 hr hlk ⟨rfl, rfl⟩ dX12_entryMark_59
      ·
        replace hf := ms_iF c4 hf
        refine lv_aload_n hx hb dX12_entryMark_29 rfl (lv_at hl 0 rfl) (hp_n (n := 30) rfl ?_)
        refine lv_iload_n hx hb dX12_entryMark_30 rfl (lv_at hl 1 rfl) (hp_n (n := 31) rfl ?_)
        refine lv_aload_n hx hb dX12_entryMark_31 rfl (lv_at hl 0 rfl) (hp_n (n := 32) rfl ?_)
        refine m_getr (κ := 40) (k := 0) (pc' := 35) C Bh2 hM fl_X12_7 rfl (by decide) dX12_entryMark_32 rfl ?_
        refine lv_sipush (v := 444) hx hb dX12_entryMark_35 (by decide) (hp_n (n := 38) rfl ?_)
        refine lv_bipush (v := 8) hx hb dX12_entryMark_38 (by decide) (hp_n (n := 40) rfl ?_)
        refine lv_iload hx hb dX12_entryMark_40 (lv_at hl 2 rfl) (hp_n (n := 42) rfl ?_)
        refine lv_imul hx hb dX12_entryMark_42 (hp_n (n := 43) rfl ?_)
        refine lv_iadd hx hb dX12_entryMark_43 (hp_n (n := 44) rfl ?_)
        refine lv_iload hx hb dX12_entryMark_44 (lv_at hl 3 rfl) (hp_n (n := 46) rfl ?_)
        refine lv_iadd hx hb dX12_entryMark_46 (hp_n (n := 47) rfl ?_)
        obtain ⟨g5, hf⟩ := ms_gE hf
        refine m_ial (κ := 40) (φ := 650) (n := 1980) (pc' := 48) C Bh2 hM (by decide) (by decide) rfl g5 dX12_entryMark_47 rfl ?_
        obtain ⟨rh6, qh6, hf⟩ := ms_bE hf
        refine m_cp (pc' := 51) Bh2 (hp_runV (As := [.int v3_h2, .int (ms_E σ 40 ((((444 : Int32) + ((8 : Int32) * v4_h2)) + v5_h2)).toNatClampNeg)]) (rest := []) C Bh2 (m_X12_mixed n Γ l α a0 ρ σ hM v3_h2 (ms_E σ 40 ((((444 : Int32) + ((8 : Int32) * v4_h2)) + v5_h2)).toNatClampNeg) rh6 qh6) lb_X12_mixed lv_X12_mixed lk_X12_121 hM.1 rfl (by decide) rfl hl.1 rfl (Nat.le_of_ble_eq_true rfl) dX12_entryMark_48 ⟨Nat.le_refl _, Nat.le_refl _⟩) rfl (fun Hh6 Lh6 Bh6 => ?_)
        refine lv_istore_n (lv' := [(3, .int rh6), (0, .ref a0), (4, .int v4_h2), (5, .int v5_h2)]) hx hb dX12_entryMark_51 rfl hl (by decide) rfl (fun ls hl => hp_n (n := 52) rfl ?_)
        obtain ⟨x7, ex7⟩ : ∃ y : Int32, y = v5_h2 + 1 := ⟨_, rfl⟩
        replace hf := ms_lE ex7 hf
        refine lv_iinc (v := x7) (lv' := [(5, .int x7), (3, .int rh6), (0, .ref a0), (4, .int v4_h2)]) hx hb dX12_entryMark_52 hl (k := 3) rfl (by rw [ex7]; rfl) (by decide) rfl (fun ls hl => hp_n (n := 55) rfl ?_)
        refine lv_goto (tgt := 13) hx hb dX12_entryMark_55 (by decide) ?_
        exact ih13 Hh6 Lh6 Bh6 rh6 v4_h2 x7 ls (lv_sub hl [2, 1, 3, 0] rfl) hf
  refine lv_istore (lv' := [(5, .int (0 : Int32)), (4, .int x1), (3, .int (1 : Int32)), (0, .ref a0), (1, .int a1), (2, .int a2)]) hx hb dX12_entryMark_11 hl (by decide) rfl (fun ls hl => hp_n (n := 13) rfl ?_)
  exact J13 n s.heap [] B (1 : Int32) x1 (0 : Int32) ls (lv_sub hl [3, 2, 1, 0] rfl) hf
def f_X12_part0_L2 (n : Nat) : Nat → Int32 → Int32 → Option Int32
  | 0, _, _ => none
  | k2 + 1, v0_h1, v1_h1 =>
    if (v0_h1 - v1_h1) ≤ v1_h1 then
      some v1_h1
    else
      ms_l ((v1_h1 + v1_h1)) fun x3 =>
      (f_X12_part0_L2 n k2) v0_h1 x3
def f_X12_part0 (n : Nat) (a0 : Int32) : Option Int32 :=
  f_X12_part0_L2 n n a0 (1 : Int32)
set_option maxRecDepth 100000 in
set_option maxHeartbeats 4000000 in
theorem m_X12_part0 (n : Nat) (Γ : hp_G) (l : Launch) (α : hp_T) (a0 : Int32) (res : Int32) (hf : f_X12_part0 n a0 = some res) : Met l yX12_part0 (hp_ws yX12_part0 cX12_part0 2 (some .int)) (hp_rm 0 0 0) (hp_Pc Γ α [.int a0]) (hp_Qi Γ (fun r β => β = α ∧ r = res)) 0 0 (hp_A Γ) := by
  unfold f_X12_part0 at hf
  refine hp_start (by decide) ?_
  intro p e s m below meth c C hr hlk B0 hnm
  have C : hp_C Γ p m c cX12_part0 2 s ([.int a0] : List Value).toArray RX12 := C
  have hx := C.1.1
  have hb := C.1.2.1
  have hown := C.1.2.2.2.1
  have hts := C.1.2.2.2.2
  have B : hp_B Γ (fun _ _ => True) s α α s.heap [] := ⟨B0.1, B0.2.1, trivial⟩
  have hl := lv_entry ([.int a0]) (n := 2) (Nat.le_of_ble_eq_true rfl)
  show W p l e (hp_rm 0 0 0) s m ([.int a0] : List Value).toArray below meth c s.heap [] 0 0 (MQ below (hp_Qi Γ (fun r β => β = α ∧ r = res)) ([.int a0] : List Value).toArray s 0 0 (hp_A Γ)) (entryFrame m ([.int a0] : List Value).toArray 2)
  rw [lg_entry_eq]
  generalize (lg_sl ([.int a0]) ++ List.replicate (2 - (lg_sl ([.int a0])).length) Slot.unset).toArray = ls at hl ⊢
  have hl : lv_has ls 2 [(0, .int a0)] := hl
  refine lv_iconst (v := 1) hx hb dX12_part0_0 (by decide) (hp_n (n := 1) rfl ?_)
  have J2 : ∀ (k2 : Nat) (Hh1 : Heap) (Lh1 : List Loc) (Bh1 : hp_B Γ (fun _ _ => True) s α α Hh1 Lh1) (v0_h1 : Int32) (v1_h1 : Int32) (ls : Array Slot) (hl : lv_has ls 2 [(0, .int v0_h1), (1, .int v1_h1)]) (hf : f_X12_part0_L2 n k2 v0_h1 v1_h1 = some res), W p l e (hp_rm 0 0 0) s m ([.int a0] : List Value).toArray below meth c Hh1 Lh1 0 0 (MQ below (hp_Qi Γ (fun r β => β = α ∧ r = res)) ([.int a0] : List Value).toArray s 0 0 (hp_A Γ)) (F0 m 2 ls []) := by
    intro k2
    induction k2 with
    | zero => intro Hh1 Lh1 Bh1 v0_h1 v1_h1 ls hl hf; rw [f_X12_part0_L2.eq_1] at hf; cases hf
    | succ k2 ih2 =>
      intro Hh1 Lh1 Bh1 v0_h1 v1_h1 ls hl hf
      rw [f_X12_part0_L2.eq_2] at hf
      refine lv_iload_n hx hb dX12_part0_2 rfl (lv_at hl 1 rfl) (hp_n (n := 3) rfl ?_)
      refine lv_iload_n hx hb dX12_part0_3 rfl (lv_at hl 0 rfl) (hp_n (n := 4) rfl ?_)
      refine lv_iload_n hx hb dX12_part0_4 rfl (lv_at hl 1 rfl) (hp_n (n := 5) rfl ?_)
      refine lv_isub hx hb dX12_part0_5 (hp_n (n := 6) rfl ?_)
      refine lv_icmp_ge (tgt := 16) hx hb dX12_part0_6 (by decide) (fun c2 => ?_) (fun c2 => hp_n (n := 9) rfl ?_)
      ·
        replace hf := ms_iT c2 hf
        refine lv_iload_n hx hb dX12_part0_16 rfl (lv_at hl 1 rfl) (hp_n (n := 17) rfl ?_)
        cases hf
        exact q_iret C Bh1 hr hlk ⟨rfl, rfl⟩ dX12_part0_17
      ·
        replace hf := ms_iF c2 hf
        refine lv_iload_n hx hb dX12_part0_9 rfl (lv_at hl 1 rfl) (hp_n (n := 10) rfl ?_)
        refine lv_iload_n hx hb dX12_part0_10 rfl (lv_at hl 1 rfl) (hp_n (n := 11) rfl ?_)
        refine lv_iadd hx hb dX12_part0_11 (hp_n (n := 12) rfl ?_)
        refine lv_topi (fun x3 ex3 => ?_)
        replace hf := ms_lE ex3 hf
        refine lv_istore_n (lv' := [(1, .int x3), (0, .int v0_h1)]) hx hb dX12_part0_12 rfl hl (by decide) rfl (fun ls hl => hp_n (n := 13) rfl ?_)
        refine lv_goto (tgt := 2) hx hb dX12_part0_13 (by decide) ?_
        exact ih2 Hh1 Lh1 Bh1 v0_h1 x3 ls (lv_sub hl [1, 0] rfl) hf
  refine lv_istore_n (lv' := [(1, .int (1 : Int32)), (0, .int a0)]) hx hb dX12_part0_1 rfl hl (by decide) rfl (fun ls hl => hp_n (n := 2) rfl ?_)
  exact J2 n s.heap [] B a0 (1 : Int32) ls (lv_sub hl [1, 0] rfl) hf
def f_X12_treeMark (n : Nat) : Nat → ms_T → Int32 → Int32 → Int32 → Option Int32
  | 0, _, _, _, _ => none
  | d + 1, σ, a1, a2, a3 =>
    if a3 = 0 then
      some (0 : Int32)
    else
      if a3 = (1 : Int32) then
        ms_b (f_X12_entryMark n σ a1 a2) fun rh7 =>
        some rh7
      else
        ms_b (f_X12_part0 n a3) fun rh3 =>
        ms_b ((f_X12_treeMark n d σ) a1 a2 rh3) fun rh4 =>
        ms_b ((f_X12_treeMark n d σ) a1 (a2 + rh3) (a3 - rh3)) fun rh5 =>
        ms_b (f_X12_both n σ rh4 rh5) fun rh6 =>
        some rh6
set_option maxRecDepth 100000 in
set_option maxHeartbeats 4000000 in
theorem m_X12_treeMark (n : Nat) : ∀ (d : Nat) (Γ : hp_G) (l : Launch) (α : hp_T) (a0 : Nat) (ρ : Nat → Nat) (σ : ms_T) (hM : hm_M α a0 ρ σ) (a1 : Int32) (a2 : Int32) (a3 : Int32) (res : Int32) (hf : f_X12_treeMark n d σ a1 a2 a3 = some res), Met l yX12_treeMark (hp_ws yX12_treeMark cX12_treeMark 5 (some .int)) (hp_rm (d + 1) 0 0) (hp_Pc Γ α [.ref a0, .int a1, .int a2, .int a3]) (hp_Qi Γ (fun r β => β = α ∧ r = res)) 0 0 (hp_A Γ) := by
  intro d
  induction d with
  | zero => intro Γ l α a0 ρ σ hM a1 a2 a3 res hf; rw [f_X12_treeMark.eq_1] at hf; cases hf
  | succ d ihM =>
    intro Γ l α a0 ρ σ hM a1 a2 a3 res hf
    rw [f_X12_treeMark.eq_2] at hf
    refine hp_start (by decide) ?_
    intro p e s m below meth c C hr hlk B0 hnm
    have C : hp_C Γ p m c cX12_treeMark 5 s ([.ref a0, .int a1, .int a2, .int a3] : List Value).toArray RX12 := C
    have hx := C.1.1
    have hb := C.1.2.1
    have hown := C.1.2.2.2.1
    have hts := C.1.2.2.2.2
    have B : hp_B Γ (fun _ _ => True) s α α s.heap [] := ⟨B0.1, B0.2.1, trivial⟩
    have hl := lv_entry ([.ref a0, .int a1, .int a2, .int a3]) (n := 5) (Nat.le_of_ble_eq_true rfl)
    show W p l e (hp_rm (d + 1 + 1) 0 0) s m ([.ref a0, .int a1, .int a2, .int a3] : List Value).toArray below meth c s.heap [] 0 0 (MQ below (hp_Qi Γ (fun r β => β = α ∧ r = res)) ([.ref a0, .int a1, .int a2, .int a3] : List Value).toArray s 0 0 (hp_A Γ)) (entryFrame m ([.ref a0, .int a1, .int a2, .int a3] : List Value).toArray 5)
    rw [lg_entry_eq]
    generalize (lg_sl ([.ref a0, .int a1, .int a2, .int a3]) ++ List.replicate (5 - (lg_sl ([.ref a0, .int a1, .int a2, .int a3])).length) Slot.unset).toArray = ls at hl ⊢
    have hl : lv_has ls 5 [(0, .ref a0), (1, .int a1), (2, .int a2), (3, .int a3)] := hl
    refine lv_iload_n hx hb dX12_treeMark_0 rfl (lv_at hl 3 rfl) (hp_n (n := 1) rfl ?_)
    refine lv_if_ne (tgt := 6) hx hb dX12_treeMark_1 (by decide) (fun c1 => ?_) (fun c1 => hp_n (n := 4) rfl ?_)
    ·
      replace hf := ms_iF c1 hf
      refine lv_iload_n hx hb dX12_treeMark_6 rfl (lv_at hl 3 rfl) (hp_n (n := 7) rfl ?_)
      refine lv_iconst (v := 1) hx hb dX12_treeMark_7 (by decide) (hp_n (n := 8) rfl ?_)
      refine lv_icmp_ne (tgt := 18) hx hb dX12_treeMark_8 (by decide) (fun c2 => ?_) (fun c2 => hp_n (n := 11) rfl ?_)
      ·
        replace hf := ms_iF c2 hf
        refine lv_iload_n hx hb dX12_treeMark_18 rfl (lv_at hl 3 rfl) (hp_n (n := 19) rfl ?_)
        obtain ⟨rh3, qh3, hf⟩ := ms_bE hf
        refine m_cp (pc' := 22) B (hp_runS (As := [.int a3]) (rest := []) C B (m_X12_part0 n Γ l α a3 rh3 qh3) lb_X12_part0 ls_X12_part0 lk_X12_128 rfl (by omega) rfl hl.1 rfl (Nat.le_of_ble_eq_true rfl) dX12_treeMark_19 ⟨Nat.le_refl _, Nat.le_refl _⟩) rfl (fun Hh3 Lh3 Bh3 => ?_)
        refine lv_istore (lv' := [(4, .int rh3), (0, .ref a0), (1, .int a1), (2, .int a2), (3, .int a3)]) hx hb dX12_treeMark_22 hl (by decide) rfl (fun ls hl => hp_n (n := 24) rfl ?_)
        refine lv_aload_n hx hb dX12_treeMark_24 rfl (lv_at hl 1 rfl) (hp_n (n := 25) rfl ?_)
        refine lv_aload_n hx hb dX12_treeMark_25 rfl (lv_at hl 1 rfl) (hp_n (n := 26) rfl ?_)
        refine lv_iload_n hx hb dX12_treeMark_26 rfl (lv_at hl 2 rfl) (hp_n (n := 27) rfl ?_)
        refine lv_iload_n hx hb dX12_treeMark_27 rfl (lv_at hl 3 rfl) (hp_n (n := 28) rfl ?_)
        refine lv_iload hx hb dX12_treeMark_28 (lv_at hl 0 rfl) (hp_n (n := 30) rfl ?_)
        obtain ⟨rh4, qh4, hf⟩ := ms_bE hf
        refine m_cp (pc' := 33) Bh3 (hp_runV (As := [.int a1, .int a2, .int rh3]) (rest := [.ref a0]) C Bh3 (ihM Γ l α a0 ρ σ hM a1 a2 rh3 rh4 qh4) lb_X12_treeMark lv_X12_treeMark lk_X12_132 hM.1 rfl (by omega) rfl hl.1 rfl (Nat.le_of_ble_eq_true rfl) dX12_treeMark_30 ⟨Nat.le_refl _, Nat.le_refl _⟩) rfl (fun Hh4 Lh4 Bh4 => ?_)
        refine lv_aload_n hx hb dX12_treeMark_33 rfl (lv_at hl 1 rfl) (hp_n (n := 34) rfl ?_)
        refine lv_iload_n hx hb dX12_treeMark_34 rfl (lv_at hl 2 rfl) (hp_n (n := 35) rfl ?_)
        refine lv_iload_n hx hb dX12_treeMark_35 rfl (lv_at hl 3 rfl) (hp_n (n := 36) rfl ?_)
        refine lv_iload hx hb dX12_treeMark_36 (lv_at hl 0 rfl) (hp_n (n := 38) rfl ?_)
        refine lv_iadd hx hb dX12_treeMark_38 (hp_n (n := 39) rfl ?_)
        refine lv_iload_n hx hb dX12_treeMark_39 rfl (lv_at hl 4 rfl) (hp_n (n := 40) rfl ?_)
        refine lv_iload hx hb dX12_treeMark_40 (lv_at hl 0 rfl) (hp_n (n := 42) rfl ?_)
        refine lv_isub hx hb dX12_treeMark_42 (hp_n (n := 43) rfl ?_)
        obtain ⟨rh5, qh5, hf⟩ := ms_bE hf
        refine m_cp (pc' := 46) Bh4 (hp_runV (As := [.int a1, .int (a2 + rh3), .int (a3 - rh3)]) (rest := [.int rh4, .ref a0]) C Bh4 (ihM Γ l α a0 ρ σ hM a1 (a2 + rh3) (a3 - rh3) rh5 qh5) lb_X12_treeMark lv_X12_treeMark lk_X12_132 hM.1 rfl (by omega) rfl hl.1 rfl (Nat.le_of_ble_eq_true rfl) dX12_treeMark_43 ⟨Nat.le_refl _, Nat.le_refl _⟩) rfl (fun Hh5 Lh5 Bh5 => ?_)
        obtain ⟨rh6, qh6, hf⟩ := ms_bE hf
        refine m_cp (pc' := 49) Bh5 (hp_runV (As := [.int rh4, .int rh5]) (rest := []) C Bh5 (m_X12_both n Γ l α a0 ρ σ hM rh4 rh5 rh6 qh6) lb_X12_both lv_X12_both lk_X12_136 hM.1 rfl (by omega) rfl hl.1 rfl (Nat.le_of_ble_eq_true rfl) dX12_treeMark_46 ⟨Nat.le_refl _, Nat.le_refl _⟩) rfl (fun Hh6 Lh6 Bh6 => ?_)
        cases hf
        exact q_iret C Bh6 hr hlk ⟨rfl, rfl⟩ dX12_treeMark_49
      ·
        replace hf := ms_iT c2 hf
        refine lv_aload_n hx hb dX12_treeMark_11 rfl (lv_at hl 0 rfl) (hp_n (n := 12) rfl ?_)
        refine lv_iload_n hx hb dX12_treeMark_12 rfl (lv_at hl 1 rfl) (hp_n (n := 13) rfl ?_)
        refine lv_iload_n hx hb dX12_treeMark_13 rfl (lv_at hl 2 rfl) (hp_n (n := 14) rfl ?_)
        obtain ⟨rh7, qh7, hf⟩ := ms_bE hf
        refine m_cp (pc' := 17) B (hp_runV (As := [.int a1, .int a2]) (rest := []) C B (m_X12_entryMark n Γ l α a0 ρ σ hM a1 a2 rh7 qh7) lb_X12_entryMark lv_X12_entryMark lk_X12_125 hM.1 rfl (by omega) rfl hl.1 rfl (Nat.le_of_ble_eq_true rfl) dX12_treeMark_14 ⟨Nat.le_refl _, Nat.le_refl _⟩) rfl (fun Hh7 Lh7 Bh7 => ?_)
        cases hf
        exact q_iret C Bh7 hr hlk ⟨rfl, rfl⟩ dX12_treeMark_17
    ·
      replace hf := ms_iT c1 hf
      refine lv_iconst (v := 0) hx hb dX12_treeMark_4 (by decide) (hp_n (n := 5) rfl ?_)
      cases hf
      exact q_iret C B hr hlk ⟨rfl, rfl⟩ dX12_treeMark_5
def f_X12_headOf (n : Nat) (σ : ms_T) (a1 : Int32) (a2 : Int32) : Option Int32 :=
  ms_b (f_X12_treeMark n 40 σ a1 (0 : Int32) a2) fun rh1 =>
  some rh1
set_option maxRecDepth 100000 in
set_option maxHeartbeats 4000000 in
theorem m_X12_headOf (n : Nat) (Γ : hp_G) (l : Launch) (α : hp_T) (a0 : Nat) (ρ : Nat → Nat) (σ : ms_T) (hM : hm_M α a0 ρ σ) (a1 : Int32) (a2 : Int32) (res : Int32) (hf : f_X12_headOf n σ a1 a2 = some res) : Met l yX12_headOf (hp_ws yX12_headOf cX12_headOf 3 (some .int)) (hp_rm 42 0 0) (hp_Pc Γ α [.ref a0, .int a1, .int a2]) (hp_Qi Γ (fun r β => β = α ∧ r = res)) 0 0 (hp_A Γ) := by
  unfold f_X12_headOf at hf
  refine hp_start (by decide) ?_
  intro p e s m below meth c C hr hlk B0 hnm
  have C : hp_C Γ p m c cX12_headOf 3 s ([.ref a0, .int a1, .int a2] : List Value).toArray RX12 := C
  have hx := C.1.1
  have hb := C.1.2.1
  have hown := C.1.2.2.2.1
  have hts := C.1.2.2.2.2
  have B : hp_B Γ (fun _ _ => True) s α α s.heap [] := ⟨B0.1, B0.2.1, trivial⟩
  have hl := lv_entry ([.ref a0, .int a1, .int a2]) (n := 3) (Nat.le_of_ble_eq_true rfl)
  show W p l e (hp_rm 42 0 0) s m ([.ref a0, .int a1, .int a2] : List Value).toArray below meth c s.heap [] 0 0 (MQ below (hp_Qi Γ (fun r β => β = α ∧ r = res)) ([.ref a0, .int a1, .int a2] : List Value).toArray s 0 0 (hp_A Γ)) (entryFrame m ([.ref a0, .int a1, .int a2] : List Value).toArray 3)
  rw [lg_entry_eq]
  generalize (lg_sl ([.ref a0, .int a1, .int a2]) ++ List.replicate (3 - (lg_sl ([.ref a0, .int a1, .int a2])).length) Slot.unset).toArray = ls at hl ⊢
  have hl : lv_has ls 3 [(0, .ref a0), (1, .int a1), (2, .int a2)] := hl
  refine lv_aload_n hx hb dX12_headOf_0 rfl (lv_at hl 0 rfl) (hp_n (n := 1) rfl ?_)
  refine lv_iload_n hx hb dX12_headOf_1 rfl (lv_at hl 1 rfl) (hp_n (n := 2) rfl ?_)
  refine lv_iconst (v := 0) hx hb dX12_headOf_2 (by decide) (hp_n (n := 3) rfl ?_)
  refine lv_iload_n hx hb dX12_headOf_3 rfl (lv_at hl 2 rfl) (hp_n (n := 4) rfl ?_)
  obtain ⟨rh1, qh1, hf⟩ := ms_bE hf
  refine m_cp (pc' := 7) B (hp_runV (As := [.int a1, .int (0 : Int32), .int a2]) (rest := []) C B (m_X12_treeMark n 40 Γ l α a0 ρ σ hM a1 (0 : Int32) a2 rh1 qh1) lb_X12_treeMark lv_X12_treeMark lk_X12_132 hM.1 rfl (by decide) rfl hl.1 rfl (Nat.le_of_ble_eq_true rfl) dX12_headOf_4 ⟨Nat.le_refl _, Nat.le_refl _⟩) rfl (fun Hh1 Lh1 Bh1 => ?_)
  cases hf
  exact q_iret C Bh1 hr hlk ⟨rfl, rfl⟩ dX12_headOf_7
def f_X12_asks (n : Nat) (σ : ms_T) (a1 : Int32) (a2 : Int32) : Option ms_T :=
  ms_g (ms_I σ 657) 128 <|
  ms_l (ms_sE σ 42 ((ms_I σ 657)).toNatClampNeg a1) fun σh2 =>
  ms_g (ms_I σh2 657) 128 <|
  ms_l (ms_sE σh2 43 ((ms_I σh2 657)).toNatClampNeg a2) fun σh4 =>
  ms_l (ms_sI σh4 657 ((ms_I σh4 657) + (1 : Int32))) fun σh5 =>
  some σh5
set_option maxRecDepth 100000 in
set_option maxHeartbeats 4000000 in
theorem m_X12_asks (n : Nat) (Γ : hp_G) (l : Launch) (α : hp_T) (a0 : Nat) (ρ : Nat → Nat) (σ : ms_T) (hM : hm_M α a0 ρ σ) (a1 : Int32) (a2 : Int32) (res : ms_T) (hf : f_X12_asks n σ a1 a2 = some res) : Met l yX12_asks (hp_ws yX12_asks cX12_asks 3 none) (hp_rm 0 0 0) (hp_Pc Γ α [.ref a0, .int a1, .int a2]) (hp_Qv Γ (fun β => mo α β ∧ hm_M β a0 ρ res)) 0 0 (hp_A Γ) := by
  unfold f_X12_asks at hf
  refine hp_start (by decide) ?_
  intro p e s m below meth c C hr hlk B0 hnm
  have C : hp_C Γ p m c cX12_asks 3 s ([.ref a0, .int a1, .int a2] : List Value).toArray RX12 := C
  have hx := C.1.1
  have hb := C.1.2.1
  have hown := C.1.2.2.2.1
  have hts := C.1.2.2.2.2
  have B : hp_B Γ mo s α α s.heap [] := ⟨B0.1, B0.2.1, mo_rf⟩
  have hl := lv_entry ([.ref a0, .int a1, .int a2]) (n := 3) (Nat.le_of_ble_eq_true rfl)
  show W p l e (hp_rm 0 0 0) s m ([.ref a0, .int a1, .int a2] : List Value).toArray below meth c s.heap [] 0 0 (MQ below (hp_Qv Γ (fun β => mo α β ∧ hm_M β a0 ρ res)) ([.ref a0, .int a1, .int a2] : List Value).toArray s 0 0 (hp_A Γ)) (entryFrame m ([.ref a0, .int a1, .int a2] : List Value).toArray 3)
  rw [lg_entry_eq]
  generalize (lg_sl ([.ref a0, .int a1, .int a2]) ++ List.replicate (3 - (lg_sl ([.ref a0, .int a1, .int a2])).length) Slot.unset).toArray = ls at hl ⊢
  have hl : lv_has ls 3 [(0, .ref a0), (1, .int a1), (2, .int a2)] := hl
  refine lv_aload_n hx hb dX12_asks_0 rfl (lv_at hl 0 rfl) (hp_n (n := 1) rfl ?_)
  refine m_getr (κ := 42) (k := 4) (pc' := 4) C B hM fl_X12_16 rfl (by decide) dX12_asks_1 rfl ?_
  refine lv_aload_n hx hb dX12_asks_4 rfl (lv_at hl 0 rfl) (hp_n (n := 5) rfl ?_)
  refine m_geti (k := 7) (φ := 657) (pc' := 8) C B hM fl_X12_139 rfl rfl dX12_asks_5 rfl ?_
  refine lv_iload_n hx hb dX12_asks_8 rfl (lv_at hl 1 rfl) (hp_n (n := 9) rfl ?_)
  obtain ⟨g1, hf⟩ := ms_gE hf
  refine m_ias (κ := 42) (φ := 654) (n := 128) (pc' := 10) C B hM (by decide) (by decide) rfl g1 dX12_asks_9 rfl (fun αh2 Hh2 Lh2 σh2 eh2 Bh2 Mh2 => ?_)
  replace hf := ms_lE eh2 hf
  refine lv_aload_n hx hb dX12_asks_10 rfl (lv_at hl 0 rfl) (hp_n (n := 11) rfl ?_)
  refine m_getr (κ := 43) (k := 5) (pc' := 14) C Bh2 Mh2 fl_X12_19 rfl (by decide) dX12_asks_11 rfl ?_
  refine lv_aload_n hx hb dX12_asks_14 rfl (lv_at hl 0 rfl) (hp_n (n := 15) rfl ?_)
  refine m_geti (k := 7) (φ := 657) (pc' := 18) C Bh2 Mh2 fl_X12_139 rfl rfl dX12_asks_15 rfl ?_
  refine lv_iload_n hx hb dX12_asks_18 rfl (lv_at hl 2 rfl) (hp_n (n := 19) rfl ?_)
  obtain ⟨g3, hf⟩ := ms_gE hf
  refine m_ias (κ := 43) (φ := 655) (n := 128) (pc' := 20) C Bh2 Mh2 (by decide) (by decide) rfl g3 dX12_asks_19 rfl (fun αh4 Hh4 Lh4 σh4 eh4 Bh4 Mh4 => ?_)
  replace hf := ms_lE eh4 hf
  refine lv_aload_n hx hb dX12_asks_20 rfl (lv_at hl 0 rfl) (hp_n (n := 21) rfl ?_)
  refine lv_dup hx hb dX12_asks_21 rfl (hp_n (n := 22) rfl ?_)
  refine m_geti (k := 7) (φ := 657) (pc' := 25) C Bh4 Mh4 fl_X12_139 rfl rfl dX12_asks_22 rfl ?_
  refine lv_iconst (v := 1) hx hb dX12_asks_25 (by decide) (hp_n (n := 26) rfl ?_)
  refine lv_iadd hx hb dX12_asks_26 (hp_n (n := 27) rfl ?_)
  refine m_puti (k := 7) (φ := 657) (pc' := 30) C Bh4 Mh4 fl_X12_139 rfl rfl rfl rfl rfl dX12_asks_27 rfl (fun αh5 Hh5 Lh5 σh5 eh5 Bh5 Mh5 => ?_)
  replace hf := ms_lE eh5 hf
  cases hf
  exact q_vret C Bh5 hr hlk ⟨Bh5.2.2, Mh5⟩ dX12_asks_30
def f_X12_waysIn (n : Nat) : Nat → ms_T → Int32 → Int32 → Int32 → Option ms_T
  | 0, _, _, _, _ => none
  | d + 1, σ, a1, a2, a3 =>
    if a3 = (1 : Int32) then
      some σ
    else
      ms_b (f_X12_part0 n a3) fun rh2 =>
      if rh2 ≤ a2 then
        ms_b ((f_X12_waysIn n d) σ (a1 + rh2) (a2 - rh2) (a3 - rh2)) fun σh4 =>
        ms_b (f_X12_asks n σh4 a1 rh2) fun σh5 =>
        some σh5
      else
        ms_b ((f_X12_waysIn n d) σ a1 a2 rh2) fun σh6 =>
        ms_b (f_X12_asks n σh6 (a1 + rh2) (a3 - rh2)) fun σh7 =>
        some σh7
set_option maxRecDepth 100000 in
set_option maxHeartbeats 4000000 in
theorem m_X12_waysIn (n : Nat) : ∀ (d : Nat) (Γ : hp_G) (l : Launch) (α : hp_T) (a0 : Nat) (ρ : Nat → Nat) (σ : ms_T) (hM : hm_M α a0 ρ σ) (a1 : Int32) (a2 : Int32) (a3 : Int32) (res : ms_T) (hf : f_X12_waysIn n d σ a1 a2 a3 = some res), Met l yX12_waysIn (hp_ws yX12_waysIn cX12_waysIn 5 none) (hp_rm (d + 0) 0 0) (hp_Pc Γ α [.ref a0, .int a1, .int a2, .int a3]) (hp_Qv Γ (fun β => mo α β ∧ hm_M β a0 ρ res)) 0 0 (hp_A Γ) := by
  intro d
  induction d with
  | zero => intro Γ l α a0 ρ σ hM a1 a2 a3 res hf; rw [f_X12_waysIn.eq_1] at hf; cases hf
  | succ d ihM =>
    intro Γ l α a0 ρ σ hM a1 a2 a3 res hf
    rw [f_X12_waysIn.eq_2] at hf
    refine hp_start (by decide) ?_
    intro p e s m below meth c C hr hlk B0 hnm
    have C : hp_C Γ p m c cX12_waysIn 5 s ([.ref a0, .int a1, .int a2, .int a3] : List Value).toArray RX12 := C
    have hx := C.1.1
    have hb := C.1.2.1
    have hown := C.1.2.2.2.1
    have hts := C.1.2.2.2.2
    have B : hp_B Γ mo s α α s.heap [] := ⟨B0.1, B0.2.1, mo_rf⟩
    have hl := lv_entry ([.ref a0, .int a1, .int a2, .int a3]) (n := 5) (Nat.le_of_ble_eq_true rfl)
    show W p l e (hp_rm (d + 1 + 0) 0 0) s m ([.ref a0, .int a1, .int a2, .int a3] : List Value).toArray below meth c s.heap [] 0 0 (MQ below (hp_Qv Γ (fun β => mo α β ∧ hm_M β a0 ρ res)) ([.ref a0, .int a1, .int a2, .int a3] : List Value).toArray s 0 0 (hp_A Γ)) (entryFrame m ([.ref a0, .int a1, .int a2, .int a3] : List Value).toArray 5)
    rw [lg_entry_eq]
    generalize (lg_sl ([.ref a0, .int a1, .int a2, .int a3]) ++ List.replicate (5 - (lg_sl ([.ref a0, .int a1, .int a2, .int a3])).length) Slot.unset).toArray = ls at hl ⊢
    have hl : lv_has ls 5 [(0, .ref a0), (1, .int a1), (2, .int a2), (3, .int a3)] := hl
    refine lv_iload_n hx hb dX12_waysIn_0 rfl (lv_at hl 3 rfl) (hp_n (n := 1) rfl ?_)
    refine lv_iconst (v := 1) hx hb dX12_waysIn_1 (by decide) (hp_n (n := 2) rfl ?_)
    refine lv_icmp_ne (tgt := 6) hx hb dX12_waysIn_2 (by decide) (fun c1 => ?_) (fun c1 => hp_n (n := 5) rfl ?_)
    ·
      replace hf := ms_iF c1 hf
      refine lv_iload_n hx hb dX12_waysIn_6 rfl (lv_at hl 3 rfl) (hp_n (n := 7) rfl ?_)
      obtain ⟨rh2, qh2, hf⟩ := ms_bE hf
      refine m_cp (pc' := 10) B (hp_runS (As := [.int a3]) (rest := []) C B (m_X12_part0 n Γ l α a3 rh2 qh2) lb_X12_part0 ls_X12_part0 lk_X12_128 rfl (by omega) rfl hl.1 rfl (Nat.le_of_ble_eq_true rfl) dX12_waysIn_7 ⟨Nat.le_refl _, Nat.le_refl _⟩) rfl (fun Hh2 Lh2 Bh2 => ?_)
      refine lv_istore (lv' := [(4, .int rh2), (0, .ref a0), (1, .int a1), (2, .int a2), (3, .int a3)]) hx hb dX12_waysIn_10 hl (by decide) rfl (fun ls hl => hp_n (n := 12) rfl ?_)
      refine lv_iload_n hx hb dX12_waysIn_12 rfl (lv_at hl 3 rfl) (hp_n (n := 13) rfl ?_)
      refine lv_iload hx hb dX12_waysIn_13 (lv_at hl 0 rfl) (hp_n (n := 15) rfl ?_)
      refine lv_icmp_ge (tgt := 41) hx hb dX12_waysIn_15 (by decide) (fun c3 => ?_) (fun c3 => hp_n (n := 18) rfl ?_)
      ·
        replace hf := ms_iT c3 hf
        refine lv_aload_n hx hb dX12_waysIn_41 rfl (lv_at hl 1 rfl) (hp_n (n := 42) rfl ?_)
        refine lv_iload_n hx hb dX12_waysIn_42 rfl (lv_at hl 2 rfl) (hp_n (n := 43) rfl ?_)
        refine lv_iload hx hb dX12_waysIn_43 (lv_at hl 0 rfl) (hp_n (n := 45) rfl ?_)
        refine lv_iadd hx hb dX12_waysIn_45 (hp_n (n := 46) rfl ?_)
        refine lv_iload_n hx hb dX12_waysIn_46 rfl (lv_at hl 3 rfl) (hp_n (n := 47) rfl ?_)
        refine lv_iload hx hb dX12_waysIn_47 (lv_at hl 0 rfl) (hp_n (n := 49) rfl ?_)
        refine lv_isub hx hb dX12_waysIn_49 (hp_n (n := 50) rfl ?_)
        refine lv_iload_n hx hb dX12_waysIn_50 rfl (lv_at hl 4 rfl) (hp_n (n := 51) rfl ?_)
        refine lv_iload hx hb dX12_waysIn_51 (lv_at hl 0 rfl) (hp_n (n := 53) rfl ?_)
        refine lv_isub hx hb dX12_waysIn_53 (hp_n (n := 54) rfl ?_)
        obtain ⟨σh4, qh4, hf⟩ := ms_bE hf
        refine m_cv (pc' := 57) (a := a0) (ρ := ρ) Bh2 (hp_runV (As := [.int (a1 + rh2), .int (a2 - rh2), .int (a3 - rh2)]) (rest := []) C Bh2 (ihM Γ l α a0 ρ σ hM (a1 + rh2) (a2 - rh2) (a3 - rh2) σh4 qh4) lb_X12_waysIn lv_X12_waysIn lk_X12_142 hM.1 rfl (by omega) rfl hl.1 rfl (Nat.le_of_ble_eq_true rfl) dX12_waysIn_54 ⟨Nat.le_refl _, Nat.le_refl _⟩) rfl (fun αh4 Hh4 Lh4 Bh4 Mh4 => ?_)
        refine lv_aload_n hx hb dX12_waysIn_57 rfl (lv_at hl 1 rfl) (hp_n (n := 58) rfl ?_)
        refine lv_iload_n hx hb dX12_waysIn_58 rfl (lv_at hl 2 rfl) (hp_n (n := 59) rfl ?_)
        refine lv_iload hx hb dX12_waysIn_59 (lv_at hl 0 rfl) (hp_n (n := 61) rfl ?_)
        obtain ⟨σh5, qh5, hf⟩ := ms_bE hf
        refine m_cv (pc' := 64) (a := a0) (ρ := ρ) Bh4 (hp_runV (As := [.int a1, .int rh2]) (rest := []) C Bh4 (m_X12_asks n Γ l αh4 a0 ρ σh4 Mh4 a1 rh2 σh5 qh5) lb_X12_asks lv_X12_asks lk_X12_146 Mh4.1 rfl (by omega) rfl hl.1 rfl (Nat.le_of_ble_eq_true rfl) dX12_waysIn_61 ⟨Nat.le_refl _, Nat.le_refl _⟩) rfl (fun αh5 Hh5 Lh5 Bh5 Mh5 => ?_)
        cases hf
        exact q_vret C Bh5 hr hlk ⟨Bh5.2.2, Mh5⟩ dX12_waysIn_64
      ·
        replace hf := ms_iF c3 hf
        refine lv_aload_n hx hb dX12_waysIn_18 rfl (lv_at hl 1 rfl) (hp_n (n := 19) rfl ?_)
        refine lv_iload_n hx hb dX12_waysIn_19 rfl (lv_at hl 2 rfl) (hp_n (n := 20) rfl ?_)
        refine lv_iload_n hx hb dX12_waysIn_20 rfl (lv_at hl 3 rfl) (hp_n (n := 21) rfl ?_)
        refine lv_iload hx hb dX12_waysIn_21 (lv_at hl 0 rfl) (hp_n (n := 23) rfl ?_)
        obtain ⟨σh6, qh6, hf⟩ := ms_bE hf
        refine m_cv (pc' := 26) (a := a0) (ρ := ρ) Bh2 (hp_runV (As := [.int a1, .int a2, .int rh2]) (rest := []) C Bh2 (ihM Γ l α a0 ρ σ hM a1 a2 rh2 σh6 qh6) lb_X12_waysIn lv_X12_waysIn lk_X12_142 hM.1 rfl (by omega) rfl hl.1 rfl (Nat.le_of_ble_eq_true rfl) dX12_waysIn_23 ⟨Nat.le_refl _, Nat.le_refl _⟩) rfl (fun αh6 Hh6 Lh6 Bh6 Mh6 => ?_)
        refine lv_aload_n hx hb dX12_waysIn_26 rfl (lv_at hl 1 rfl) (hp_n (n := 27) rfl ?_)
        refine lv_iload_n hx hb dX12_waysIn_27 rfl (lv_at hl 2 rfl) (hp_n (n := 28) rfl ?_)
        refine lv_iload hx hb dX12_waysIn_28 (lv_at hl 0 rfl) (hp_n (n := 30) rfl ?_)
        refine lv_iadd hx hb dX12_waysIn_30 (hp_n (n := 31) rfl ?_)
        refine lv_iload_n hx hb dX12_waysIn_31 rfl (lv_at hl 4 rfl) (hp_n (n := 32) rfl ?_)
        refine lv_iload hx hb dX12_waysIn_32 (lv_at hl 0 rfl) (hp_n (n := 34) rfl ?_)
        refine lv_isub hx hb dX12_waysIn_34 (hp_n (n := 35) rfl ?_)
        obtain ⟨σh7, qh7, hf⟩ := ms_bE hf
        refine m_cv (pc' := 38) (a := a0) (ρ := ρ) Bh6 (hp_runV (As := [.int (a1 + rh2), .int (a3 - rh2)]) (rest := []) C Bh6 (m_X12_asks n Γ l αh6 a0 ρ σh6 Mh6 (a1 + rh2) (a3 - rh2) σh7 qh7) lb_X12_asks lv_X12_asks lk_X12_146 Mh6.1 rfl (by omega) rfl hl.1 rfl (Nat.le_of_ble_eq_true rfl) dX12_waysIn_35 ⟨Nat.le_refl _, Nat.le_refl _⟩) rfl (fun αh7 Hh7 Lh7 Bh7 Mh7 => ?_)
        refine lv_goto (tgt := 64) hx hb dX12_waysIn_38 (by decide) ?_
        cases hf
        exact q_vret C Bh7 hr hlk ⟨Bh7.2.2, Mh7⟩ dX12_waysIn_64
    ·
      replace hf := ms_iT c1 hf
      cases hf
      exact q_vret C B hr hlk ⟨B.2.2, hM⟩ dX12_waysIn_5
def f_X12_inclusion (n : Nat) (σ : ms_T) (a1 : Int32) (a2 : Int32) : Option ms_T :=
  ms_l (ms_sI σ 657 (0 : Int32)) fun σh1 =>
  ms_b (f_X12_waysIn n 40 σh1 (0 : Int32) a1 a2) fun σh2 =>
  some σh2
set_option maxRecDepth 100000 in
set_option maxHeartbeats 4000000 in
theorem m_X12_inclusion (n : Nat) (Γ : hp_G) (l : Launch) (α : hp_T) (a0 : Nat) (ρ : Nat → Nat) (σ : ms_T) (hM : hm_M α a0 ρ σ) (a1 : Int32) (a2 : Int32) (res : ms_T) (hf : f_X12_inclusion n σ a1 a2 = some res) : Met l yX12_inclusion (hp_ws yX12_inclusion cX12_inclusion 3 none) (hp_rm 41 0 0) (hp_Pc Γ α [.ref a0, .int a1, .int a2]) (hp_Qv Γ (fun β => mo α β ∧ hm_M β a0 ρ res)) 0 0 (hp_A Γ) := by
  unfold f_X12_inclusion at hf
  refine hp_start (by decide) ?_
  intro p e s m below meth c C hr hlk B0 hnm
  have C : hp_C Γ p m c cX12_inclusion 3 s ([.ref a0, .int a1, .int a2] : List Value).toArray RX12 := C
  have hx := C.1.1
  have hb := C.1.2.1
  have hown := C.1.2.2.2.1
  have hts := C.1.2.2.2.2
  have B : hp_B Γ mo s α α s.heap [] := ⟨B0.1, B0.2.1, mo_rf⟩
  have hl := lv_entry ([.ref a0, .int a1, .int a2]) (n := 3) (Nat.le_of_ble_eq_true rfl)
  show W p l e (hp_rm 41 0 0) s m ([.ref a0, .int a1, .int a2] : List Value).toArray below meth c s.heap [] 0 0 (MQ below (hp_Qv Γ (fun β => mo α β ∧ hm_M β a0 ρ res)) ([.ref a0, .int a1, .int a2] : List Value).toArray s 0 0 (hp_A Γ)) (entryFrame m ([.ref a0, .int a1, .int a2] : List Value).toArray 3)
  rw [lg_entry_eq]
  generalize (lg_sl ([.ref a0, .int a1, .int a2]) ++ List.replicate (3 - (lg_sl ([.ref a0, .int a1, .int a2])).length) Slot.unset).toArray = ls at hl ⊢
  have hl : lv_has ls 3 [(0, .ref a0), (1, .int a1), (2, .int a2)] := hl
  refine lv_aload_n hx hb dX12_inclusion_0 rfl (lv_at hl 0 rfl) (hp_n (n := 1) rfl ?_)
  refine lv_iconst (v := 0) hx hb dX12_inclusion_1 (by decide) (hp_n (n := 2) rfl ?_)
  refine m_puti (k := 7) (φ := 657) (pc' := 5) C B hM fl_X12_139 rfl rfl rfl rfl rfl dX12_inclusion_2 rfl (fun αh1 Hh1 Lh1 σh1 eh1 Bh1 Mh1 => ?_)
  replace hf := ms_lE eh1 hf
  refine lv_aload_n hx hb dX12_inclusion_5 rfl (lv_at hl 0 rfl) (hp_n (n := 6) rfl ?_)
  refine lv_iconst (v := 0) hx hb dX12_inclusion_6 (by decide) (hp_n (n := 7) rfl ?_)
  refine lv_iload_n hx hb dX12_inclusion_7 rfl (lv_at hl 1 rfl) (hp_n (n := 8) rfl ?_)
  refine lv_iload_n hx hb dX12_inclusion_8 rfl (lv_at hl 2 rfl) (hp_n (n := 9) rfl ?_)
  obtain ⟨σh2, qh2, hf⟩ := ms_bE hf
  refine m_cv (pc' := 12) (a := a0) (ρ := ρ) Bh1 (hp_runV (As := [.int (0 : Int32), .int a1, .int a2]) (rest := []) C Bh1 (m_X12_waysIn n 40 Γ l αh1 a0 ρ σh1 Mh1 (0 : Int32) a1 a2 σh2 qh2) lb_X12_waysIn lv_X12_waysIn lk_X12_142 Mh1.1 rfl (by decide) rfl hl.1 rfl (Nat.le_of_ble_eq_true rfl) dX12_inclusion_9 ⟨Nat.le_refl _, Nat.le_refl _⟩) rfl (fun αh2 Hh2 Lh2 Bh2 Mh2 => ?_)
  cases hf
  exact q_vret C Bh2 hr hlk ⟨Bh2.2.2, Mh2⟩ dX12_inclusion_12
def f_X12_growsIn (n : Nat) : Nat → ms_T → Int32 → Int32 → Int32 → Int32 → Option ms_T
  | 0, _, _, _, _, _ => none
  | d + 1, σ, a1, a2, a3, a4 =>
    if a2 = a3 then
      if a4 = 0 then
        ms_b (f_X12_asks n σ a1 a3) fun σh9 =>
        some σh9
      else
        some σ
    else
      ms_b (f_X12_part0 n a3) fun rh2 =>
      if rh2 < a2 then
        ms_b ((f_X12_growsIn n d) σ (a1 + rh2) (a2 - rh2) (a3 - rh2) (0 : Int32)) fun σh4 =>
        ms_b (f_X12_asks n σh4 a1 rh2) fun σh5 =>
        some σh5
      else
        ms_b ((f_X12_growsIn n d) σ a1 a2 rh2 a4) fun σh6 =>
        ms_b (f_X12_asks n σh6 (a1 + rh2) (a3 - rh2)) fun σh7 =>
        some σh7
set_option maxRecDepth 100000 in
set_option maxHeartbeats 4000000 in
theorem m_X12_growsIn (n : Nat) : ∀ (d : Nat) (Γ : hp_G) (l : Launch) (α : hp_T) (a0 : Nat) (ρ : Nat → Nat) (σ : ms_T) (hM : hm_M α a0 ρ σ) (a1 : Int32) (a2 : Int32) (a3 : Int32) (a4 : Int32) (res : ms_T) (hf : f_X12_growsIn n d σ a1 a2 a3 a4 = some res), Met l yX12_growsIn (hp_ws yX12_growsIn cX12_growsIn 6 none) (hp_rm (d + 0) 0 0) (hp_Pc Γ α [.ref a0, .int a1, .int a2, .int a3, .int a4]) (hp_Qv Γ (fun β => mo α β ∧ hm_M β a0 ρ res)) 0 0 (hp_A Γ) := by
  intro d
  induction d with
  | zero => intro Γ l α a0 ρ σ hM a1 a2 a3 a4 res hf; rw [f_X12_growsIn.eq_1] at hf; cases hf
  | succ d ihM =>
    intro Γ l α a0 ρ σ hM a1 a2 a3 a4 res hf
    rw [f_X12_growsIn.eq_2] at hf
    refine hp_start (by decide) ?_
    intro p e s m below meth c C hr hlk B0 hnm
    have C : hp_C Γ p m c cX12_growsIn 6 s ([.ref a0, .int a1, .int a2, .int a3, .int a4] : List Value).toArray RX12 := C
    have hx := C.1.1
    have hb := C.1.2.1
    have hown := C.1.2.2.2.1
    have hts := C.1.2.2.2.2
    have B : hp_B Γ mo s α α s.heap [] := ⟨B0.1, B0.2.1, mo_rf⟩
    have hl := lv_entry ([.ref a0, .int a1, .int a2, .int a3, .int a4]) (n := 6) (Nat.le_of_ble_eq_true rfl)
    show W p l e (hp_rm (d + 1 + 0) 0 0) s m ([.ref a0, .int a1, .int a2, .int a3, .int a4] : List Value).toArray below meth c s.heap [] 0 0 (MQ below (hp_Qv Γ (fun β => mo α β ∧ hm_M β a0 ρ res)) ([.ref a0, .int a1, .int a2, .int a3, .int a4] : List Value).toArray s 0 0 (hp_A Γ)) (entryFrame m ([.ref a0, .int a1, .int a2, .int a3, .int a4] : List Value).toArray 6)
    rw [lg_entry_eq]
    generalize (lg_sl ([.ref a0, .int a1, .int a2, .int a3, .int a4]) ++ List.replicate (6 - (lg_sl ([.ref a0, .int a1, .int a2, .int a3, .int a4])).length) Slot.unset).toArray = ls at hl ⊢
    have hl : lv_has ls 6 [(0, .ref a0), (1, .int a1), (2, .int a2), (3, .int a3), (4, .int a4)] := hl
    refine lv_iload_n hx hb dX12_growsIn_0 rfl (lv_at hl 2 rfl) (hp_n (n := 1) rfl ?_)
    refine lv_iload_n hx hb dX12_growsIn_1 rfl (lv_at hl 3 rfl) (hp_n (n := 2) rfl ?_)
    refine lv_icmp_ne (tgt := 17) hx hb dX12_growsIn_2 (by decide) (fun c1 => ?_) (fun c1 => hp_n (n := 5) rfl ?_)
    ·
      replace hf := ms_iF c1 hf
      refine lv_iload_n hx hb dX12_growsIn_17 rfl (lv_at hl 3 rfl) (hp_n (n := 18) rfl ?_)
      obtain ⟨rh2, qh2, hf⟩ := ms_bE hf
      refine m_cp (pc' := 21) B (hp_runS (As := [.int a3]) (rest := []) C B (m_X12_part0 n Γ l α a3 rh2 qh2) lb_X12_part0 ls_X12_part0 lk_X12_128 rfl (by omega) rfl hl.1 rfl (Nat.le_of_ble_eq_true rfl) dX12_growsIn_18 ⟨Nat.le_refl _, Nat.le_refl _⟩) rfl (fun Hh2 Lh2 Bh2 => ?_)
      refine lv_istore (lv' := [(5, .int rh2), (0, .ref a0), (1, .int a1), (2, .int a2), (3, .int a3), (4, .int a4)]) hx hb dX12_growsIn_21 hl (by decide) rfl (fun ls hl => hp_n (n := 23) rfl ?_)
      refine lv_iload_n hx hb dX12_growsIn_23 rfl (lv_at hl 3 rfl) (hp_n (n := 24) rfl ?_)
      refine lv_iload hx hb dX12_growsIn_24 (lv_at hl 0 rfl) (hp_n (n := 26) rfl ?_)
      refine lv_icmp_gt (tgt := 54) hx hb dX12_growsIn_26 (by decide) (fun c3 => ?_) (fun c3 => hp_n (n := 29) rfl ?_)
      ·
        replace hf := ms_iT c3 hf
        refine lv_aload_n hx hb dX12_growsIn_54 rfl (lv_at hl 1 rfl) (hp_n (n := 55) rfl ?_)
        refine lv_iload_n hx hb dX12_growsIn_55 rfl (lv_at hl 2 rfl) (hp_n (n := 56) rfl ?_)
        refine lv_iload hx hb dX12_growsIn_56 (lv_at hl 0 rfl) (hp_n (n := 58) rfl ?_)
        refine lv_iadd hx hb dX12_growsIn_58 (hp_n (n := 59) rfl ?_)
        refine lv_iload_n hx hb dX12_growsIn_59 rfl (lv_at hl 3 rfl) (hp_n (n := 60) rfl ?_)
        refine lv_iload hx hb dX12_growsIn_60 (lv_at hl 0 rfl) (hp_n (n := 62) rfl ?_)
        refine lv_isub hx hb dX12_growsIn_62 (hp_n (n := 63) rfl ?_)
        refine lv_iload_n hx hb dX12_growsIn_63 rfl (lv_at hl 4 rfl) (hp_n (n := 64) rfl ?_)
        refine lv_iload hx hb dX12_growsIn_64 (lv_at hl 0 rfl) (hp_n (n := 66) rfl ?_)
        refine lv_isub hx hb dX12_growsIn_66 (hp_n (n := 67) rfl ?_)
        refine lv_iconst (v := 0) hx hb dX12_growsIn_67 (by decide) (hp_n (n := 68) rfl ?_)
        obtain ⟨σh4, qh4, hf⟩ := ms_bE hf
        refine m_cv (pc' := 71) (a := a0) (ρ := ρ) Bh2 (hp_runV (As := [.int (a1 + rh2), .int (a2 - rh2), .int (a3 - rh2), .int (0 : Int32)]) (rest := []) C Bh2 (ihM Γ l α a0 ρ σ hM (a1 + rh2) (a2 - rh2) (a3 - rh2) (0 : Int32) σh4 qh4) lb_X12_growsIn lv_X12_growsIn lk_X12_150 hM.1 rfl (by omega) rfl hl.1 rfl (Nat.le_of_ble_eq_true rfl) dX12_growsIn_68 ⟨Nat.le_refl _, Nat.le_refl _⟩) rfl (fun αh4 Hh4 Lh4 Bh4 Mh4 => ?_)
        refine lv_aload_n hx hb dX12_growsIn_71 rfl (lv_at hl 1 rfl) (hp_n (n := 72) rfl ?_)
        refine lv_iload_n hx hb dX12_growsIn_72 rfl (lv_at hl 2 rfl) (hp_n (n := 73) rfl ?_)
        refine lv_iload hx hb dX12_growsIn_73 (lv_at hl 0 rfl) (hp_n (n := 75) rfl ?_)
        obtain ⟨σh5, qh5, hf⟩ := ms_bE hf
        refine m_cv (pc' := 78) (a := a0) (ρ := ρ) Bh4 (hp_runV (As := [.int a1, .int rh2]) (rest := []) C Bh4 (m_X12_asks n Γ l αh4 a0 ρ σh4 Mh4 a1 rh2 σh5 qh5) lb_X12_asks lv_X12_asks lk_X12_146 Mh4.1 rfl (by omega) rfl hl.1 rfl (Nat.le_of_ble_eq_true rfl) dX12_growsIn_75 ⟨Nat.le_refl _, Nat.le_refl _⟩) rfl (fun αh5 Hh5 Lh5 Bh5 Mh5 => ?_)
        cases hf
        exact q_vret C Bh5 hr hlk ⟨Bh5.2.2, Mh5⟩ dX12_growsIn_78
      ·
        replace hf := ms_iF c3 hf
        refine lv_aload_n hx hb dX12_growsIn_29 rfl (lv_at hl 1 rfl) (hp_n (n := 30) rfl ?_)
        refine lv_iload_n hx hb dX12_growsIn_30 rfl (lv_at hl 2 rfl) (hp_n (n := 31) rfl ?_)
        refine lv_iload_n hx hb dX12_growsIn_31 rfl (lv_at hl 3 rfl) (hp_n (n := 32) rfl ?_)
        refine lv_iload hx hb dX12_growsIn_32 (lv_at hl 0 rfl) (hp_n (n := 34) rfl ?_)
        refine lv_iload hx hb dX12_growsIn_34 (lv_at hl 5 rfl) (hp_n (n := 36) rfl ?_)
        obtain ⟨σh6, qh6, hf⟩ := ms_bE hf
        refine m_cv (pc' := 39) (a := a0) (ρ := ρ) Bh2 (hp_runV (As := [.int a1, .int a2, .int rh2, .int a4]) (rest := []) C Bh2 (ihM Γ l α a0 ρ σ hM a1 a2 rh2 a4 σh6 qh6) lb_X12_growsIn lv_X12_growsIn lk_X12_150 hM.1 rfl (by omega) rfl hl.1 rfl (Nat.le_of_ble_eq_true rfl) dX12_growsIn_36 ⟨Nat.le_refl _, Nat.le_refl _⟩) rfl (fun αh6 Hh6 Lh6 Bh6 Mh6 => ?_)
        refine lv_aload_n hx hb dX12_growsIn_39 rfl (lv_at hl 1 rfl) (hp_n (n := 40) rfl ?_)
        refine lv_iload_n hx hb dX12_growsIn_40 rfl (lv_at hl 2 rfl) (hp_n (n := 41) rfl ?_)
        refine lv_iload hx hb dX12_growsIn_41 (lv_at hl 0 rfl) (hp_n (n := 43) rfl ?_)
        refine lv_iadd hx hb dX12_growsIn_43 (hp_n (n := 44) rfl ?_)
        refine lv_iload_n hx hb dX12_growsIn_44 rfl (lv_at hl 4 rfl) (hp_n (n := 45) rfl ?_)
        refine lv_iload hx hb dX12_growsIn_45 (lv_at hl 0 rfl) (hp_n (n := 47) rfl ?_)
        refine lv_isub hx hb dX12_growsIn_47 (hp_n (n := 48) rfl ?_)
        obtain ⟨σh7, qh7, hf⟩ := ms_bE hf
        refine m_cv (pc' := 51) (a := a0) (ρ := ρ) Bh6 (hp_runV (As := [.int (a1 + rh2), .int (a3 - rh2)]) (rest := []) C Bh6 (m_X12_asks n Γ l αh6 a0 ρ σh6 Mh6 (a1 + rh2) (a3 - rh2) σh7 qh7) lb_X12_asks lv_X12_asks lk_X12_146 Mh6.1 rfl (by omega) rfl hl.1 rfl (Nat.le_of_ble_eq_true rfl) dX12_growsIn_48 ⟨Nat.le_refl _, Nat.le_refl _⟩) rfl (fun αh7 Hh7 Lh7 Bh7 Mh7 => ?_)
        refine lv_goto (tgt := 78) hx hb dX12_growsIn_51 (by decide) ?_
        cases hf
        exact q_vret C Bh7 hr hlk ⟨Bh7.2.2, Mh7⟩ dX12_growsIn_78
    ·
      replace hf := ms_iT c1 hf
      refine lv_iload hx hb dX12_growsIn_5 (lv_at hl 4 rfl) (hp_n (n := 7) rfl ?_)
      refine lv_if_ne (tgt := 16) hx hb dX12_growsIn_7 (by decide) (fun c8 => ?_) (fun c8 => hp_n (n := 10) rfl ?_)
      ·
        replace hf := ms_iF c8 hf
        cases hf
        exact q_vret C B hr hlk ⟨B.2.2, hM⟩ dX12_growsIn_16
      ·
        replace hf := ms_iT c8 hf
        refine lv_aload_n hx hb dX12_growsIn_10 rfl (lv_at hl 0 rfl) (hp_n (n := 11) rfl ?_)
        refine lv_iload_n hx hb dX12_growsIn_11 rfl (lv_at hl 1 rfl) (hp_n (n := 12) rfl ?_)
        refine lv_iload_n hx hb dX12_growsIn_12 rfl (lv_at hl 3 rfl) (hp_n (n := 13) rfl ?_)
        obtain ⟨σh9, qh9, hf⟩ := ms_bE hf
        refine m_cv (pc' := 16) (a := a0) (ρ := ρ) B (hp_runV (As := [.int a1, .int a3]) (rest := []) C B (m_X12_asks n Γ l α a0 ρ σ hM a1 a3 σh9 qh9) lb_X12_asks lv_X12_asks lk_X12_146 hM.1 rfl (by omega) rfl hl.1 rfl (Nat.le_of_ble_eq_true rfl) dX12_growsIn_13 ⟨Nat.le_refl _, Nat.le_refl _⟩) rfl (fun αh9 Hh9 Lh9 Bh9 Mh9 => ?_)
        cases hf
        exact q_vret C Bh9 hr hlk ⟨Bh9.2.2, Mh9⟩ dX12_growsIn_16
def f_X12_growth (n : Nat) (σ : ms_T) (a1 : Int32) (a2 : Int32) : Option ms_T :=
  ms_l (ms_sI σ 657 (0 : Int32)) fun σh1 =>
  if a1 ≤ 0 then
    some σh1
  else
    if a2 ≤ a1 then
      some σh1
    else
      ms_b (f_X12_growsIn n 40 σh1 (0 : Int32) a1 a2 (1 : Int32)) fun σh4 =>
      some σh4
set_option maxRecDepth 100000 in
set_option maxHeartbeats 4000000 in
theorem m_X12_growth (n : Nat) (Γ : hp_G) (l : Launch) (α : hp_T) (a0 : Nat) (ρ : Nat → Nat) (σ : ms_T) (hM : hm_M α a0 ρ σ) (a1 : Int32) (a2 : Int32) (res : ms_T) (hf : f_X12_growth n σ a1 a2 = some res) : Met l yX12_growth (hp_ws yX12_growth cX12_growth 3 none) (hp_rm 41 0 0) (hp_Pc Γ α [.ref a0, .int a1, .int a2]) (hp_Qv Γ (fun β => mo α β ∧ hm_M β a0 ρ res)) 0 0 (hp_A Γ) := by
  unfold f_X12_growth at hf
  refine hp_start (by decide) ?_
  intro p e s m below meth c C hr hlk B0 hnm
  have C : hp_C Γ p m c cX12_growth 3 s ([.ref a0, .int a1, .int a2] : List Value).toArray RX12 := C
  have hx := C.1.1
  have hb := C.1.2.1
  have hown := C.1.2.2.2.1
  have hts := C.1.2.2.2.2
  have B : hp_B Γ mo s α α s.heap [] := ⟨B0.1, B0.2.1, mo_rf⟩
  have hl := lv_entry ([.ref a0, .int a1, .int a2]) (n := 3) (Nat.le_of_ble_eq_true rfl)
  show W p l e (hp_rm 41 0 0) s m ([.ref a0, .int a1, .int a2] : List Value).toArray below meth c s.heap [] 0 0 (MQ below (hp_Qv Γ (fun β => mo α β ∧ hm_M β a0 ρ res)) ([.ref a0, .int a1, .int a2] : List Value).toArray s 0 0 (hp_A Γ)) (entryFrame m ([.ref a0, .int a1, .int a2] : List Value).toArray 3)
  rw [lg_entry_eq]
  generalize (lg_sl ([.ref a0, .int a1, .int a2]) ++ List.replicate (3 - (lg_sl ([.ref a0, .int a1, .int a2])).length) Slot.unset).toArray = ls at hl ⊢
  have hl : lv_has ls 3 [(0, .ref a0), (1, .int a1), (2, .int a2)] := hl
  refine lv_aload_n hx hb dX12_growth_0 rfl (lv_at hl 0 rfl) (hp_n (n := 1) rfl ?_)
  refine lv_iconst (v := 0) hx hb dX12_growth_1 (by decide) (hp_n (n := 2) rfl ?_)
  refine m_puti (k := 7) (φ := 657) (pc' := 5) C B hM fl_X12_139 rfl rfl rfl rfl rfl dX12_growth_2 rfl (fun αh1 Hh1 Lh1 σh1 eh1 Bh1 Mh1 => ?_)
  replace hf := ms_lE eh1 hf
  refine lv_iload_n hx hb dX12_growth_5 rfl (lv_at hl 1 rfl) (hp_n (n := 6) rfl ?_)
  refine lv_if_le (tgt := 22) hx hb dX12_growth_6 (by decide) (fun c2 => ?_) (fun c2 => hp_n (n := 9) rfl ?_)
  ·
    replace hf := ms_iT c2 hf
    cases hf
    exact q_vret C Bh1 hr hlk ⟨Bh1.2.2, Mh1⟩ dX12_growth_22
  ·
    replace hf := ms_iF c2 hf
    refine lv_iload_n hx hb dX12_growth_9 rfl (lv_at hl 1 rfl) (hp_n (n := 10) rfl ?_)
    refine lv_iload_n hx hb dX12_growth_10 rfl (lv_at hl 2 rfl) (hp_n (n := 11) rfl ?_)
    refine lv_icmp_ge (tgt := 22) hx hb dX12_growth_11 (by decide) (fun c3 => ?_) (fun c3 => hp_n (n := 14) rfl ?_)
    ·
      replace hf := ms_iT c3 hf
      cases hf
      exact q_vret C Bh1 hr hlk ⟨Bh1.2.2, Mh1⟩ dX12_growth_22
    ·
      replace hf := ms_iF c3 hf
      refine lv_aload_n hx hb dX12_growth_14 rfl (lv_at hl 0 rfl) (hp_n (n := 15) rfl ?_)
      refine lv_iconst (v := 0) hx hb dX12_growth_15 (by decide) (hp_n (n := 16) rfl ?_)
      refine lv_iload_n hx hb dX12_growth_16 rfl (lv_at hl 1 rfl) (hp_n (n := 17) rfl ?_)
      refine lv_iload_n hx hb dX12_growth_17 rfl (lv_at hl 2 rfl) (hp_n (n := 18) rfl ?_)
      refine lv_iconst (v := 1) hx hb dX12_growth_18 (by decide) (hp_n (n := 19) rfl ?_)
      obtain ⟨σh4, qh4, hf⟩ := ms_bE hf
      refine m_cv (pc' := 22) (a := a0) (ρ := ρ) Bh1 (hp_runV (As := [.int (0 : Int32), .int a1, .int a2, .int (1 : Int32)]) (rest := []) C Bh1 (m_X12_growsIn n 40 Γ l αh1 a0 ρ σh1 Mh1 (0 : Int32) a1 a2 (1 : Int32) σh4 qh4) lb_X12_growsIn lv_X12_growsIn lk_X12_150 Mh1.1 rfl (by decide) rfl hl.1 rfl (Nat.le_of_ble_eq_true rfl) dX12_growth_19 ⟨Nat.le_refl _, Nat.le_refl _⟩) rfl (fun αh4 Hh4 Lh4 Bh4 Mh4 => ?_)
      cases hf
      exact q_vret C Bh4 hr hlk ⟨Bh4.2.2, Mh4⟩ dX12_growth_22
def f_X12_hasAny_J31 (n : Nat) (rec2 : Int32 → Int32 → Int32 → Int32 → Option Int32) (v0_h3 : Int32) (v1_h3 : Int32) (v2_h3 : Int32) (v3_h3 : Int32) : Option Int32 :=
  ms_l (v3_h3 + 1) fun x4 =>
  rec2 v0_h3 v1_h3 v2_h3 x4
def f_X12_hasAny_L2 (n : Nat) : Nat → Int32 → Int32 → Int32 → Int32 → Option Int32
  | 0, _, _, _, _ => none
  | k2 + 1, v0_h1, v1_h1, v2_h1, v3_h1 =>
    if (30 : Int32) ≤ v3_h1 then
      some (0 : Int32)
    else
      if ((v0_h1 >>> (v3_h1 &&& 31)) &&& (1 : Int32)) = (1 : Int32) then
        if v3_h1 < v1_h1 then
          f_X12_hasAny_J31 n (f_X12_hasAny_L2 n k2) v0_h1 v1_h1 v2_h1 v3_h1
        else
          if v2_h1 ≤ (v3_h1 - v1_h1) then
            f_X12_hasAny_J31 n (f_X12_hasAny_L2 n k2) v0_h1 v1_h1 v2_h1 v3_h1
          else
            some (1 : Int32)
      else
        f_X12_hasAny_J31 n (f_X12_hasAny_L2 n k2) v0_h1 v1_h1 v2_h1 v3_h1
def f_X12_hasAny (n : Nat) (a0 : Int32) (a1 : Int32) (a2 : Int32) : Option Int32 :=
  f_X12_hasAny_L2 n n a0 a1 a2 (0 : Int32)
set_option maxRecDepth 100000 in
set_option maxHeartbeats 4000000 in
theorem m_X12_hasAny (n : Nat) (Γ : hp_G) (l : Launch) (α : hp_T) (a0 : Int32) (a1 : Int32) (a2 : Int32) (res : Int32) (hf : f_X12_hasAny n a0 a1 a2 = some res) : Met l yX12_hasAny (hp_ws yX12_hasAny cX12_hasAny 4 (some .boolean)) (hp_rm 0 0 0) (hp_Pc Γ α [.int a0, .int a1, .int a2]) (hp_Qi Γ (fun r β => β = α ∧ r = res)) 0 0 (hp_A Γ) := by
  unfold f_X12_hasAny at hf
  refine hp_start (by decide) ?_
  intro p e s m below meth c C hr hlk B0 hnm
  have C : hp_C Γ p m c cX12_hasAny 4 s ([.int a0, .int a1, .int a2] : List Value).toArray RX12 := C
  have hx := C.1.1
  have hb := C.1.2.1
  have hown := C.1.2.2.2.1
  have hts := C.1.2.2.2.2
  have B : hp_B Γ (fun _ _ => True) s α α s.heap [] := ⟨B0.1, B0.2.1, trivial⟩
  have hl := lv_entry ([.int a0, .int a1, .int a2]) (n := 4) (Nat.le_of_ble_eq_true rfl)
  show W p l e (hp_rm 0 0 0) s m ([.int a0, .int a1, .int a2] : List Value).toArray below meth c s.heap [] 0 0 (MQ below (hp_Qi Γ (fun r β => β = α ∧ r = res)) ([.int a0, .int a1, .int a2] : List Value).toArray s 0 0 (hp_A Γ)) (entryFrame m ([.int a0, .int a1, .int a2] : List Value).toArray 4)
  rw [lg_entry_eq]
  generalize (lg_sl ([.int a0, .int a1, .int a2]) ++ List.replicate (4 - (lg_sl ([.int a0, .int a1, .int a2])).length) Slot.unset).toArray = ls at hl ⊢
  have hl : lv_has ls 4 [(0, .int a0), (1, .int a1), (2, .int a2)] := hl
  refine lv_iconst (v := 0) hx hb dX12_hasAny_0 (by decide) (hp_n (n := 1) rfl ?_)
  have J2 : ∀ (k2 : Nat) (Hh1 : Heap) (Lh1 : List Loc) (Bh1 : hp_B Γ (fun _ _ => True) s α α Hh1 Lh1) (v0_h1 : Int32) (v1_h1 : Int32) (v2_h1 : Int32) (v3_h1 : Int32) (ls : Array Slot) (hl : lv_has ls 4 [(0, .int v0_h1), (1, .int v1_h1), (2, .int v2_h1), (3, .int v3_h1)]) (hf : f_X12_hasAny_L2 n k2 v0_h1 v1_h1 v2_h1 v3_h1 = some res), W p l e (hp_rm 0 0 0) s m ([.int a0, .int a1, .int a2] : List Value).toArray below meth c Hh1 Lh1 0 0 (MQ below (hp_Qi Γ (fun r β => β = α ∧ r = res)) ([.int a0, .int a1, .int a2] : List Value).toArray s 0 0 (hp_A Γ)) (F0 m 2 ls []) := by
    intro k2
    induction k2 with
    | zero => intro Hh1 Lh1 Bh1 v0_h1 v1_h1 v2_h1 v3_h1 ls hl hf; rw [f_X12_hasAny_L2.eq_1] at hf; cases hf
    | succ k2 ih2 =>
      intro Hh1 Lh1 Bh1 v0_h1 v1_h1 v2_h1 v3_h1 ls hl hf
      rw [f_X12_hasAny_L2.eq_2] at hf
      refine lv_iload_n hx hb dX12_hasAny_2 rfl (lv_at hl 3 rfl) (hp_n (n := 3) rfl ?_)
      refine lv_bipush (v := 30) hx hb dX12_hasAny_3 (by decide) (hp_n (n := 5) rfl ?_)
      refine lv_icmp_ge (tgt := 37) hx hb dX12_hasAny_5 (by decide) (fun c2 => ?_) (fun c2 => hp_n (n := 8) rfl ?_)
      ·
        replace hf := ms_iT c2 hf
        refine lv_iconst (v := 0) hx hb dX12_hasAny_37 (by decide) (hp_n (n := 38) rfl ?_)
        cases hf
        exact q_zret C Bh1 hr hlk (by decide) ⟨rfl, rfl⟩ dX12_hasAny_38
      ·
        replace hf := ms_iF c2 hf
        refine lv_iload_n hx hb dX12_hasAny_8 rfl (lv_at hl 0 rfl) (hp_n (n := 9) rfl ?_)
        refine lv_iload_n hx hb dX12_hasAny_9 rfl (lv_at hl 3 rfl) (hp_n (n := 10) rfl ?_)
        refine lv_ishr hx hb dX12_hasAny_10 (hp_n (n := 11) rfl ?_)
        refine lv_iconst (v := 1) hx hb dX12_hasAny_11 (by decide) (hp_n (n := 12) rfl ?_)
        refine lv_iand hx hb dX12_hasAny_12 (hp_n (n := 13) rfl ?_)
        refine lv_iconst (v := 1) hx hb dX12_hasAny_13 (by decide) (hp_n (n := 14) rfl ?_)
        have J31 : ∀ (Hh3 : Heap) (Lh3 : List Loc) (Bh3 : hp_B Γ (fun _ _ => True) s α α Hh3 Lh3) (v0_h3 : Int32) (v1_h3 : Int32) (v2_h3 : Int32) (v3_h3 : Int32) (ls : Array Slot) (hl : lv_has ls 4 [(0, .int v0_h3), (1, .int v1_h3), (2, .int v2_h3), (3, .int v3_h3)]) (hf : f_X12_hasAny_J31 n (f_X12_hasAny_L2 n k2) v0_h3 v1_h3 v2_h3 v3_h3 = some res), W p l e (hp_rm 0 0 0) s m ([.int a0, .int a1, .int a2] : List Value).toArray below meth c Hh3 Lh3 0 0 (MQ below (hp_Qi Γ (fun r β => β = α ∧ r = res)) ([.int a0, .int a1, .int a2] : List Value).toArray s 0 0 (hp_A Γ)) (F0 m 31 ls []) := by
          intro Hh3 Lh3 Bh3 v0_h3 v1_h3 v2_h3 v3_h3 ls hl hf
          unfold f_X12_hasAny_J31 at hf
          obtain ⟨x4, ex4⟩ : ∃ y : Int32, y = v3_h3 + 1 := ⟨_, rfl⟩
          replace hf := ms_lE ex4 hf
          refine lv_iinc (v := x4) (lv' := [(3, .int x4), (0, .int v0_h3), (1, .int v1_h3), (2, .int v2_h3)]) hx hb dX12_hasAny_31 hl (k := 3) rfl (by rw [ex4]; rfl) (by decide) rfl (fun ls hl => hp_n (n := 34) rfl ?_)
          refine lv_goto (tgt := 2) hx hb dX12_hasAny_34 (by decide) ?_
          exact ih2 Hh3 Lh3 Bh3 v0_h3 v1_h3 v2_h3 x4 ls (lv_sub hl [1, 2, 3, 0] rfl) hf
        refine lv_icmp_ne (tgt := 31) hx hb dX12_hasAny_14 (by decide) (fun c5 => ?_) (fun c5 => hp_n (n := 17) rfl ?_)
        ·
          replace hf := ms_iF c5 hf
          exact J31 Hh1 Lh1 Bh1 v0_h1 v1_h1 v2_h1 v3_h1 ls (lv_sub hl [0, 1, 2, 3] rfl) hf
        ·
          replace hf := ms_iT c5 hf
          refine lv_iload_n hx hb dX12_hasAny_17 rfl (lv_at hl 3 rfl) (hp_n (n := 18) rfl ?_)
          refine lv_iload_n hx hb dX12_hasAny_18 rfl (lv_at hl 1 rfl) (hp_n (n := 19) rfl ?_)
          refine lv_icmp_lt (tgt := 31) hx hb dX12_hasAny_19 (by decide) (fun c6 => ?_) (fun c6 => hp_n (n := 22) rfl ?_)
          ·
            replace hf := ms_iT c6 hf
            exact J31 Hh1 Lh1 Bh1 v0_h1 v1_h1 v2_h1 v3_h1 ls (lv_sub hl [0, 1, 2, 3] rfl) hf
          ·
            replace hf := ms_iF c6 hf
            refine lv_iload_n hx hb dX12_hasAny_22 rfl (lv_at hl 3 rfl) (hp_n (n := 23) rfl ?_)
            refine lv_iload_n hx hb dX12_hasAny_23 rfl (lv_at hl 1 rfl) (hp_n (n := 24) rfl ?_)
            refine lv_isub hx hb dX12_hasAny_24 (hp_n (n := 25) rfl ?_)
            refine lv_iload_n hx hb dX12_hasAny_25 rfl (lv_at hl 2 rfl) (hp_n (n := 26) rfl ?_)
            refine lv_icmp_ge (tgt := 31) hx hb dX12_hasAny_26 (by decide) (fun c7 => ?_) (fun c7 => hp_n (n := 29) rfl ?_)
            ·
              replace hf := ms_iT c7 hf
              exact J31 Hh1 Lh1 Bh1 v0_h1 v1_h1 v2_h1 v3_h1 ls (lv_sub hl [0, 1, 2, 3] rfl) hf
            ·
              replace hf := ms_iF c7 hf
              refine lv_iconst (v := 1) hx hb dX12_hasAny_29 (by decide) (hp_n (n := 30) rfl ?_)
              cases hf
              exact q_zret C Bh1 hr hlk (by decide) ⟨rfl, rfl⟩ dX12_hasAny_30
  refine lv_istore_n (lv' := [(3, .int (0 : Int32)), (0, .int a0), (1, .int a1), (2, .int a2)]) hx hb dX12_hasAny_1 rfl hl (by decide) rfl (fun ls hl => hp_n (n := 2) rfl ?_)
  exact J2 n s.heap [] B a0 a1 a2 (0 : Int32) ls (lv_sub hl [1, 2, 3, 0] rfl) hf
def f_X12_bundlesIn (n : Nat) : Nat → ms_T → Int32 → Int32 → Int32 → Option ms_T
  | 0, _, _, _, _ => none
  | d + 1, σ, a1, a2, a3 =>
    ms_b (f_X12_hasAny n a1 a2 a3) fun rh1 =>
    if rh1 = 0 then
      ms_b (f_X12_asks n σ a2 a3) fun σh7 =>
      some σh7
    else
      if a3 = (1 : Int32) then
        some σ
      else
        ms_b (f_X12_part0 n a3) fun rh4 =>
        ms_b ((f_X12_bundlesIn n d) σ a1 a2 rh4) fun σh5 =>
        ms_b ((f_X12_bundlesIn n d) σh5 a1 (a2 + rh4) (a3 - rh4)) fun σh6 =>
        some σh6
set_option maxRecDepth 100000 in
set_option maxHeartbeats 4000000 in
theorem m_X12_bundlesIn (n : Nat) : ∀ (d : Nat) (Γ : hp_G) (l : Launch) (α : hp_T) (a0 : Nat) (ρ : Nat → Nat) (σ : ms_T) (hM : hm_M α a0 ρ σ) (a1 : Int32) (a2 : Int32) (a3 : Int32) (res : ms_T) (hf : f_X12_bundlesIn n d σ a1 a2 a3 = some res), Met l yX12_bundlesIn (hp_ws yX12_bundlesIn cX12_bundlesIn 5 none) (hp_rm (d + 0) 0 0) (hp_Pc Γ α [.ref a0, .int a1, .int a2, .int a3]) (hp_Qv Γ (fun β => mo α β ∧ hm_M β a0 ρ res)) 0 0 (hp_A Γ) := by
  intro d
  induction d with
  | zero => intro Γ l α a0 ρ σ hM a1 a2 a3 res hf; rw [f_X12_bundlesIn.eq_1] at hf; cases hf
  | succ d ihM =>
    intro Γ l α a0 ρ σ hM a1 a2 a3 res hf
    rw [f_X12_bundlesIn.eq_2] at hf
    refine hp_start (by decide) ?_
    intro p e s m below meth c C hr hlk B0 hnm
    have C : hp_C Γ p m c cX12_bundlesIn 5 s ([.ref a0, .int a1, .int a2, .int a3] : List Value).toArray RX12 := C
    have hx := C.1.1
    have hb := C.1.2.1
    have hown := C.1.2.2.2.1
    have hts := C.1.2.2.2.2
    have B : hp_B Γ mo s α α s.heap [] := ⟨B0.1, B0.2.1, mo_rf⟩
    have hl := lv_entry ([.ref a0, .int a1, .int a2, .int a3]) (n := 5) (Nat.le_of_ble_eq_true rfl)
    show W p l e (hp_rm (d + 1 + 0) 0 0) s m ([.ref a0, .int a1, .int a2, .int a3] : List Value).toArray below meth c s.heap [] 0 0 (MQ below (hp_Qv Γ (fun β => mo α β ∧ hm_M β a0 ρ res)) ([.ref a0, .int a1, .int a2, .int a3] : List Value).toArray s 0 0 (hp_A Γ)) (entryFrame m ([.ref a0, .int a1, .int a2, .int a3] : List Value).toArray 5)
    rw [lg_entry_eq]
    generalize (lg_sl ([.ref a0, .int a1, .int a2, .int a3]) ++ List.replicate (5 - (lg_sl ([.ref a0, .int a1, .int a2, .int a3])).length) Slot.unset).toArray = ls at hl ⊢
    have hl : lv_has ls 5 [(0, .ref a0), (1, .int a1), (2, .int a2), (3, .int a3)] := hl
    refine lv_iload_n hx hb dX12_bundlesIn_0 rfl (lv_at hl 1 rfl) (hp_n (n := 1) rfl ?_)
    refine lv_iload_n hx hb dX12_bundlesIn_1 rfl (lv_at hl 2 rfl) (hp_n (n := 2) rfl ?_)
    refine lv_iload_n hx hb dX12_bundlesIn_2 rfl (lv_at hl 3 rfl) (hp_n (n := 3) rfl ?_)
    obtain ⟨rh1, qh1, hf⟩ := ms_bE hf
    refine m_cp (pc' := 6) B (hp_runS (As := [.int a1, .int a2, .int a3]) (rest := []) C B (m_X12_hasAny n Γ l α a1 a2 a3 rh1 qh1) lb_X12_hasAny ls_X12_hasAny lk_X12_154 rfl (by omega) rfl hl.1 rfl (Nat.le_of_ble_eq_true rfl) dX12_bundlesIn_3 ⟨Nat.le_refl _, Nat.le_refl _⟩) rfl (fun Hh1 Lh1 Bh1 => ?_)
    refine lv_if_ne (tgt := 16) hx hb dX12_bundlesIn_6 (by decide) (fun c2 => ?_) (fun c2 => hp_n (n := 9) rfl ?_)
    ·
      replace hf := ms_iF c2 hf
      refine lv_iload_n hx hb dX12_bundlesIn_16 rfl (lv_at hl 3 rfl) (hp_n (n := 17) rfl ?_)
      refine lv_iconst (v := 1) hx hb dX12_bundlesIn_17 (by decide) (hp_n (n := 18) rfl ?_)
      refine lv_icmp_ne (tgt := 22) hx hb dX12_bundlesIn_18 (by decide) (fun c3 => ?_) (fun c3 => hp_n (n := 21) rfl ?_)
      ·
        replace hf := ms_iF c3 hf
        refine lv_iload_n hx hb dX12_bundlesIn_22 rfl (lv_at hl 3 rfl) (hp_n (n := 23) rfl ?_)
        obtain ⟨rh4, qh4, hf⟩ := ms_bE hf
        refine m_cp (pc' := 26) Bh1 (hp_runS (As := [.int a3]) (rest := []) C Bh1 (m_X12_part0 n Γ l α a3 rh4 qh4) lb_X12_part0 ls_X12_part0 lk_X12_128 rfl (by omega) rfl hl.1 rfl (Nat.le_of_ble_eq_true rfl) dX12_bundlesIn_23 ⟨Nat.le_refl _, Nat.le_refl _⟩) rfl (fun Hh4 Lh4 Bh4 => ?_)
        refine lv_istore (lv' := [(4, .int rh4), (0, .ref a0), (1, .int a1), (2, .int a2), (3, .int a3)]) hx hb dX12_bundlesIn_26 hl (by decide) rfl (fun ls hl => hp_n (n := 28) rfl ?_)
        refine lv_aload_n hx hb dX12_bundlesIn_28 rfl (lv_at hl 1 rfl) (hp_n (n := 29) rfl ?_)
        refine lv_iload_n hx hb dX12_bundlesIn_29 rfl (lv_at hl 2 rfl) (hp_n (n := 30) rfl ?_)
        refine lv_iload_n hx hb dX12_bundlesIn_30 rfl (lv_at hl 3 rfl) (hp_n (n := 31) rfl ?_)
        refine lv_iload hx hb dX12_bundlesIn_31 (lv_at hl 0 rfl) (hp_n (n := 33) rfl ?_)
        obtain ⟨σh5, qh5, hf⟩ := ms_bE hf
        refine m_cv (pc' := 36) (a := a0) (ρ := ρ) Bh4 (hp_runV (As := [.int a1, .int a2, .int rh4]) (rest := []) C Bh4 (ihM Γ l α a0 ρ σ hM a1 a2 rh4 σh5 qh5) lb_X12_bundlesIn lv_X12_bundlesIn lk_X12_157 hM.1 rfl (by omega) rfl hl.1 rfl (Nat.le_of_ble_eq_true rfl) dX12_bundlesIn_33 ⟨Nat.le_refl _, Nat.le_refl _⟩) rfl (fun αh5 Hh5 Lh5 Bh5 Mh5 => ?_)
        refine lv_aload_n hx hb dX12_bundlesIn_36 rfl (lv_at hl 1 rfl) (hp_n (n := 37) rfl ?_)
        refine lv_iload_n hx hb dX12_bundlesIn_37 rfl (lv_at hl 2 rfl) (hp_n (n := 38) rfl ?_)
        refine lv_iload_n hx hb dX12_bundlesIn_38 rfl (lv_at hl 3 rfl) (hp_n (n := 39) rfl ?_)
        refine lv_iload hx hb dX12_bundlesIn_39 (lv_at hl 0 rfl) (hp_n (n := 41) rfl ?_)
        refine lv_iadd hx hb dX12_bundlesIn_41 (hp_n (n := 42) rfl ?_)
        refine lv_iload_n hx hb dX12_bundlesIn_42 rfl (lv_at hl 4 rfl) (hp_n (n := 43) rfl ?_)
        refine lv_iload hx hb dX12_bundlesIn_43 (lv_at hl 0 rfl) (hp_n (n := 45) rfl ?_)
        refine lv_isub hx hb dX12_bundlesIn_45 (hp_n (n := 46) rfl ?_)
        obtain ⟨σh6, qh6, hf⟩ := ms_bE hf
        refine m_cv (pc' := 49) (a := a0) (ρ := ρ) Bh5 (hp_runV (As := [.int a1, .int (a2 + rh4), .int (a3 - rh4)]) (rest := []) C Bh5 (ihM Γ l αh5 a0 ρ σh5 Mh5 a1 (a2 + rh4) (a3 - rh4) σh6 qh6) lb_X12_bundlesIn lv_X12_bundlesIn lk_X12_157 Mh5.1 rfl (by omega) rfl hl.1 rfl (Nat.le_of_ble_eq_true rfl) dX12_bundlesIn_46 ⟨Nat.le_refl _, Nat.le_refl _⟩) rfl (fun αh6 Hh6 Lh6 Bh6 Mh6 => ?_)
        cases hf
        exact q_vret C Bh6 hr hlk ⟨Bh6.2.2, Mh6⟩ dX12_bundlesIn_49
      ·
        replace hf := ms_iT c3 hf
        cases hf
        exact q_vret C Bh1 hr hlk ⟨Bh1.2.2, hM⟩ dX12_bundlesIn_21
    ·
      replace hf := ms_iT c2 hf
      refine lv_aload_n hx hb dX12_bundlesIn_9 rfl (lv_at hl 0 rfl) (hp_n (n := 10) rfl ?_)
      refine lv_iload_n hx hb dX12_bundlesIn_10 rfl (lv_at hl 2 rfl) (hp_n (n := 11) rfl ?_)
      refine lv_iload_n hx hb dX12_bundlesIn_11 rfl (lv_at hl 3 rfl) (hp_n (n := 12) rfl ?_)
      obtain ⟨σh7, qh7, hf⟩ := ms_bE hf
      refine m_cv (pc' := 15) (a := a0) (ρ := ρ) Bh1 (hp_runV (As := [.int a2, .int a3]) (rest := []) C Bh1 (m_X12_asks n Γ l α a0 ρ σ hM a2 a3 σh7 qh7) lb_X12_asks lv_X12_asks lk_X12_146 hM.1 rfl (by omega) rfl hl.1 rfl (Nat.le_of_ble_eq_true rfl) dX12_bundlesIn_12 ⟨Nat.le_refl _, Nat.le_refl _⟩) rfl (fun αh7 Hh7 Lh7 Bh7 Mh7 => ?_)
      cases hf
      exact q_vret C Bh7 hr hlk ⟨Bh7.2.2, Mh7⟩ dX12_bundlesIn_15
def f_X12_bundleOf (n : Nat) (σ : ms_T) (a1 : Int32) (a2 : Int32) : Option ms_T :=
  ms_l (ms_sI σ 657 (0 : Int32)) fun σh1 =>
  ms_b (f_X12_bundlesIn n 40 σh1 a1 (0 : Int32) a2) fun σh2 =>
  some σh2
set_option maxRecDepth 100000 in
set_option maxHeartbeats 4000000 in
theorem m_X12_bundleOf (n : Nat) (Γ : hp_G) (l : Launch) (α : hp_T) (a0 : Nat) (ρ : Nat → Nat) (σ : ms_T) (hM : hm_M α a0 ρ σ) (a1 : Int32) (a2 : Int32) (res : ms_T) (hf : f_X12_bundleOf n σ a1 a2 = some res) : Met l yX12_bundleOf (hp_ws yX12_bundleOf cX12_bundleOf 3 none) (hp_rm 41 0 0) (hp_Pc Γ α [.ref a0, .int a1, .int a2]) (hp_Qv Γ (fun β => mo α β ∧ hm_M β a0 ρ res)) 0 0 (hp_A Γ) := by
  unfold f_X12_bundleOf at hf
  refine hp_start (by decide) ?_
  intro p e s m below meth c C hr hlk B0 hnm
  have C : hp_C Γ p m c cX12_bundleOf 3 s ([.ref a0, .int a1, .int a2] : List Value).toArray RX12 := C
  have hx := C.1.1
  have hb := C.1.2.1
  have hown := C.1.2.2.2.1
  have hts := C.1.2.2.2.2
  have B : hp_B Γ mo s α α s.heap [] := ⟨B0.1, B0.2.1, mo_rf⟩
  have hl := lv_entry ([.ref a0, .int a1, .int a2]) (n := 3) (Nat.le_of_ble_eq_true rfl)
  show W p l e (hp_rm 41 0 0) s m ([.ref a0, .int a1, .int a2] : List Value).toArray below meth c s.heap [] 0 0 (MQ below (hp_Qv Γ (fun β => mo α β ∧ hm_M β a0 ρ res)) ([.ref a0, .int a1, .int a2] : List Value).toArray s 0 0 (hp_A Γ)) (entryFrame m ([.ref a0, .int a1, .int a2] : List Value).toArray 3)
  rw [lg_entry_eq]
  generalize (lg_sl ([.ref a0, .int a1, .int a2]) ++ List.replicate (3 - (lg_sl ([.ref a0, .int a1, .int a2])).length) Slot.unset).toArray = ls at hl ⊢
  have hl : lv_has ls 3 [(0, .ref a0), (1, .int a1), (2, .int a2)] := hl
  refine lv_aload_n hx hb dX12_bundleOf_0 rfl (lv_at hl 0 rfl) (hp_n (n := 1) rfl ?_)
  refine lv_iconst (v := 0) hx hb dX12_bundleOf_1 (by decide) (hp_n (n := 2) rfl ?_)
  refine m_puti (k := 7) (φ := 657) (pc' := 5) C B hM fl_X12_139 rfl rfl rfl rfl rfl dX12_bundleOf_2 rfl (fun αh1 Hh1 Lh1 σh1 eh1 Bh1 Mh1 => ?_)
  replace hf := ms_lE eh1 hf
  refine lv_aload_n hx hb dX12_bundleOf_5 rfl (lv_at hl 0 rfl) (hp_n (n := 6) rfl ?_)
  refine lv_iload_n hx hb dX12_bundleOf_6 rfl (lv_at hl 1 rfl) (hp_n (n := 7) rfl ?_)
  refine lv_iconst (v := 0) hx hb dX12_bundleOf_7 (by decide) (hp_n (n := 8) rfl ?_)
  refine lv_iload_n hx hb dX12_bundleOf_8 rfl (lv_at hl 2 rfl) (hp_n (n := 9) rfl ?_)
  obtain ⟨σh2, qh2, hf⟩ := ms_bE hf
  refine m_cv (pc' := 12) (a := a0) (ρ := ρ) Bh1 (hp_runV (As := [.int a1, .int (0 : Int32), .int a2]) (rest := []) C Bh1 (m_X12_bundlesIn n 40 Γ l αh1 a0 ρ σh1 Mh1 a1 (0 : Int32) a2 σh2 qh2) lb_X12_bundlesIn lv_X12_bundlesIn lk_X12_157 Mh1.1 rfl (by decide) rfl hl.1 rfl (Nat.le_of_ble_eq_true rfl) dX12_bundleOf_9 ⟨Nat.le_refl _, Nat.le_refl _⟩) rfl (fun αh2 Hh2 Lh2 Bh2 Mh2 => ?_)
  cases hf
  exact q_vret C Bh2 hr hlk ⟨Bh2.2.2, Mh2⟩ dX12_bundleOf_12
def f_X12_peaksOf_J35 (n : Nat) (rec10 : ms_T → Int32 → Int32 → Int32 → Option ms_T) (σh5 : ms_T) (v1_h5 : Int32) (v2_h5 : Int32) (v3_h5 : Int32) : Option ms_T :=
  ms_l ((v3_h5 / (2 : Int32))) fun x6 =>
  rec10 σh5 v1_h5 v2_h5 x6
def f_X12_peaksOf_L10 (n : Nat) : Nat → ms_T → Int32 → Int32 → Int32 → Option ms_T
  | 0, _, _, _, _ => none
  | k10 + 1, σh2, v1_h2, v2_h2, v3_h2 =>
    if v3_h2 ≤ 0 then
      some σh2
    else
      ms_n v3_h2 <|
      if ((v1_h2 / v3_h2) - (v1_h2 / v3_h2) / (2 : Int32) * (2 : Int32)) = 0 then
        f_X12_peaksOf_J35 n (f_X12_peaksOf_L10 n k10) σh2 v1_h2 v2_h2 v3_h2
      else
        ms_b (f_X12_asks n σh2 v2_h2 v3_h2) fun σh8 =>
        ms_l ((v2_h2 + v3_h2)) fun x9 =>
        f_X12_peaksOf_J35 n (f_X12_peaksOf_L10 n k10) σh8 v1_h2 x9 v3_h2
def f_X12_peaksOf (n : Nat) (σ : ms_T) (a1 : Int32) : Option ms_T :=
  ms_l (ms_sI σ 657 (0 : Int32)) fun σh1 =>
  f_X12_peaksOf_L10 n n σh1 a1 (0 : Int32) (1073741824 : Int32)
set_option maxRecDepth 100000 in
set_option maxHeartbeats 4000000 in
theorem m_X12_peaksOf (n : Nat) (Γ : hp_G) (l : Launch) (α : hp_T) (a0 : Nat) (ρ : Nat → Nat) (σ : ms_T) (hM : hm_M α a0 ρ σ) (a1 : Int32) (res : ms_T) (hf : f_X12_peaksOf n σ a1 = some res) : Met l yX12_peaksOf (hp_ws yX12_peaksOf cX12_peaksOf 4 none) (hp_rm 1 0 0) (hp_Pc Γ α [.ref a0, .int a1]) (hp_Qv Γ (fun β => mo α β ∧ hm_M β a0 ρ res)) 0 0 (hp_A Γ) := by
  unfold f_X12_peaksOf at hf
  refine hp_start (by decide) ?_
  intro p e s m below meth c C hr hlk B0 hnm
  have C : hp_C Γ p m c cX12_peaksOf 4 s ([.ref a0, .int a1] : List Value).toArray RX12 := C
  have hx := C.1.1
  have hb := C.1.2.1
  have hown := C.1.2.2.2.1
  have hts := C.1.2.2.2.2
  have B : hp_B Γ mo s α α s.heap [] := ⟨B0.1, B0.2.1, mo_rf⟩
  have hl := lv_entry ([.ref a0, .int a1]) (n := 4) (Nat.le_of_ble_eq_true rfl)
  show W p l e (hp_rm 1 0 0) s m ([.ref a0, .int a1] : List Value).toArray below meth c s.heap [] 0 0 (MQ below (hp_Qv Γ (fun β => mo α β ∧ hm_M β a0 ρ res)) ([.ref a0, .int a1] : List Value).toArray s 0 0 (hp_A Γ)) (entryFrame m ([.ref a0, .int a1] : List Value).toArray 4)
  rw [lg_entry_eq]
  generalize (lg_sl ([.ref a0, .int a1]) ++ List.replicate (4 - (lg_sl ([.ref a0, .int a1])).length) Slot.unset).toArray = ls at hl ⊢
  have hl : lv_has ls 4 [(0, .ref a0), (1, .int a1)] := hl
  refine lv_aload_n hx hb dX12_peaksOf_0 rfl (lv_at hl 0 rfl) (hp_n (n := 1) rfl ?_)
  refine lv_iconst (v := 0) hx hb dX12_peaksOf_1 (by decide) (hp_n (n := 2) rfl ?_)
  refine m_puti (k := 7) (φ := 657) (pc' := 5) C B hM fl_X12_139 rfl rfl rfl rfl rfl dX12_peaksOf_2 rfl (fun αh1 Hh1 Lh1 σh1 eh1 Bh1 Mh1 => ?_)
  replace hf := ms_lE eh1 hf
  refine lv_iconst (v := 0) hx hb dX12_peaksOf_5 (by decide) (hp_n (n := 6) rfl ?_)
  refine lv_istore_n (lv' := [(2, .int (0 : Int32)), (0, .ref a0), (1, .int a1)]) hx hb dX12_peaksOf_6 rfl hl (by decide) rfl (fun ls hl => hp_n (n := 7) rfl ?_)
  refine lv_ldc hx hb hown (hts _ kc_X12_160) dX12_peaksOf_7 (hp_n (n := 9) rfl ?_)
  have J10 : ∀ (k10 : Nat) (αh2 : hp_T) (Hh2 : Heap) (Lh2 : List Loc) (Bh2 : hp_B Γ mo s α αh2 Hh2 Lh2) (σh2 : ms_T) (Mh2 : hm_M αh2 a0 ρ σh2) (v1_h2 : Int32) (v2_h2 : Int32) (v3_h2 : Int32) (ls : Array Slot) (hl : lv_has ls 4 [(0, .ref a0), (1, .int v1_h2), (2, .int v2_h2), (3, .int v3_h2)]) (hf : f_X12_peaksOf_L10 n k10 σh2 v1_h2 v2_h2 v3_h2 = some res), W p l e (hp_rm 1 0 0) s m ([.ref a0, .int a1] : List Value).toArray below meth c Hh2 Lh2 0 0 (MQ below (hp_Qv Γ (fun β => mo α β ∧ hm_M β a0 ρ res)) ([.ref a0, .int a1] : List Value).toArray s 0 0 (hp_A Γ)) (F0 m 10 ls []) := by
    intro k10
    induction k10 with
    | zero => intro αh2 Hh2 Lh2 Bh2 σh2 Mh2 v1_h2 v2_h2 v3_h2 ls hl hf; rw [f_X12_peaksOf_L10.eq_1] at hf; cases hf
    | succ k10 ih10 =>
      intro αh2 Hh2 Lh2 Bh2 σh2 Mh2 v1_h2 v2_h2 v3_h2 ls hl hf
      rw [f_X12_peaksOf_L10.eq_2] at hf
      refine lv_iload_n hx hb dX12_peaksOf_10 rfl (lv_at hl 3 rfl) (hp_n (n := 11) rfl ?_)
      refine lv_if_le (tgt := 42) hx hb dX12_peaksOf_11 (by decide) (fun c3 => ?_) (fun c3 => hp_n (n := 14) rfl ?_)
      ·
        replace hf := ms_iT c3 hf
        cases hf
        exact q_vret C Bh2 hr hlk ⟨Bh2.2.2, Mh2⟩ dX12_peaksOf_42
      ·
        replace hf := ms_iF c3 hf
        refine lv_iload_n hx hb dX12_peaksOf_14 rfl (lv_at hl 1 rfl) (hp_n (n := 15) rfl ?_)
        refine lv_iload_n hx hb dX12_peaksOf_15 rfl (lv_at hl 3 rfl) (hp_n (n := 16) rfl ?_)
        obtain ⟨g4, hf⟩ := ms_nE hf
        refine lv_idiv hx hb dX12_peaksOf_16 g4 (hp_n (n := 17) rfl ?_)
        refine lv_iconst (v := 2) hx hb dX12_peaksOf_17 (by decide) (hp_n (n := 18) rfl ?_)
        refine lv_irem hx hb dX12_peaksOf_18 (by decide) (hp_n (n := 19) rfl ?_)
        have J35 : ∀ (αh5 : hp_T) (Hh5 : Heap) (Lh5 : List Loc) (Bh5 : hp_B Γ mo s α αh5 Hh5 Lh5) (σh5 : ms_T) (Mh5 : hm_M αh5 a0 ρ σh5) (v1_h5 : Int32) (v2_h5 : Int32) (v3_h5 : Int32) (ls : Array Slot) (hl : lv_has ls 4 [(0, .ref a0), (1, .int v1_h5), (2, .int v2_h5), (3, .int v3_h5)]) (hf : f_X12_peaksOf_J35 n (f_X12_peaksOf_L10 n k10) σh5 v1_h5 v2_h5 v3_h5 = some res), W p l e (hp_rm 1 0 0) s m ([.ref a0, .int a1] : List Value).toArray below meth c Hh5 Lh5 0 0 (MQ below (hp_Qv Γ (fun β => mo α β ∧ hm_M β a0 ρ res)) ([.ref a0, .int a1] : List Value).toArray s 0 0 (hp_A Γ)) (F0 m 35 ls []) := by
          intro αh5 Hh5 Lh5 Bh5 σh5 Mh5 v1_h5 v2_h5 v3_h5 ls hl hf
          unfold f_X12_peaksOf_J35 at hf
          refine lv_iload_n hx hb dX12_peaksOf_35 rfl (lv_at hl 3 rfl) (hp_n (n := 36) rfl ?_)
          refine lv_iconst (v := 2) hx hb dX12_peaksOf_36 (by decide) (hp_n (n := 37) rfl ?_)
          refine lv_idiv hx hb dX12_peaksOf_37 (by decide) (hp_n (n := 38) rfl ?_)
          refine lv_topi (fun x6 ex6 => ?_)
          replace hf := ms_lE ex6 hf
          refine lv_istore_n (lv' := [(3, .int x6), (0, .ref a0), (1, .int v1_h5), (2, .int v2_h5)]) hx hb dX12_peaksOf_38 rfl hl (by decide) rfl (fun ls hl => hp_n (n := 39) rfl ?_)
          refine lv_goto (tgt := 10) hx hb dX12_peaksOf_39 (by decide) ?_
          exact ih10 αh5 Hh5 Lh5 Bh5 σh5 Mh5 v1_h5 v2_h5 x6 ls (lv_sub hl [1, 2, 3, 0] rfl) hf
        refine lv_if_ne (tgt := 25) hx hb dX12_peaksOf_19 (by decide) (fun c7 => ?_) (fun c7 => hp_n (n := 22) rfl ?_)
        ·
          replace hf := ms_iF c7 hf
          refine lv_aload_n hx hb dX12_peaksOf_25 rfl (lv_at hl 0 rfl) (hp_n (n := 26) rfl ?_)
          refine lv_iload_n hx hb dX12_peaksOf_26 rfl (lv_at hl 2 rfl) (hp_n (n := 27) rfl ?_)
          refine lv_iload_n hx hb dX12_peaksOf_27 rfl (lv_at hl 3 rfl) (hp_n (n := 28) rfl ?_)
          obtain ⟨σh8, qh8, hf⟩ := ms_bE hf
          refine m_cv (pc' := 31) (a := a0) (ρ := ρ) Bh2 (hp_runV (As := [.int v2_h2, .int v3_h2]) (rest := []) C Bh2 (m_X12_asks n Γ l αh2 a0 ρ σh2 Mh2 v2_h2 v3_h2 σh8 qh8) lb_X12_asks lv_X12_asks lk_X12_146 Mh2.1 rfl (by decide) rfl hl.1 rfl (Nat.le_of_ble_eq_true rfl) dX12_peaksOf_28 ⟨Nat.le_refl _, Nat.le_refl _⟩) rfl (fun αh8 Hh8 Lh8 Bh8 Mh8 => ?_)
          refine lv_iload_n hx hb dX12_peaksOf_31 rfl (lv_at hl 2 rfl) (hp_n (n := 32) rfl ?_)
          refine lv_iload_n hx hb dX12_peaksOf_32 rfl (lv_at hl 3 rfl) (hp_n (n := 33) rfl ?_)
          refine lv_iadd hx hb dX12_peaksOf_33 (hp_n (n := 34) rfl ?_)
          refine lv_topi (fun x9 ex9 => ?_)
          replace hf := ms_lE ex9 hf
          refine lv_istore_n (lv' := [(2, .int x9), (0, .ref a0), (1, .int v1_h2), (3, .int v3_h2)]) hx hb dX12_peaksOf_34 rfl hl (by decide) rfl (fun ls hl => hp_n (n := 35) rfl ?_)
          exact J35 αh8 Hh8 Lh8 Bh8 σh8 Mh8 v1_h2 x9 v3_h2 ls (lv_sub hl [1, 2, 0, 3] rfl) hf
        ·
          replace hf := ms_iT c7 hf
          refine lv_goto (tgt := 35) hx hb dX12_peaksOf_22 (by decide) ?_
          exact J35 αh2 Hh2 Lh2 Bh2 σh2 Mh2 v1_h2 v2_h2 v3_h2 ls (lv_sub hl [0, 1, 2, 3] rfl) hf
  refine lv_istore_n (lv' := [(3, .int (1073741824 : Int32)), (2, .int (0 : Int32)), (0, .ref a0), (1, .int a1)]) hx hb dX12_peaksOf_9 rfl hl (by decide) rfl (fun ls hl => hp_n (n := 10) rfl ?_)
  exact J10 n αh1 Hh1 Lh1 Bh1 σh1 Mh1 a1 (0 : Int32) (1073741824 : Int32) ls (lv_sub hl [2, 3, 1, 0] rfl) hf
def f_X12_fetches_L2 (n : Nat) : Nat → ms_T → Int32 → Int32 → Option ms_T
  | 0, _, _, _ => none
  | k2 + 1, σh1, v1_h1, v2_h1 =>
    if (ms_I σh1 657) ≤ v2_h1 then
      some σh1
    else
      ms_g v2_h1 128 <|
      ms_g v2_h1 128 <|
      ms_b (f_X12_treeMark n 40 σh1 v1_h1 (ms_E σh1 42 (v2_h1).toNatClampNeg) (ms_E σh1 43 (v2_h1).toNatClampNeg)) fun rh5 =>
      ms_g v2_h1 128 <|
      ms_l (ms_sE σh1 44 (v2_h1).toNatClampNeg rh5) fun σh7 =>
      ms_l (v2_h1 + 1) fun x8 =>
      (f_X12_fetches_L2 n k2) σh7 v1_h1 x8
def f_X12_fetches (n : Nat) (σ : ms_T) (a1 : Int32) : Option ms_T :=
  f_X12_fetches_L2 n n σ a1 (0 : Int32)
set_option maxRecDepth 100000 in
set_option maxHeartbeats 4000000 in
theorem m_X12_fetches (n : Nat) (Γ : hp_G) (l : Launch) (α : hp_T) (a0 : Nat) (ρ : Nat → Nat) (σ : ms_T) (hM : hm_M α a0 ρ σ) (a1 : Int32) (res : ms_T) (hf : f_X12_fetches n σ a1 = some res) : Met l yX12_fetches (hp_ws yX12_fetches cX12_fetches 3 none) (hp_rm 42 0 0) (hp_Pc Γ α [.ref a0, .int a1]) (hp_Qv Γ (fun β => mo α β ∧ hm_M β a0 ρ res)) 0 0 (hp_A Γ) := by
  unfold f_X12_fetches at hf
  refine hp_start (by decide) ?_
  intro p e s m below meth c C hr hlk B0 hnm
  have C : hp_C Γ p m c cX12_fetches 3 s ([.ref a0, .int a1] : List Value).toArray RX12 := C
  have hx := C.1.1
  have hb := C.1.2.1
  have hown := C.1.2.2.2.1
  have hts := C.1.2.2.2.2
  have B : hp_B Γ mo s α α s.heap [] := ⟨B0.1, B0.2.1, mo_rf⟩
  have hl := lv_entry ([.ref a0, .int a1]) (n := 3) (Nat.le_of_ble_eq_true rfl)
  show W p l e (hp_rm 42 0 0) s m ([.ref a0, .int a1] : List Value).toArray below meth c s.heap [] 0 0 (MQ below (hp_Qv Γ (fun β => mo α β ∧ hm_M β a0 ρ res)) ([.ref a0, .int a1] : List Value).toArray s 0 0 (hp_A Γ)) (entryFrame m ([.ref a0, .int a1] : List Value).toArray 3)
  rw [lg_entry_eq]
  generalize (lg_sl ([.ref a0, .int a1]) ++ List.replicate (3 - (lg_sl ([.ref a0, .int a1])).length) Slot.unset).toArray = ls at hl ⊢
  have hl : lv_has ls 3 [(0, .ref a0), (1, .int a1)] := hl
  refine lv_iconst (v := 0) hx hb dX12_fetches_0 (by decide) (hp_n (n := 1) rfl ?_)
  have J2 : ∀ (k2 : Nat) (αh1 : hp_T) (Hh1 : Heap) (Lh1 : List Loc) (Bh1 : hp_B Γ mo s α αh1 Hh1 Lh1) (σh1 : ms_T) (Mh1 : hm_M αh1 a0 ρ σh1) (v1_h1 : Int32) (v2_h1 : Int32) (ls : Array Slot) (hl : lv_has ls 3 [(0, .ref a0), (1, .int v1_h1), (2, .int v2_h1)]) (hf : f_X12_fetches_L2 n k2 σh1 v1_h1 v2_h1 = some res), W p l e (hp_rm 42 0 0) s m ([.ref a0, .int a1] : List Value).toArray below meth c Hh1 Lh1 0 0 (MQ below (hp_Qv Γ (fun β => mo α β ∧ hm_M β a0 ρ res)) ([.ref a0, .int a1] : List Value).toArray s 0 0 (hp_A Γ)) (F0 m 2 ls []) := by
    intro k2
    induction k2 with
    | zero => intro αh1 Hh1 Lh1 Bh1 σh1 Mh1 v1_h1 v2_h1 ls hl hf; rw [f_X12_fetches_L2.eq_1] at hf; cases hf
    | succ k2 ih2 =>
      intro αh1 Hh1 Lh1 Bh1 σh1 Mh1 v1_h1 v2_h1 ls hl hf
      rw [f_X12_fetches_L2.eq_2] at hf
      refine lv_iload_n hx hb dX12_fetches_2 rfl (lv_at hl 2 rfl) (hp_n (n := 3) rfl ?_)
      refine lv_aload_n hx hb dX12_fetches_3 rfl (lv_at hl 0 rfl) (hp_n (n := 4) rfl ?_)
      refine m_geti (k := 7) (φ := 657) (pc' := 7) C Bh1 Mh1 fl_X12_139 rfl rfl dX12_fetches_4 rfl ?_
      refine lv_icmp_ge (tgt := 39) hx hb dX12_fetches_7 (by decide) (fun c2 => ?_) (fun c2 => hp_n (n := 10) rfl ?_)
      ·
        replace hf := ms_iT c2 hf
        cases hf
        exact q_vret C Bh1 hr hlk ⟨Bh1.2.2, Mh1⟩ dX12_fetches_39
      ·
        replace hf := ms_iF c2 hf
        refine lv_aload_n hx hb dX12_fetches_10 rfl (lv_at hl 0 rfl) (hp_n (n := 11) rfl ?_)
        refine m_getr (κ := 44) (k := 6) (pc' := 14) C Bh1 Mh1 fl_X12_22 rfl (by decide) dX12_fetches_11 rfl ?_
        refine lv_iload_n hx hb dX12_fetches_14 rfl (lv_at hl 2 rfl) (hp_n (n := 15) rfl ?_)
        refine lv_aload_n hx hb dX12_fetches_15 rfl (lv_at hl 0 rfl) (hp_n (n := 16) rfl ?_)
        refine lv_iload_n hx hb dX12_fetches_16 rfl (lv_at hl 1 rfl) (hp_n (n := 17) rfl ?_)
        refine lv_aload_n hx hb dX12_fetches_17 rfl (lv_at hl 0 rfl) (hp_n (n := 18) rfl ?_)
        refine m_getr (κ := 42) (k := 4) (pc' := 21) C Bh1 Mh1 fl_X12_16 rfl (by decide) dX12_fetches_18 rfl ?_
        refine lv_iload_n hx hb dX12_fetches_21 rfl (lv_at hl 2 rfl) (hp_n (n := 22) rfl ?_)
        obtain ⟨g3, hf⟩ := ms_gE hf
        refine m_ial (κ := 42) (φ := 654) (n := 128) (pc' := 23) C Bh1 Mh1 (by decide) (by decide) rfl g3 dX12_fetches_22 rfl ?_
        refine lv_aload_n hx hb dX12_fetches_23 rfl (lv_at hl 0 rfl) (hp_n (n := 24) rfl ?_)
        refine m_getr (κ := 43) (k := 5) (pc' := 27) C Bh1 Mh1 fl_X12_19 rfl (by decide) dX12_fetches_24 rfl ?_
        refine lv_iload_n hx hb dX12_fetches_27 rfl (lv_at hl 2 rfl) (hp_n (n := 28) rfl ?_)
        obtain ⟨g4, hf⟩ := ms_gE hf
        refine m_ial (κ := 43) (φ := 655) (n := 128) (pc' := 29) C Bh1 Mh1 (by decide) (by decide) rfl g4 dX12_fetches_28 rfl ?_
        obtain ⟨rh5, qh5, hf⟩ := ms_bE hf
        refine m_cp (pc' := 32) Bh1 (hp_runV (As := [.int v1_h1, .int (ms_E σh1 42 (v2_h1).toNatClampNeg), .int (ms_E σh1 43 (v2_h1).toNatClampNeg)]) (rest := [.int v2_h1, .ref (ρ 44)]) C Bh1 (m_X12_treeMark n 40 Γ l αh1 a0 ρ σh1 Mh1 v1_h1 (ms_E σh1 42 (v2_h1).toNatClampNeg) (ms_E σh1 43 (v2_h1).toNatClampNeg) rh5 qh5) lb_X12_treeMark lv_X12_treeMark lk_X12_132 Mh1.1 rfl (by decide) rfl hl.1 rfl (Nat.le_of_ble_eq_true rfl) dX12_fetches_29 ⟨Nat.le_refl _, Nat.le_refl _⟩) rfl (fun Hh5 Lh5 Bh5 => ?_)
        obtain ⟨g6, hf⟩ := ms_gE hf
        refine m_ias (κ := 44) (φ := 656) (n := 128) (pc' := 33) C Bh5 Mh1 (by decide) (by decide) rfl g6 dX12_fetches_32 rfl (fun αh7 Hh7 Lh7 σh7 eh7 Bh7 Mh7 => ?_)
        replace hf := ms_lE eh7 hf
        obtain ⟨x8, ex8⟩ : ∃ y : Int32, y = v2_h1 + 1 := ⟨_, rfl⟩
        replace hf := ms_lE ex8 hf
        refine lv_iinc (v := x8) (lv' := [(2, .int x8), (0, .ref a0), (1, .int v1_h1)]) hx hb dX12_fetches_33 hl (k := 2) rfl (by rw [ex8]; rfl) (by decide) rfl (fun ls hl => hp_n (n := 36) rfl ?_)
        refine lv_goto (tgt := 2) hx hb dX12_fetches_36 (by decide) ?_
        exact ih2 αh7 Hh7 Lh7 Bh7 σh7 Mh7 v1_h1 x8 ls (lv_sub hl [1, 2, 0] rfl) hf
  refine lv_istore_n (lv' := [(2, .int (0 : Int32)), (0, .ref a0), (1, .int a1)]) hx hb dX12_fetches_1 rfl hl (by decide) rfl (fun ls hl => hp_n (n := 2) rfl ?_)
  exact J2 n α s.heap [] B σ hM a1 (0 : Int32) ls (lv_sub hl [1, 2, 0] rfl) hf
def f_X12_pads_L7 (n : Nat) : Nat → ms_T → Int32 → Option (Int32 × ms_T)
  | 0, _, _ => none
  | k7 + 1, σh2, v2_h2 =>
    if (ms_I σh2 657) ≤ v2_h2 then
      ms_g (2 : Int32) 1980 <|
      ms_l (ms_sE σh2 40 ((2 : Int32)).toNatClampNeg (ms_I σh2 657)) fun σh5 =>
      some ((ms_I σh5 657), σh5)
    else
      ms_g v2_h2 128 <|
      ms_g ((8 : Int32) + v2_h2) 1980 <|
      ms_l (ms_sE σh2 40 (((8 : Int32) + v2_h2)).toNatClampNeg (ms_E σh2 44 (v2_h2).toNatClampNeg)) fun σh8 =>
      ms_l (v2_h2 + 1) fun x9 =>
      (f_X12_pads_L7 n k7) σh8 x9
def f_X12_pads (n : Nat) (σ : ms_T) (a1 : Int32) : Option (Int32 × ms_T) :=
  ms_b (f_X12_fetches n σ a1) fun σh1 =>
  f_X12_pads_L7 n n σh1 (0 : Int32)
set_option maxRecDepth 100000 in
set_option maxHeartbeats 4000000 in
theorem m_X12_pads (n : Nat) (Γ : hp_G) (l : Launch) (α : hp_T) (a0 : Nat) (ρ : Nat → Nat) (σ : ms_T) (hM : hm_M α a0 ρ σ) (a1 : Int32) (res : (Int32 × ms_T)) (hf : f_X12_pads n σ a1 = some res) : Met l yX12_pads (hp_ws yX12_pads cX12_pads 3 (some .int)) (hp_rm 43 0 0) (hp_Pc Γ α [.ref a0, .int a1]) (hp_Qi Γ (fun r β => r = res.1 ∧ mo α β ∧ hm_M β a0 ρ res.2)) 0 0 (hp_A Γ) := by
  unfold f_X12_pads at hf
  refine hp_start (by decide) ?_
  intro p e s m below meth c C hr hlk B0 hnm
  have C : hp_C Γ p m c cX12_pads 3 s ([.ref a0, .int a1] : List Value).toArray RX12 := C
  have hx := C.1.1
  have hb := C.1.2.1
  have hown := C.1.2.2.2.1
  have hts := C.1.2.2.2.2
  have B : hp_B Γ mo s α α s.heap [] := ⟨B0.1, B0.2.1, mo_rf⟩
  have hl := lv_entry ([.ref a0, .int a1]) (n := 3) (Nat.le_of_ble_eq_true rfl)
  show W p l e (hp_rm 43 0 0) s m ([.ref a0, .int a1] : List Value).toArray below meth c s.heap [] 0 0 (MQ below (hp_Qi Γ (fun r β => r = res.1 ∧ mo α β ∧ hm_M β a0 ρ res.2)) ([.ref a0, .int a1] : List Value).toArray s 0 0 (hp_A Γ)) (entryFrame m ([.ref a0, .int a1] : List Value).toArray 3)
  rw [lg_entry_eq]
  generalize (lg_sl ([.ref a0, .int a1]) ++ List.replicate (3 - (lg_sl ([.ref a0, .int a1])).length) Slot.unset).toArray = ls at hl ⊢
  have hl : lv_has ls 3 [(0, .ref a0), (1, .int a1)] := hl
  refine lv_aload_n hx hb dX12_pads_0 rfl (lv_at hl 0 rfl) (hp_n (n := 1) rfl ?_)
  refine lv_iload_n hx hb dX12_pads_1 rfl (lv_at hl 1 rfl) (hp_n (n := 2) rfl ?_)
  obtain ⟨σh1, qh1, hf⟩ := ms_bE hf
  refine m_cv (pc' := 5) (a := a0) (ρ := ρ) B (hp_runV (As := [.int a1]) (rest := []) C B (m_X12_fetches n Γ l α a0 ρ σ hM a1 σh1 qh1) lb_X12_fetches lv_X12_fetches lk_X12_161 hM.1 rfl (by decide) rfl hl.1 rfl (Nat.le_of_ble_eq_true rfl) dX12_pads_2 ⟨Nat.le_refl _, Nat.le_refl _⟩) rfl (fun αh1 Hh1 Lh1 Bh1 Mh1 => ?_)
  refine lv_iconst (v := 0) hx hb dX12_pads_5 (by decide) (hp_n (n := 6) rfl ?_)
  have J7 : ∀ (k7 : Nat) (αh2 : hp_T) (Hh2 : Heap) (Lh2 : List Loc) (Bh2 : hp_B Γ mo s α αh2 Hh2 Lh2) (σh2 : ms_T) (Mh2 : hm_M αh2 a0 ρ σh2) (v2_h2 : Int32) (ls : Array Slot) (hl : lv_has ls 3 [(0, .ref a0), (2, .int v2_h2)]) (hf : f_X12_pads_L7 n k7 σh2 v2_h2 = some res), W p l e (hp_rm 43 0 0) s m ([.ref a0, .int a1] : List Value).toArray below meth c Hh2 Lh2 0 0 (MQ below (hp_Qi Γ (fun r β => r = res.1 ∧ mo α β ∧ hm_M β a0 ρ res.2)) ([.ref a0, .int a1] : List Value).toArray s 0 0 (hp_A Γ)) (F0 m 7 ls []) := by
    intro k7
    induction k7 with
    | zero => intro αh2 Hh2 Lh2 Bh2 σh2 Mh2 v2_h2 ls hl hf; rw [f_X12_pads_L7.eq_1] at hf; cases hf
    | succ k7 ih7 =>
      intro αh2 Hh2 Lh2 Bh2 σh2 Mh2 v2_h2 ls hl hf
      rw [f_X12_pads_L7.eq_2] at hf
      refine lv_iload_n hx hb dX12_pads_7 rfl (lv_at hl 1 rfl) (hp_n (n := 8) rfl ?_)
      refine lv_aload_n hx hb dX12_pads_8 rfl (lv_at hl 0 rfl) (hp_n (n := 9) rfl ?_)
      refine m_geti (k := 7) (φ := 657) (pc' := 12) C Bh2 Mh2 fl_X12_139 rfl rfl dX12_pads_9 rfl ?_
      refine lv_icmp_ge (tgt := 36) hx hb dX12_pads_12 (by decide) (fun c3 => ?_) (fun c3 => hp_n (n := 15) rfl ?_)
      ·
        replace hf := ms_iT c3 hf
        refine lv_aload_n hx hb dX12_pads_36 rfl (lv_at hl 0 rfl) (hp_n (n := 37) rfl ?_)
        refine m_getr (κ := 40) (k := 0) (pc' := 40) C Bh2 Mh2 fl_X12_7 rfl (by decide) dX12_pads_37 rfl ?_
        refine lv_iconst (v := 2) hx hb dX12_pads_40 (by decide) (hp_n (n := 41) rfl ?_)
        refine lv_aload_n hx hb dX12_pads_41 rfl (lv_at hl 0 rfl) (hp_n (n := 42) rfl ?_)
        refine m_geti (k := 7) (φ := 657) (pc' := 45) C Bh2 Mh2 fl_X12_139 rfl rfl dX12_pads_42 rfl ?_
        obtain ⟨g4, hf⟩ := ms_gE hf
        refine m_ias (κ := 40) (φ := 650) (n := 1980) (pc' := 46) C Bh2 Mh2 (by decide) (by decide) rfl g4 dX12_pads_45 rfl (fun αh5 Hh5 Lh5 σh5 eh5 Bh5 Mh5 => ?_)
        replace hf := ms_lE eh5 hf
        refine lv_aload_n hx hb dX12_pads_46 rfl (lv_at hl 0 rfl) (hp_n (n := 47) rfl ?_)
        refine m_geti (k := 7) (φ := 657) (pc' := 50) C Bh5 Mh5 fl_X12_139 rfl rfl dX12_pads_47 rfl ?_
        cases hf
        exact q_iret C Bh5 hr hlk ⟨rfl, Bh5.2.2, Mh5⟩ dX12_pads_50
      ·
        replace hf := ms_iF c3 hf
        refine lv_aload_n hx hb dX12_pads_15 rfl (lv_at hl 0 rfl) (hp_n (n := 16) rfl ?_)
        refine m_getr (κ := 40) (k := 0) (pc' := 19) C Bh2 Mh2 fl_X12_7 rfl (by decide) dX12_pads_16 rfl ?_
        refine lv_bipush (v := 8) hx hb dX12_pads_19 (by decide) (hp_n (n := 21) rfl ?_)
        refine lv_iload_n hx hb dX12_pads_21 rfl (lv_at hl 1 rfl) (hp_n (n := 22) rfl ?_)
        refine lv_iadd hx hb dX12_pads_22 (hp_n (n := 23) rfl ?_)
        refine lv_aload_n hx hb dX12_pads_23 rfl (lv_at hl 0 rfl) (hp_n (n := 24) rfl ?_)
        refine m_getr (κ := 44) (k := 6) (pc' := 27) C Bh2 Mh2 fl_X12_22 rfl (by decide) dX12_pads_24 rfl ?_
        refine lv_iload_n hx hb dX12_pads_27 rfl (lv_at hl 1 rfl) (hp_n (n := 28) rfl ?_)
        obtain ⟨g6, hf⟩ := ms_gE hf
        refine m_ial (κ := 44) (φ := 656) (n := 128) (pc' := 29) C Bh2 Mh2 (by decide) (by decide) rfl g6 dX12_pads_28 rfl ?_
        obtain ⟨g7, hf⟩ := ms_gE hf
        refine m_ias (κ := 40) (φ := 650) (n := 1980) (pc' := 30) C Bh2 Mh2 (by decide) (by decide) rfl g7 dX12_pads_29 rfl (fun αh8 Hh8 Lh8 σh8 eh8 Bh8 Mh8 => ?_)
        replace hf := ms_lE eh8 hf
        obtain ⟨x9, ex9⟩ : ∃ y : Int32, y = v2_h2 + 1 := ⟨_, rfl⟩
        replace hf := ms_lE ex9 hf
        refine lv_iinc (v := x9) (lv' := [(2, .int x9), (0, .ref a0)]) hx hb dX12_pads_30 hl (k := 1) rfl (by rw [ex9]; rfl) (by decide) rfl (fun ls hl => hp_n (n := 33) rfl ?_)
        refine lv_goto (tgt := 7) hx hb dX12_pads_33 (by decide) ?_
        exact ih7 αh8 Hh8 Lh8 Bh8 σh8 Mh8 x9 ls (lv_sub hl [1, 0] rfl) hf
  refine lv_istore_n (lv' := [(2, .int (0 : Int32)), (0, .ref a0), (1, .int a1)]) hx hb dX12_pads_6 rfl hl (by decide) rfl (fun ls hl => hp_n (n := 7) rfl ?_)
  exact J7 n αh1 Hh1 Lh1 Bh1 σh1 Mh1 (0 : Int32) ls (lv_sub hl [1, 0] rfl) hf
def f_X12_fromPad_L2 (n : Nat) : Nat → ms_T → Int32 → Option (Int32 × ms_T)
  | 0, _, _ => none
  | k2 + 1, σh1, v1_h1 =>
    ms_g (2 : Int32) 1980 <|
    if (ms_E σh1 40 ((2 : Int32)).toNatClampNeg) ≤ v1_h1 then
      ms_g (2 : Int32) 1980 <|
      some ((ms_E σh1 40 ((2 : Int32)).toNatClampNeg), σh1)
    else
      ms_g ((8 : Int32) + v1_h1) 1980 <|
      ms_g v1_h1 128 <|
      ms_l (ms_sE σh1 44 (v1_h1).toNatClampNeg (ms_E σh1 40 (((8 : Int32) + v1_h1)).toNatClampNeg)) fun σh7 =>
      ms_l (v1_h1 + 1) fun x8 =>
      (f_X12_fromPad_L2 n k2) σh7 x8
def f_X12_fromPad (n : Nat) (σ : ms_T) : Option (Int32 × ms_T) :=
  f_X12_fromPad_L2 n n σ (0 : Int32)
set_option maxRecDepth 100000 in
set_option maxHeartbeats 4000000 in
theorem m_X12_fromPad (n : Nat) (Γ : hp_G) (l : Launch) (α : hp_T) (a0 : Nat) (ρ : Nat → Nat) (σ : ms_T) (hM : hm_M α a0 ρ σ)  (res : (Int32 × ms_T)) (hf : f_X12_fromPad n σ = some res) : Met l yX12_fromPad (hp_ws yX12_fromPad cX12_fromPad 2 (some .int)) (hp_rm 0 0 0) (hp_Pc Γ α [.ref a0]) (hp_Qi Γ (fun r β => r = res.1 ∧ mo α β ∧ hm_M β a0 ρ res.2)) 0 0 (hp_A Γ) := by
  unfold f_X12_fromPad at hf
  refine hp_start (by decide) ?_
  intro p e s m below meth c C hr hlk B0 hnm
  have C : hp_C Γ p m c cX12_fromPad 2 s ([.ref a0] : List Value).toArray RX12 := C
  have hx := C.1.1
  have hb := C.1.2.1
  have hown := C.1.2.2.2.1
  have hts := C.1.2.2.2.2
  have B : hp_B Γ mo s α α s.heap [] := ⟨B0.1, B0.2.1, mo_rf⟩
  have hl := lv_entry ([.ref a0]) (n := 2) (Nat.le_of_ble_eq_true rfl)
  show W p l e (hp_rm 0 0 0) s m ([.ref a0] : List Value).toArray below meth c s.heap [] 0 0 (MQ below (hp_Qi Γ (fun r β => r = res.1 ∧ mo α β ∧ hm_M β a0 ρ res.2)) ([.ref a0] : List Value).toArray s 0 0 (hp_A Γ)) (entryFrame m ([.ref a0] : List Value).toArray 2)
  rw [lg_entry_eq]
  generalize (lg_sl ([.ref a0]) ++ List.replicate (2 - (lg_sl ([.ref a0])).length) Slot.unset).toArray = ls at hl ⊢
  have hl : lv_has ls 2 [(0, .ref a0)] := hl
  refine lv_iconst (v := 0) hx hb dX12_fromPad_0 (by decide) (hp_n (n := 1) rfl ?_)
  have J2 : ∀ (k2 : Nat) (αh1 : hp_T) (Hh1 : Heap) (Lh1 : List Loc) (Bh1 : hp_B Γ mo s α αh1 Hh1 Lh1) (σh1 : ms_T) (Mh1 : hm_M αh1 a0 ρ σh1) (v1_h1 : Int32) (ls : Array Slot) (hl : lv_has ls 2 [(0, .ref a0), (1, .int v1_h1)]) (hf : f_X12_fromPad_L2 n k2 σh1 v1_h1 = some res), W p l e (hp_rm 0 0 0) s m ([.ref a0] : List Value).toArray below meth c Hh1 Lh1 0 0 (MQ below (hp_Qi Γ (fun r β => r = res.1 ∧ mo α β ∧ hm_M β a0 ρ res.2)) ([.ref a0] : List Value).toArray s 0 0 (hp_A Γ)) (F0 m 2 ls []) := by
    intro k2
    induction k2 with
    | zero => intro αh1 Hh1 Lh1 Bh1 σh1 Mh1 v1_h1 ls hl hf; rw [f_X12_fromPad_L2.eq_1] at hf; cases hf
    | succ k2 ih2 =>
      intro αh1 Hh1 Lh1 Bh1 σh1 Mh1 v1_h1 ls hl hf
      rw [f_X12_fromPad_L2.eq_2] at hf
      refine lv_iload_n hx hb dX12_fromPad_2 rfl (lv_at hl 1 rfl) (hp_n (n := 3) rfl ?_)
      refine lv_aload_n hx hb dX12_fromPad_3 rfl (lv_at hl 0 rfl) (hp_n (n := 4) rfl ?_)
      refine m_getr (κ := 40) (k := 0) (pc' := 7) C Bh1 Mh1 fl_X12_7 rfl (by decide) dX12_fromPad_4 rfl ?_
      refine lv_iconst (v := 2) hx hb dX12_fromPad_7 (by decide) (hp_n (n := 8) rfl ?_)
      obtain ⟨g2, hf⟩ := ms_gE hf
      refine m_ial (κ := 40) (φ := 650) (n := 1980) (pc' := 9) C Bh1 Mh1 (by decide) (by decide) rfl g2 dX12_fromPad_8 rfl ?_
      refine lv_icmp_ge (tgt := 33) hx hb dX12_fromPad_9 (by decide) (fun c3 => ?_) (fun c3 => hp_n (n := 12) rfl ?_)
      ·
        replace hf := ms_iT c3 hf
        refine lv_aload_n hx hb dX12_fromPad_33 rfl (lv_at hl 0 rfl) (hp_n (n := 34) rfl ?_)
        refine m_getr (κ := 40) (k := 0) (pc' := 37) C Bh1 Mh1 fl_X12_7 rfl (by decide) dX12_fromPad_34 rfl ?_
        refine lv_iconst (v := 2) hx hb dX12_fromPad_37 (by decide) (hp_n (n := 38) rfl ?_)
        obtain ⟨g4, hf⟩ := ms_gE hf
        refine m_ial (κ := 40) (φ := 650) (n := 1980) (pc' := 39) C Bh1 Mh1 (by decide) (by decide) rfl g4 dX12_fromPad_38 rfl ?_
        cases hf
        exact q_iret C Bh1 hr hlk ⟨rfl, Bh1.2.2, Mh1⟩ dX12_fromPad_39
      ·
        replace hf := ms_iF c3 hf
        refine lv_aload_n hx hb dX12_fromPad_12 rfl (lv_at hl 0 rfl) (hp_n (n := 13) rfl ?_)
        refine m_getr (κ := 44) (k := 6) (pc' := 16) C Bh1 Mh1 fl_X12_22 rfl (by decide) dX12_fromPad_13 rfl ?_
        refine lv_iload_n hx hb dX12_fromPad_16 rfl (lv_at hl 1 rfl) (hp_n (n := 17) rfl ?_)
        refine lv_aload_n hx hb dX12_fromPad_17 rfl (lv_at hl 0 rfl) (hp_n (n := 18) rfl ?_)
        refine m_getr (κ := 40) (k := 0) (pc' := 21) C Bh1 Mh1 fl_X12_7 rfl (by decide) dX12_fromPad_18 rfl ?_
        refine lv_bipush (v := 8) hx hb dX12_fromPad_21 (by decide) (hp_n (n := 23) rfl ?_)
        refine lv_iload_n hx hb dX12_fromPad_23 rfl (lv_at hl 1 rfl) (hp_n (n := 24) rfl ?_)
        refine lv_iadd hx hb dX12_fromPad_24 (hp_n (n := 25) rfl ?_)
        obtain ⟨g5, hf⟩ := ms_gE hf
        refine m_ial (κ := 40) (φ := 650) (n := 1980) (pc' := 26) C Bh1 Mh1 (by decide) (by decide) rfl g5 dX12_fromPad_25 rfl ?_
        obtain ⟨g6, hf⟩ := ms_gE hf
        refine m_ias (κ := 44) (φ := 656) (n := 128) (pc' := 27) C Bh1 Mh1 (by decide) (by decide) rfl g6 dX12_fromPad_26 rfl (fun αh7 Hh7 Lh7 σh7 eh7 Bh7 Mh7 => ?_)
        replace hf := ms_lE eh7 hf
        obtain ⟨x8, ex8⟩ : ∃ y : Int32, y = v1_h1 + 1 := ⟨_, rfl⟩
        replace hf := ms_lE ex8 hf
        refine lv_iinc (v := x8) (lv' := [(1, .int x8), (0, .ref a0)]) hx hb dX12_fromPad_27 hl (k := 1) rfl (by rw [ex8]; rfl) (by decide) rfl (fun ls hl => hp_n (n := 30) rfl ?_)
        refine lv_goto (tgt := 2) hx hb dX12_fromPad_30 (by decide) ?_
        exact ih2 αh7 Hh7 Lh7 Bh7 σh7 Mh7 x8 ls (lv_sub hl [1, 0] rfl) hf
  refine lv_istore_n (lv' := [(1, .int (0 : Int32)), (0, .ref a0)]) hx hb dX12_fromPad_1 rfl hl (by decide) rfl (fun ls hl => hp_n (n := 2) rfl ?_)
  exact J2 n α s.heap [] B σ hM (0 : Int32) ls (lv_sub hl [1, 0] rfl) hf
def f_X12_foldsIn (n : Nat) : Nat → ms_T → Int32 → Int32 → Int32 → Option (Int32 × ms_T)
  | 0, _, _, _, _ => none
  | d + 1, σ, a1, a2, a3 =>
    if a3 = (1 : Int32) then
      some (a1, σ)
    else
      ms_b (f_X12_part0 n a3) fun rh2 =>
      if rh2 ≤ a2 then
        ms_c ((f_X12_foldsIn n d) σ a1 (a2 - rh2) (a3 - rh2)) fun rh4 σh4 =>
        ms_l (ms_sI σh4 658 ((ms_I σh4 658) + (1 : Int32))) fun σh5 =>
        ms_g ((ms_I σh5 658) - (1 : Int32)) 128 <|
        ms_b (f_X12_both n σh5 (ms_E σh5 44 (((ms_I σh5 658) - (1 : Int32))).toNatClampNeg) rh4) fun rh7 =>
        some (rh7, σh5)
      else
        ms_c ((f_X12_foldsIn n d) σ a1 a2 rh2) fun rh8 σh8 =>
        ms_l (ms_sI σh8 658 ((ms_I σh8 658) + (1 : Int32))) fun σh9 =>
        ms_g ((ms_I σh9 658) - (1 : Int32)) 128 <|
        ms_b (f_X12_both n σh9 rh8 (ms_E σh9 44 (((ms_I σh9 658) - (1 : Int32))).toNatClampNeg)) fun rh11 =>
        some (rh11, σh9)
set_option maxRecDepth 100000 in
set_option maxHeartbeats 4000000 in
theorem m_X12_foldsIn (n : Nat) : ∀ (d : Nat) (Γ : hp_G) (l : Launch) (α : hp_T) (a0 : Nat) (ρ : Nat → Nat) (σ : ms_T) (hM : hm_M α a0 ρ σ) (a1 : Int32) (a2 : Int32) (a3 : Int32) (res : (Int32 × ms_T)) (hf : f_X12_foldsIn n d σ a1 a2 a3 = some res), Met l yX12_foldsIn (hp_ws yX12_foldsIn cX12_foldsIn 6 (some .int)) (hp_rm (d + 1) 0 0) (hp_Pc Γ α [.ref a0, .int a1, .int a2, .int a3]) (hp_Qi Γ (fun r β => r = res.1 ∧ mo α β ∧ hm_M β a0 ρ res.2)) 0 0 (hp_A Γ) := by
  intro d
  induction d with
  | zero => intro Γ l α a0 ρ σ hM a1 a2 a3 res hf; rw [f_X12_foldsIn.eq_1] at hf; cases hf
  | succ d ihM =>
    intro Γ l α a0 ρ σ hM a1 a2 a3 res hf
    rw [f_X12_foldsIn.eq_2] at hf
    refine hp_start (by decide) ?_
    intro p e s m below meth c C hr hlk B0 hnm
    have C : hp_C Γ p m c cX12_foldsIn 6 s ([.ref a0, .int a1, .int a2, .int a3] : List Value).toArray RX12 := C
    have hx := C.1.1
    have hb := C.1.2.1
    have hown := C.1.2.2.2.1
    have hts := C.1.2.2.2.2
    have B : hp_B Γ mo s α α s.heap [] := ⟨B0.1, B0.2.1, mo_rf⟩
    have hl := lv_entry ([.ref a0, .int a1, .int a2, .int a3]) (n := 6) (Nat.le_of_ble_eq_true rfl)
    show W p l e (hp_rm (d + 1 + 1) 0 0) s m ([.ref a0, .int a1, .int a2, .int a3] : List Value).toArray below meth c s.heap [] 0 0 (MQ below (hp_Qi Γ (fun r β => r = res.1 ∧ mo α β ∧ hm_M β a0 ρ res.2)) ([.ref a0, .int a1, .int a2, .int a3] : List Value).toArray s 0 0 (hp_A Γ)) (entryFrame m ([.ref a0, .int a1, .int a2, .int a3] : List Value).toArray 6)
    rw [lg_entry_eq]
    generalize (lg_sl ([.ref a0, .int a1, .int a2, .int a3]) ++ List.replicate (6 - (lg_sl ([.ref a0, .int a1, .int a2, .int a3])).length) Slot.unset).toArray = ls at hl ⊢
    have hl : lv_has ls 6 [(0, .ref a0), (1, .int a1), (2, .int a2), (3, .int a3)] := hl
    refine lv_iload_n hx hb dX12_foldsIn_0 rfl (lv_at hl 3 rfl) (hp_n (n := 1) rfl ?_)
    refine lv_iconst (v := 1) hx hb dX12_foldsIn_1 (by decide) (hp_n (n := 2) rfl ?_)
    refine lv_icmp_ne (tgt := 7) hx hb dX12_foldsIn_2 (by decide) (fun c1 => ?_) (fun c1 => hp_n (n := 5) rfl ?_)
    ·
      replace hf := ms_iF c1 hf
      refine lv_iload_n hx hb dX12_foldsIn_7 rfl (lv_at hl 3 rfl) (hp_n (n := 8) rfl ?_)
      obtain ⟨rh2, qh2, hf⟩ := ms_bE hf
      refine m_cp (pc' := 11) B (hp_runS (As := [.int a3]) (rest := []) C B (m_X12_part0 n Γ l α a3 rh2 qh2) lb_X12_part0 ls_X12_part0 lk_X12_128 rfl (by omega) rfl hl.1 rfl (Nat.le_of_ble_eq_true rfl) dX12_foldsIn_8 ⟨Nat.le_refl _, Nat.le_refl _⟩) rfl (fun Hh2 Lh2 Bh2 => ?_)
      refine lv_istore (lv' := [(4, .int rh2), (0, .ref a0), (1, .int a1), (2, .int a2), (3, .int a3)]) hx hb dX12_foldsIn_11 hl (by decide) rfl (fun ls hl => hp_n (n := 13) rfl ?_)
      refine lv_iload_n hx hb dX12_foldsIn_13 rfl (lv_at hl 3 rfl) (hp_n (n := 14) rfl ?_)
      refine lv_iload hx hb dX12_foldsIn_14 (lv_at hl 0 rfl) (hp_n (n := 16) rfl ?_)
      refine lv_icmp_ge (tgt := 57) hx hb dX12_foldsIn_16 (by decide) (fun c3 => ?_) (fun c3 => hp_n (n := 19) rfl ?_)
      ·
        replace hf := ms_iT c3 hf
        refine lv_aload_n hx hb dX12_foldsIn_57 rfl (lv_at hl 1 rfl) (hp_n (n := 58) rfl ?_)
        refine lv_iload_n hx hb dX12_foldsIn_58 rfl (lv_at hl 2 rfl) (hp_n (n := 59) rfl ?_)
        refine lv_iload_n hx hb dX12_foldsIn_59 rfl (lv_at hl 3 rfl) (hp_n (n := 60) rfl ?_)
        refine lv_iload hx hb dX12_foldsIn_60 (lv_at hl 0 rfl) (hp_n (n := 62) rfl ?_)
        refine lv_isub hx hb dX12_foldsIn_62 (hp_n (n := 63) rfl ?_)
        refine lv_iload_n hx hb dX12_foldsIn_63 rfl (lv_at hl 4 rfl) (hp_n (n := 64) rfl ?_)
        refine lv_iload hx hb dX12_foldsIn_64 (lv_at hl 0 rfl) (hp_n (n := 66) rfl ?_)
        refine lv_isub hx hb dX12_foldsIn_66 (hp_n (n := 67) rfl ?_)
        obtain ⟨rh4, σh4, qh4, hf⟩ := ms_cE hf
        refine m_ci (pc' := 70) (a := a0) (ρ := ρ) Bh2 (hp_runV (As := [.int a1, .int (a2 - rh2), .int (a3 - rh2)]) (rest := []) C Bh2 (ihM Γ l α a0 ρ σ hM a1 (a2 - rh2) (a3 - rh2) (rh4, σh4) qh4) lb_X12_foldsIn lv_X12_foldsIn lk_X12_165 hM.1 rfl (by omega) rfl hl.1 rfl (Nat.le_of_ble_eq_true rfl) dX12_foldsIn_67 ⟨Nat.le_refl _, Nat.le_refl _⟩) rfl (fun αh4 Hh4 Lh4 Bh4 Mh4 => ?_)
        refine lv_istore (lv' := [(5, .int rh4), (4, .int rh2), (0, .ref a0), (1, .int a1), (2, .int a2), (3, .int a3)]) hx hb dX12_foldsIn_70 hl (by decide) rfl (fun ls hl => hp_n (n := 72) rfl ?_)
        refine lv_aload_n hx hb dX12_foldsIn_72 rfl (lv_at hl 2 rfl) (hp_n (n := 73) rfl ?_)
        refine lv_dup hx hb dX12_foldsIn_73 rfl (hp_n (n := 74) rfl ?_)
        refine m_geti (k := 8) (φ := 658) (pc' := 77) C Bh4 Mh4 fl_X12_168 rfl rfl dX12_foldsIn_74 rfl ?_
        refine lv_iconst (v := 1) hx hb dX12_foldsIn_77 (by decide) (hp_n (n := 78) rfl ?_)
        refine lv_iadd hx hb dX12_foldsIn_78 (hp_n (n := 79) rfl ?_)
        refine m_puti (k := 8) (φ := 658) (pc' := 82) C Bh4 Mh4 fl_X12_168 rfl rfl rfl rfl rfl dX12_foldsIn_79 rfl (fun αh5 Hh5 Lh5 σh5 eh5 Bh5 Mh5 => ?_)
        replace hf := ms_lE eh5 hf
        refine lv_aload_n hx hb dX12_foldsIn_82 rfl (lv_at hl 2 rfl) (hp_n (n := 83) rfl ?_)
        refine lv_aload_n hx hb dX12_foldsIn_83 rfl (lv_at hl 2 rfl) (hp_n (n := 84) rfl ?_)
        refine m_getr (κ := 44) (k := 6) (pc' := 87) C Bh5 Mh5 fl_X12_22 rfl (by decide) dX12_foldsIn_84 rfl ?_
        refine lv_aload_n hx hb dX12_foldsIn_87 rfl (lv_at hl 2 rfl) (hp_n (n := 88) rfl ?_)
        refine m_geti (k := 8) (φ := 658) (pc' := 91) C Bh5 Mh5 fl_X12_168 rfl rfl dX12_foldsIn_88 rfl ?_
        refine lv_iconst (v := 1) hx hb dX12_foldsIn_91 (by decide) (hp_n (n := 92) rfl ?_)
        refine lv_isub hx hb dX12_foldsIn_92 (hp_n (n := 93) rfl ?_)
        obtain ⟨g6, hf⟩ := ms_gE hf
        refine m_ial (κ := 44) (φ := 656) (n := 128) (pc' := 94) C Bh5 Mh5 (by decide) (by decide) rfl g6 dX12_foldsIn_93 rfl ?_
        refine lv_iload hx hb dX12_foldsIn_94 (lv_at hl 0 rfl) (hp_n (n := 96) rfl ?_)
        obtain ⟨rh7, qh7, hf⟩ := ms_bE hf
        refine m_cp (pc' := 99) Bh5 (hp_runV (As := [.int (ms_E σh5 44 (((ms_I σh5 658) - (1 : Int32))).toNatClampNeg), .int rh4]) (rest := []) C Bh5 (m_X12_both n Γ l αh5 a0 ρ σh5 Mh5 (ms_E σh5 44 (((ms_I σh5 658) - (1 : Int32))).toNatClampNeg) rh4 rh7 qh7) lb_X12_both lv_X12_both lk_X12_136 Mh5.1 rfl (by omega) rfl hl.1 rfl (Nat.le_of_ble_eq_true rfl) dX12_foldsIn_96 ⟨Nat.le_refl _, Nat.le_refl _⟩) rfl (fun Hh7 Lh7 Bh7 => ?_)
        cases hf
        exact q_iret C Bh7 hr hlk ⟨rfl, Bh7.2.2, Mh5⟩ dX12_foldsIn_99
      ·
        replace hf := ms_iF c3 hf
        refine lv_aload_n hx hb dX12_foldsIn_19 rfl (lv_at hl 1 rfl) (hp_n (n := 20) rfl ?_)
        refine lv_iload_n hx hb dX12_foldsIn_20 rfl (lv_at hl 2 rfl) (hp_n (n := 21) rfl ?_)
        refine lv_iload_n hx hb dX12_foldsIn_21 rfl (lv_at hl 3 rfl) (hp_n (n := 22) rfl ?_)
        refine lv_iload hx hb dX12_foldsIn_22 (lv_at hl 0 rfl) (hp_n (n := 24) rfl ?_)
        obtain ⟨rh8, σh8, qh8, hf⟩ := ms_cE hf
        refine m_ci (pc' := 27) (a := a0) (ρ := ρ) Bh2 (hp_runV (As := [.int a1, .int a2, .int rh2]) (rest := []) C Bh2 (ihM Γ l α a0 ρ σ hM a1 a2 rh2 (rh8, σh8) qh8) lb_X12_foldsIn lv_X12_foldsIn lk_X12_165 hM.1 rfl (by omega) rfl hl.1 rfl (Nat.le_of_ble_eq_true rfl) dX12_foldsIn_24 ⟨Nat.le_refl _, Nat.le_refl _⟩) rfl (fun αh8 Hh8 Lh8 Bh8 Mh8 => ?_)
        refine lv_istore (lv' := [(5, .int rh8), (4, .int rh2), (0, .ref a0), (1, .int a1), (2, .int a2), (3, .int a3)]) hx hb dX12_foldsIn_27 hl (by decide) rfl (fun ls hl => hp_n (n := 29) rfl ?_)
        refine lv_aload_n hx hb dX12_foldsIn_29 rfl (lv_at hl 2 rfl) (hp_n (n := 30) rfl ?_)
        refine lv_dup hx hb dX12_foldsIn_30 rfl (hp_n (n := 31) rfl ?_)
        refine m_geti (k := 8) (φ := 658) (pc' := 34) C Bh8 Mh8 fl_X12_168 rfl rfl dX12_foldsIn_31 rfl ?_
        refine lv_iconst (v := 1) hx hb dX12_foldsIn_34 (by decide) (hp_n (n := 35) rfl ?_)
        refine lv_iadd hx hb dX12_foldsIn_35 (hp_n (n := 36) rfl ?_)
        refine m_puti (k := 8) (φ := 658) (pc' := 39) C Bh8 Mh8 fl_X12_168 rfl rfl rfl rfl rfl dX12_foldsIn_36 rfl (fun αh9 Hh9 Lh9 σh9 eh9 Bh9 Mh9 => ?_)
        replace hf := ms_lE eh9 hf
        refine lv_aload_n hx hb dX12_foldsIn_39 rfl (lv_at hl 2 rfl) (hp_n (n := 40) rfl ?_)
        refine lv_iload hx hb dX12_foldsIn_40 (lv_at hl 0 rfl) (hp_n (n := 42) rfl ?_)
        refine lv_aload_n hx hb dX12_foldsIn_42 rfl (lv_at hl 2 rfl) (hp_n (n := 43) rfl ?_)
        refine m_getr (κ := 44) (k := 6) (pc' := 46) C Bh9 Mh9 fl_X12_22 rfl (by decide) dX12_foldsIn_43 rfl ?_
        refine lv_aload_n hx hb dX12_foldsIn_46 rfl (lv_at hl 2 rfl) (hp_n (n := 47) rfl ?_)
        refine m_geti (k := 8) (φ := 658) (pc' := 50) C Bh9 Mh9 fl_X12_168 rfl rfl dX12_foldsIn_47 rfl ?_
        refine lv_iconst (v := 1) hx hb dX12_foldsIn_50 (by decide) (hp_n (n := 51) rfl ?_)
        refine lv_isub hx hb dX12_foldsIn_51 (hp_n (n := 52) rfl ?_)
        obtain ⟨g10, hf⟩ := ms_gE hf
        refine m_ial (κ := 44) (φ := 656) (n := 128) (pc' := 53) C Bh9 Mh9 (by decide) (by decide) rfl g10 dX12_foldsIn_52 rfl ?_
        obtain ⟨rh11, qh11, hf⟩ := ms_bE hf
        refine m_cp (pc' := 56) Bh9 (hp_runV (As := [.int rh8, .int (ms_E σh9 44 (((ms_I σh9 658) - (1 : Int32))).toNatClampNeg)]) (rest := []) C Bh9 (m_X12_both n Γ l αh9 a0 ρ σh9 Mh9 rh8 (ms_E σh9 44 (((ms_I σh9 658) - (1 : Int32))).toNatClampNeg) rh11 qh11) lb_X12_both lv_X12_both lk_X12_136 Mh9.1 rfl (by omega) rfl hl.1 rfl (Nat.le_of_ble_eq_true rfl) dX12_foldsIn_53 ⟨Nat.le_refl _, Nat.le_refl _⟩) rfl (fun Hh11 Lh11 Bh11 => ?_)
        cases hf
        exact q_iret C Bh11 hr hlk ⟨rfl, Bh11.2.2, Mh9⟩ dX12_foldsIn_56
    ·
      replace hf := ms_iT c1 hf
      refine lv_iload_n hx hb dX12_foldsIn_5 rfl (lv_at hl 1 rfl) (hp_n (n := 6) rfl ?_)
      cases hf
      exact q_iret C B hr hlk ⟨rfl, B.2.2, hM⟩ dX12_foldsIn_6
def f_X12_folded (n : Nat) (σ : ms_T) (a1 : Int32) (a2 : Int32) (a3 : Int32) : Option (Int32 × ms_T) :=
  ms_l (ms_sI σ 658 (0 : Int32)) fun σh1 =>
  ms_c (f_X12_foldsIn n 40 σh1 a1 a2 a3) fun rh2 σh2 =>
  some (rh2, σh2)
set_option maxRecDepth 100000 in
set_option maxHeartbeats 4000000 in
theorem m_X12_folded (n : Nat) (Γ : hp_G) (l : Launch) (α : hp_T) (a0 : Nat) (ρ : Nat → Nat) (σ : ms_T) (hM : hm_M α a0 ρ σ) (a1 : Int32) (a2 : Int32) (a3 : Int32) (res : (Int32 × ms_T)) (hf : f_X12_folded n σ a1 a2 a3 = some res) : Met l yX12_folded (hp_ws yX12_folded cX12_folded 4 (some .int)) (hp_rm 42 0 0) (hp_Pc Γ α [.ref a0, .int a1, .int a2, .int a3]) (hp_Qi Γ (fun r β => r = res.1 ∧ mo α β ∧ hm_M β a0 ρ res.2)) 0 0 (hp_A Γ) := by
  unfold f_X12_folded at hf
  refine hp_start (by decide) ?_
  intro p e s m below meth c C hr hlk B0 hnm
  have C : hp_C Γ p m c cX12_folded 4 s ([.ref a0, .int a1, .int a2, .int a3] : List Value).toArray RX12 := C
  have hx := C.1.1
  have hb := C.1.2.1
  have hown := C.1.2.2.2.1
  have hts := C.1.2.2.2.2
  have B : hp_B Γ mo s α α s.heap [] := ⟨B0.1, B0.2.1, mo_rf⟩
  have hl := lv_entry ([.ref a0, .int a1, .int a2, .int a3]) (n := 4) (Nat.le_of_ble_eq_true rfl)
  show W p l e (hp_rm 42 0 0) s m ([.ref a0, .int a1, .int a2, .int a3] : List Value).toArray below meth c s.heap [] 0 0 (MQ below (hp_Qi Γ (fun r β => r = res.1 ∧ mo α β ∧ hm_M β a0 ρ res.2)) ([.ref a0, .int a1, .int a2, .int a3] : List Value).toArray s 0 0 (hp_A Γ)) (entryFrame m ([.ref a0, .int a1, .int a2, .int a3] : List Value).toArray 4)
  rw [lg_entry_eq]
  generalize (lg_sl ([.ref a0, .int a1, .int a2, .int a3]) ++ List.replicate (4 - (lg_sl ([.ref a0, .int a1, .int a2, .int a3])).length) Slot.unset).toArray = ls at hl ⊢
  have hl : lv_has ls 4 [(0, .ref a0), (1, .int a1), (2, .int a2), (3, .int a3)] := hl
  refine lv_aload_n hx hb dX12_folded_0 rfl (lv_at hl 0 rfl) (hp_n (n := 1) rfl ?_)
  refine lv_iconst (v := 0) hx hb dX12_folded_1 (by decide) (hp_n (n := 2) rfl ?_)
  refine m_puti (k := 8) (φ := 658) (pc' := 5) C B hM fl_X12_168 rfl rfl rfl rfl rfl dX12_folded_2 rfl (fun αh1 Hh1 Lh1 σh1 eh1 Bh1 Mh1 => ?_)
  replace hf := ms_lE eh1 hf
  refine lv_aload_n hx hb dX12_folded_5 rfl (lv_at hl 0 rfl) (hp_n (n := 6) rfl ?_)
  refine lv_iload_n hx hb dX12_folded_6 rfl (lv_at hl 1 rfl) (hp_n (n := 7) rfl ?_)
  refine lv_iload_n hx hb dX12_folded_7 rfl (lv_at hl 2 rfl) (hp_n (n := 8) rfl ?_)
  refine lv_iload_n hx hb dX12_folded_8 rfl (lv_at hl 3 rfl) (hp_n (n := 9) rfl ?_)
  obtain ⟨rh2, σh2, qh2, hf⟩ := ms_cE hf
  refine m_ci (pc' := 12) (a := a0) (ρ := ρ) Bh1 (hp_runV (As := [.int a1, .int a2, .int a3]) (rest := []) C Bh1 (m_X12_foldsIn n 40 Γ l αh1 a0 ρ σh1 Mh1 a1 a2 a3 (rh2, σh2) qh2) lb_X12_foldsIn lv_X12_foldsIn lk_X12_165 Mh1.1 rfl (by decide) rfl hl.1 rfl (Nat.le_of_ble_eq_true rfl) dX12_folded_9 ⟨Nat.le_refl _, Nat.le_refl _⟩) rfl (fun αh2 Hh2 Lh2 Bh2 Mh2 => ?_)
  cases hf
  exact q_iret C Bh2 hr hlk ⟨rfl, Bh2.2.2, Mh2⟩ dX12_folded_12
def f_X12_why (n : Nat) (σ : ms_T) (a1 : Int32) (a2 : Int32) (a3 : Int32) : Option Int32 :=
  if a2 ≤ a1 then
    if a1 ≤ a2 then
      if a3 = 0 then
        some (3 : Int32)
      else
        some (0 : Int32)
    else
      some (2 : Int32)
  else
    some (1 : Int32)
set_option maxRecDepth 100000 in
set_option maxHeartbeats 4000000 in
theorem m_X12_why (n : Nat) (Γ : hp_G) (l : Launch) (α : hp_T) (a0 : Nat) (ρ : Nat → Nat) (σ : ms_T) (hM : hm_M α a0 ρ σ) (a1 : Int32) (a2 : Int32) (a3 : Int32) (res : Int32) (hf : f_X12_why n σ a1 a2 a3 = some res) : Met l yX12_why (hp_ws yX12_why cX12_why 4 (some .int)) (hp_rm 0 0 0) (hp_Pc Γ α [.ref a0, .int a1, .int a2, .int a3]) (hp_Qi Γ (fun r β => β = α ∧ r = res)) 0 0 (hp_A Γ) := by
  unfold f_X12_why at hf
  refine hp_start (by decide) ?_
  intro p e s m below meth c C hr hlk B0 hnm
  have C : hp_C Γ p m c cX12_why 4 s ([.ref a0, .int a1, .int a2, .int a3] : List Value).toArray RX12 := C
  have hx := C.1.1
  have hb := C.1.2.1
  have hown := C.1.2.2.2.1
  have hts := C.1.2.2.2.2
  have B : hp_B Γ (fun _ _ => True) s α α s.heap [] := ⟨B0.1, B0.2.1, trivial⟩
  have hl := lv_entry ([.ref a0, .int a1, .int a2, .int a3]) (n := 4) (Nat.le_of_ble_eq_true rfl)
  show W p l e (hp_rm 0 0 0) s m ([.ref a0, .int a1, .int a2, .int a3] : List Value).toArray below meth c s.heap [] 0 0 (MQ below (hp_Qi Γ (fun r β => β = α ∧ r = res)) ([.ref a0, .int a1, .int a2, .int a3] : List Value).toArray s 0 0 (hp_A Γ)) (entryFrame m ([.ref a0, .int a1, .int a2, .int a3] : List Value).toArray 4)
  rw [lg_entry_eq]
  generalize (lg_sl ([.ref a0, .int a1, .int a2, .int a3]) ++ List.replicate (4 - (lg_sl ([.ref a0, .int a1, .int a2, .int a3])).length) Slot.unset).toArray = ls at hl ⊢
  have hl : lv_has ls 4 [(0, .ref a0), (1, .int a1), (2, .int a2), (3, .int a3)] := hl
  refine lv_iload_n hx hb dX12_why_0 rfl (lv_at hl 1 rfl) (hp_n (n := 1) rfl ?_)
  refine lv_iload_n hx hb dX12_why_1 rfl (lv_at hl 2 rfl) (hp_n (n := 2) rfl ?_)
  refine lv_icmp_ge (tgt := 9) hx hb dX12_why_2 (by decide) (fun c1 => ?_) (fun c1 => hp_n (n := 5) rfl ?_)
  ·
    replace hf := ms_iT c1 hf
    refine lv_iload_n hx hb dX12_why_9 rfl (lv_at hl 1 rfl) (hp_n (n := 10) rfl ?_)
    refine lv_iload_n hx hb dX12_why_10 rfl (lv_at hl 2 rfl) (hp_n (n := 11) rfl ?_)
    refine lv_icmp_le (tgt := 18) hx hb dX12_why_11 (by decide) (fun c2 => ?_) (fun c2 => hp_n (n := 14) rfl ?_)
    ·
      replace hf := ms_iT c2 hf
      refine lv_iload_n hx hb dX12_why_18 rfl (lv_at hl 3 rfl) (hp_n (n := 19) rfl ?_)
      refine lv_if_eq (tgt := 26) hx hb dX12_why_19 (by decide) (fun c3 => ?_) (fun c3 => hp_n (n := 22) rfl ?_)
      ·
        replace hf := ms_iT c3 hf
        refine lv_iconst (v := 3) hx hb dX12_why_26 (by decide) (hp_n (n := 27) rfl ?_)
        cases hf
        exact q_iret C B hr hlk ⟨rfl, rfl⟩ dX12_why_27
      ·
        replace hf := ms_iF c3 hf
        refine lv_iconst (v := 0) hx hb dX12_why_22 (by decide) (hp_n (n := 23) rfl ?_)
        refine lv_goto (tgt := 27) hx hb dX12_why_23 (by decide) ?_
        cases hf
        exact q_iret C B hr hlk ⟨rfl, rfl⟩ dX12_why_27
    ·
      replace hf := ms_iF c2 hf
      refine lv_iconst (v := 2) hx hb dX12_why_14 (by decide) (hp_n (n := 15) rfl ?_)
      refine lv_goto (tgt := 27) hx hb dX12_why_15 (by decide) ?_
      cases hf
      exact q_iret C B hr hlk ⟨rfl, rfl⟩ dX12_why_27
  ·
    replace hf := ms_iF c1 hf
    refine lv_iconst (v := 1) hx hb dX12_why_5 (by decide) (hp_n (n := 6) rfl ?_)
    refine lv_goto (tgt := 27) hx hb dX12_why_6 (by decide) ?_
    cases hf
    exact q_iret C B hr hlk ⟨rfl, rfl⟩ dX12_why_27
def f_X12_whyIn_J41 (n : Nat) (σh3 : ms_T) (w0_h3 : Int32) (w1_h3 : Int32) (w2_h3 : Int32) : Option (Int32 × ms_T) :=
  ms_b (f_X12_why n σh3 w2_h3 w1_h3 w0_h3) fun rh4 =>
  some (rh4, σh3)
def f_X12_whyIn_J36 (n : Nat) (σh5 : ms_T) (w0_h5 : Int32) (w1_h5 : Int32) : Option (Int32 × ms_T) :=
  f_X12_whyIn_J41 n σh5 (1 : Int32) w0_h5 w1_h5
def f_X12_whyIn (n : Nat) (σ : ms_T) (a1 : Int32) (a2 : Int32) (a3 : Int32) (a4 : Int32) (a5 : Int32) : Option (Int32 × ms_T) :=
  ms_b (f_X12_inclusion n σ a3 a4) fun σh1 =>
  ms_l ((ms_I σh1 657)) fun x2 =>
  if a1 = x2 then
    ms_c (f_X12_folded n σh1 a2 a3 a4) fun rh7 σh7 =>
    if rh7 = a5 then
      f_X12_whyIn_J36 n σh7 x2 a1
    else
      f_X12_whyIn_J41 n σh7 (0 : Int32) x2 a1
  else
    f_X12_whyIn_J36 n σh1 x2 a1
set_option maxRecDepth 100000 in
set_option maxHeartbeats 4000000 in
theorem m_X12_whyIn (n : Nat) (Γ : hp_G) (l : Launch) (α : hp_T) (a0 : Nat) (ρ : Nat → Nat) (σ : ms_T) (hM : hm_M α a0 ρ σ) (a1 : Int32) (a2 : Int32) (a3 : Int32) (a4 : Int32) (a5 : Int32) (res : (Int32 × ms_T)) (hf : f_X12_whyIn n σ a1 a2 a3 a4 a5 = some res) : Met l yX12_whyIn (hp_ws yX12_whyIn cX12_whyIn 7 (some .int)) (hp_rm 43 0 0) (hp_Pc Γ α [.ref a0, .int a1, .int a2, .int a3, .int a4, .int a5]) (hp_Qi Γ (fun r β => r = res.1 ∧ mo α β ∧ hm_M β a0 ρ res.2)) 0 0 (hp_A Γ) := by
  unfold f_X12_whyIn at hf
  refine hp_start (by decide) ?_
  intro p e s m below meth c C hr hlk B0 hnm
  have C : hp_C Γ p m c cX12_whyIn 7 s ([.ref a0, .int a1, .int a2, .int a3, .int a4, .int a5] : List Value).toArray RX12 := C
  have hx := C.1.1
  have hb := C.1.2.1
  have hown := C.1.2.2.2.1
  have hts := C.1.2.2.2.2
  have B : hp_B Γ mo s α α s.heap [] := ⟨B0.1, B0.2.1, mo_rf⟩
  have hl := lv_entry ([.ref a0, .int a1, .int a2, .int a3, .int a4, .int a5]) (n := 7) (Nat.le_of_ble_eq_true rfl)
  show W p l e (hp_rm 43 0 0) s m ([.ref a0, .int a1, .int a2, .int a3, .int a4, .int a5] : List Value).toArray below meth c s.heap [] 0 0 (MQ below (hp_Qi Γ (fun r β => r = res.1 ∧ mo α β ∧ hm_M β a0 ρ res.2)) ([.ref a0, .int a1, .int a2, .int a3, .int a4, .int a5] : List Value).toArray s 0 0 (hp_A Γ)) (entryFrame m ([.ref a0, .int a1, .int a2, .int a3, .int a4, .int a5] : List Value).toArray 7)
  rw [lg_entry_eq]
  generalize (lg_sl ([.ref a0, .int a1, .int a2, .int a3, .int a4, .int a5]) ++ List.replicate (7 - (lg_sl ([.ref a0, .int a1, .int a2, .int a3, .int a4, .int a5])).length) Slot.unset).toArray = ls at hl ⊢
  have hl : lv_has ls 7 [(0, .ref a0), (1, .int a1), (2, .int a2), (3, .int a3), (4, .int a4), (5, .int a5)] := hl
  refine lv_aload_n hx hb dX12_whyIn_0 rfl (lv_at hl 0 rfl) (hp_n (n := 1) rfl ?_)
  refine lv_iload_n hx hb dX12_whyIn_1 rfl (lv_at hl 3 rfl) (hp_n (n := 2) rfl ?_)
  refine lv_iload hx hb dX12_whyIn_2 (lv_at hl 4 rfl) (hp_n (n := 4) rfl ?_)
  obtain ⟨σh1, qh1, hf⟩ := ms_bE hf
  refine m_cv (pc' := 7) (a := a0) (ρ := ρ) B (hp_runV (As := [.int a3, .int a4]) (rest := []) C B (m_X12_inclusion n Γ l α a0 ρ σ hM a3 a4 σh1 qh1) lb_X12_inclusion lv_X12_inclusion lk_X12_171 hM.1 rfl (by decide) rfl hl.1 rfl (Nat.le_of_ble_eq_true rfl) dX12_whyIn_4 ⟨Nat.le_refl _, Nat.le_refl _⟩) rfl (fun αh1 Hh1 Lh1 Bh1 Mh1 => ?_)
  refine lv_aload_n hx hb dX12_whyIn_7 rfl (lv_at hl 0 rfl) (hp_n (n := 8) rfl ?_)
  refine m_geti (k := 7) (φ := 657) (pc' := 11) C Bh1 Mh1 fl_X12_139 rfl rfl dX12_whyIn_8 rfl ?_
  refine lv_topi (fun x2 ex2 => ?_)
  replace hf := ms_lE ex2 hf
  refine lv_istore (lv' := [(6, .int x2), (0, .ref a0), (1, .int a1), (2, .int a2), (3, .int a3), (4, .int a4), (5, .int a5)]) hx hb dX12_whyIn_11 hl (by decide) rfl (fun ls hl => hp_n (n := 13) rfl ?_)
  refine lv_aload_n hx hb dX12_whyIn_13 rfl (lv_at hl 1 rfl) (hp_n (n := 14) rfl ?_)
  refine lv_iload_n hx hb dX12_whyIn_14 rfl (lv_at hl 2 rfl) (hp_n (n := 15) rfl ?_)
  refine lv_iload hx hb dX12_whyIn_15 (lv_at hl 0 rfl) (hp_n (n := 17) rfl ?_)
  refine lv_iload_n hx hb dX12_whyIn_17 rfl (lv_at hl 2 rfl) (hp_n (n := 18) rfl ?_)
  refine lv_iload hx hb dX12_whyIn_18 (lv_at hl 0 rfl) (hp_n (n := 20) rfl ?_)
  have J41 : ∀ (αh3 : hp_T) (Hh3 : Heap) (Lh3 : List Loc) (Bh3 : hp_B Γ mo s α αh3 Hh3 Lh3) (σh3 : ms_T) (Mh3 : hm_M αh3 a0 ρ σh3) (w0_h3 : Int32) (w1_h3 : Int32) (w2_h3 : Int32) (ls : Array Slot) (hl : lv_has ls 7 []) (hf : f_X12_whyIn_J41 n σh3 w0_h3 w1_h3 w2_h3 = some res), W p l e (hp_rm 43 0 0) s m ([.ref a0, .int a1, .int a2, .int a3, .int a4, .int a5] : List Value).toArray below meth c Hh3 Lh3 0 0 (MQ below (hp_Qi Γ (fun r β => r = res.1 ∧ mo α β ∧ hm_M β a0 ρ res.2)) ([.ref a0, .int a1, .int a2, .int a3, .int a4, .int a5] : List Value).toArray s 0 0 (hp_A Γ)) (F0 m 41 ls [.int w0_h3, .int w1_h3, .int w2_h3, .ref a0]) := by
    intro αh3 Hh3 Lh3 Bh3 σh3 Mh3 w0_h3 w1_h3 w2_h3 ls hl hf
    unfold f_X12_whyIn_J41 at hf
    obtain ⟨rh4, qh4, hf⟩ := ms_bE hf
    refine m_cp (pc' := 44) Bh3 (hp_runV (As := [.int w2_h3, .int w1_h3, .int w0_h3]) (rest := []) C Bh3 (m_X12_why n Γ l αh3 a0 ρ σh3 Mh3 w2_h3 w1_h3 w0_h3 rh4 qh4) lb_X12_why lv_X12_why lk_X12_177 Mh3.1 rfl (by decide) rfl hl.1 rfl (Nat.le_of_ble_eq_true rfl) dX12_whyIn_41 ⟨Nat.le_refl _, Nat.le_refl _⟩) rfl (fun Hh4 Lh4 Bh4 => ?_)
    cases hf
    exact q_iret C Bh4 hr hlk ⟨rfl, Bh4.2.2, Mh3⟩ dX12_whyIn_44
  have J36 : ∀ (αh5 : hp_T) (Hh5 : Heap) (Lh5 : List Loc) (Bh5 : hp_B Γ mo s α αh5 Hh5 Lh5) (σh5 : ms_T) (Mh5 : hm_M αh5 a0 ρ σh5) (w0_h5 : Int32) (w1_h5 : Int32) (ls : Array Slot) (hl : lv_has ls 7 []) (hf : f_X12_whyIn_J36 n σh5 w0_h5 w1_h5 = some res), W p l e (hp_rm 43 0 0) s m ([.ref a0, .int a1, .int a2, .int a3, .int a4, .int a5] : List Value).toArray below meth c Hh5 Lh5 0 0 (MQ below (hp_Qi Γ (fun r β => r = res.1 ∧ mo α β ∧ hm_M β a0 ρ res.2)) ([.ref a0, .int a1, .int a2, .int a3, .int a4, .int a5] : List Value).toArray s 0 0 (hp_A Γ)) (F0 m 36 ls [.int w0_h5, .int w1_h5, .ref a0]) := by
    intro αh5 Hh5 Lh5 Bh5 σh5 Mh5 w0_h5 w1_h5 ls hl hf
    unfold f_X12_whyIn_J36 at hf
    refine lv_iconst (v := 1) hx hb dX12_whyIn_36 (by decide) (hp_n (n := 37) rfl ?_)
    refine lv_goto (tgt := 41) hx hb dX12_whyIn_37 (by decide) ?_
    exact J41 αh5 Hh5 Lh5 Bh5 σh5 Mh5 (1 : Int32) w0_h5 w1_h5 ls (lv_sub hl [] rfl) hf
  refine lv_icmp_ne (tgt := 36) hx hb dX12_whyIn_20 (by decide) (fun c6 => ?_) (fun c6 => hp_n (n := 23) rfl ?_)
  ·
    replace hf := ms_iF c6 hf
    exact J36 αh1 Hh1 Lh1 Bh1 σh1 Mh1 x2 a1 ls (lv_sub hl [] rfl) hf
  ·
    replace hf := ms_iT c6 hf
    refine lv_aload_n hx hb dX12_whyIn_23 rfl (lv_at hl 1 rfl) (hp_n (n := 24) rfl ?_)
    refine lv_iload_n hx hb dX12_whyIn_24 rfl (lv_at hl 3 rfl) (hp_n (n := 25) rfl ?_)
    refine lv_iload_n hx hb dX12_whyIn_25 rfl (lv_at hl 4 rfl) (hp_n (n := 26) rfl ?_)
    refine lv_iload hx hb dX12_whyIn_26 (lv_at hl 5 rfl) (hp_n (n := 28) rfl ?_)
    obtain ⟨rh7, σh7, qh7, hf⟩ := ms_cE hf
    refine m_ci (pc' := 31) (a := a0) (ρ := ρ) Bh1 (hp_runV (As := [.int a2, .int a3, .int a4]) (rest := [.int x2, .int a1, .ref a0]) C Bh1 (m_X12_folded n Γ l αh1 a0 ρ σh1 Mh1 a2 a3 a4 (rh7, σh7) qh7) lb_X12_folded lv_X12_folded lk_X12_174 Mh1.1 rfl (by decide) rfl hl.1 rfl (Nat.le_of_ble_eq_true rfl) dX12_whyIn_28 ⟨Nat.le_refl _, Nat.le_refl _⟩) rfl (fun αh7 Hh7 Lh7 Bh7 Mh7 => ?_)
    refine lv_iload hx hb dX12_whyIn_31 (lv_at hl 6 rfl) (hp_n (n := 33) rfl ?_)
    refine lv_icmp_ne (tgt := 40) hx hb dX12_whyIn_33 (by decide) (fun c8 => ?_) (fun c8 => hp_n (n := 36) rfl ?_)
    ·
      replace hf := ms_iF c8 hf
      refine lv_iconst (v := 0) hx hb dX12_whyIn_40 (by decide) (hp_n (n := 41) rfl ?_)
      exact J41 αh7 Hh7 Lh7 Bh7 σh7 Mh7 (0 : Int32) x2 a1 ls (lv_sub hl [] rfl) hf
    ·
      replace hf := ms_iT c8 hf
      exact J36 αh7 Hh7 Lh7 Bh7 σh7 Mh7 x2 a1 ls (lv_sub hl [] rfl) hf
def f_X12_foldsGrowth_J157 (n : Nat) (recM : ms_T → Int32 → Int32 → Int32 → Int32 → Option ms_T) (σh3 : ms_T) : Option ms_T :=
  ms_l (ms_sI σh3 658 ((ms_I σh3 658) + (1 : Int32))) fun σh4 =>
  some σh4
def f_X12_foldsGrowth_J50 (n : Nat) (recM : ms_T → Int32 → Int32 → Int32 → Int32 → Option ms_T) (σh20 : ms_T) (w0_h20 : Int32) (w1_h20 : Int32) : Option ms_T :=
  ms_l (ms_sI σh20 658 (w1_h20 + w0_h20)) fun σh21 =>
  some σh21
def f_X12_foldsGrowth_J24 (n : Nat) (recM : ms_T → Int32 → Int32 → Int32 → Int32 → Option ms_T) (σh17 : ms_T) (v4_h17 : Int32) (w0_h17 : Int32) : Option ms_T :=
  ms_l (ms_sI σh17 659 w0_h17) fun σh18 =>
  ms_l (ms_sI σh18 660 (ms_I σh18 659)) fun σh19 =>
  if v4_h17 = 0 then
    f_X12_foldsGrowth_J50 n recM σh19 (1 : Int32) (ms_I σh19 658)
  else
    f_X12_foldsGrowth_J50 n recM σh19 (0 : Int32) (ms_I σh19 658)
def f_X12_foldsGrowth (n : Nat) : Nat → ms_T → Int32 → Int32 → Int32 → Int32 → Option ms_T
  | 0, _, _, _, _, _ => none
  | d + 1, σ, a1, a2, a3, a4 =>
    if a2 = a3 then
      if a4 = 0 then
        ms_g (ms_I σ 658) 128 <|
        f_X12_foldsGrowth_J24 n (f_X12_foldsGrowth n d) σ a4 (ms_E σ 44 ((ms_I σ 658)).toNatClampNeg)
      else
        f_X12_foldsGrowth_J24 n (f_X12_foldsGrowth n d) σ a4 a1
    else
      ms_b (f_X12_part0 n a3) fun rh2 =>
      if rh2 < a2 then
        ms_b ((f_X12_foldsGrowth n d) σ a1 (a2 - rh2) (a3 - rh2) (0 : Int32)) fun σh6 =>
        ms_g (ms_I σh6 658) 128 <|
        ms_b (f_X12_both n σh6 (ms_E σh6 44 ((ms_I σh6 658)).toNatClampNeg) (ms_I σh6 659)) fun rh8 =>
        ms_l (ms_sI σh6 659 rh8) fun σh9 =>
        ms_g (ms_I σh9 658) 128 <|
        ms_b (f_X12_both n σh9 (ms_E σh9 44 ((ms_I σh9 658)).toNatClampNeg) (ms_I σh9 660)) fun rh11 =>
        ms_l (ms_sI σh9 660 rh11) fun σh12 =>
        f_X12_foldsGrowth_J157 n (f_X12_foldsGrowth n d) σh12
      else
        ms_b ((f_X12_foldsGrowth n d) σ a1 a2 rh2 a4) fun σh13 =>
        ms_g (ms_I σh13 658) 128 <|
        ms_b (f_X12_both n σh13 (ms_I σh13 660) (ms_E σh13 44 ((ms_I σh13 658)).toNatClampNeg)) fun rh15 =>
        ms_l (ms_sI σh13 660 rh15) fun σh16 =>
        f_X12_foldsGrowth_J157 n (f_X12_foldsGrowth n d) σh16
set_option maxRecDepth 100000 in
set_option maxHeartbeats 4000000 in
theorem m_X12_foldsGrowth (n : Nat) : ∀ (d : Nat) (Γ : hp_G) (l : Launch) (α : hp_T) (a0 : Nat) (ρ : Nat → Nat) (σ : ms_T) (hM : hm_M α a0 ρ σ) (a1 : Int32) (a2 : Int32) (a3 : Int32) (a4 : Int32) (res : ms_T) (hf : f_X12_foldsGrowth n d σ a1 a2 a3 a4 = some res), Met l yX12_foldsGrowth (hp_ws yX12_foldsGrowth cX12_foldsGrowth 6 none) (hp_rm (d + 1) 0 0) (hp_Pc Γ α [.ref a0, .int a1, .int a2, .int a3, .int a4]) (hp_Qv Γ (fun β => mo α β ∧ hm_M β a0 ρ res)) 0 0 (hp_A Γ) := by
  intro d
  induction d with
  | zero => intro Γ l α a0 ρ σ hM a1 a2 a3 a4 res hf; rw [f_X12_foldsGrowth.eq_1] at hf; cases hf
  | succ d ihM =>
    intro Γ l α a0 ρ σ hM a1 a2 a3 a4 res hf
    rw [f_X12_foldsGrowth.eq_2] at hf
    refine hp_start (by decide) ?_
    intro p e s m below meth c C hr hlk B0 hnm
    have C : hp_C Γ p m c cX12_foldsGrowth 6 s ([.ref a0, .int a1, .int a2, .int a3, .int a4] : List Value).toArray RX12 := C
    have hx := C.1.1
    have hb := C.1.2.1
    have hown := C.1.2.2.2.1
    have hts := C.1.2.2.2.2
    have B : hp_B Γ mo s α α s.heap [] := ⟨B0.1, B0.2.1, mo_rf⟩
    have hl := lv_entry ([.ref a0, .int a1, .int a2, .int a3, .int a4]) (n := 6) (Nat.le_of_ble_eq_true rfl)
    show W p l e (hp_rm (d + 1 + 1) 0 0) s m ([.ref a0, .int a1, .int a2, .int a3, .int a4] : List Value).toArray below meth c s.heap [] 0 0 (MQ below (hp_Qv Γ (fun β => mo α β ∧ hm_M β a0 ρ res)) ([.ref a0, .int a1, .int a2, .int a3, .int a4] : List Value).toArray s 0 0 (hp_A Γ)) (entryFrame m ([.ref a0, .int a1, .int a2, .int a3, .int a4] : List Value).toArray 6)
    rw [lg_entry_eq]
    generalize (lg_sl ([.ref a0, .int a1, .int a2, .int a3, .int a4]) ++ List.replicate (6 - (lg_sl ([.ref a0, .int a1, .int a2, .int a3, .int a4])).length) Slot.unset).toArray = ls at hl ⊢
    have hl : lv_has ls 6 [(0, .ref a0), (1, .int a1), (2, .int a2), (3, .int a3), (4, .int a4)] := hl
    refine lv_iload_n hx hb dX12_foldsGrowth_0 rfl (lv_at hl 2 rfl) (hp_n (n := 1) rfl ?_)
    refine lv_iload_n hx hb dX12_foldsGrowth_1 rfl (lv_at hl 3 rfl) (hp_n (n := 2) rfl ?_)
    refine lv_icmp_ne (tgt := 55) hx hb dX12_foldsGrowth_2 (by decide) (fun c1 => ?_) (fun c1 => hp_n (n := 5) rfl ?_)
    ·
      replace hf := ms_iF c1 hf
      refine lv_iload_n hx hb dX12_foldsGrowth_55 rfl (lv_at hl 3 rfl) (hp_n (n := 56) rfl ?_)
      obtain ⟨rh2, qh2, hf⟩ := ms_bE hf
      refine m_cp (pc' := 59) B (hp_runS (As := [.int a3]) (rest := []) C B (m_X12_part0 n Γ l α a3 rh2 qh2) lb_X12_part0 ls_X12_part0 lk_X12_128 rfl (by omega) rfl hl.1 rfl (Nat.le_of_ble_eq_true rfl) dX12_foldsGrowth_56 ⟨Nat.le_refl _, Nat.le_refl _⟩) rfl (fun Hh2 Lh2 Bh2 => ?_)
      refine lv_istore (lv' := [(5, .int rh2), (0, .ref a0), (1, .int a1), (2, .int a2), (3, .int a3), (4, .int a4)]) hx hb dX12_foldsGrowth_59 hl (by decide) rfl (fun ls hl => hp_n (n := 61) rfl ?_)
      refine lv_iload_n hx hb dX12_foldsGrowth_61 rfl (lv_at hl 3 rfl) (hp_n (n := 62) rfl ?_)
      refine lv_iload hx hb dX12_foldsGrowth_62 (lv_at hl 0 rfl) (hp_n (n := 64) rfl ?_)
      have J157 : ∀ (αh3 : hp_T) (Hh3 : Heap) (Lh3 : List Loc) (Bh3 : hp_B Γ mo s α αh3 Hh3 Lh3) (σh3 : ms_T) (Mh3 : hm_M αh3 a0 ρ σh3) (ls : Array Slot) (hl : lv_has ls 6 [(0, .ref a0)]) (hf : f_X12_foldsGrowth_J157 n (f_X12_foldsGrowth n d) σh3 = some res), W p l e (hp_rm (d + 1 + 1) 0 0) s m ([.ref a0, .int a1, .int a2, .int a3, .int a4] : List Value).toArray below meth c Hh3 Lh3 0 0 (MQ below (hp_Qv Γ (fun β => mo α β ∧ hm_M β a0 ρ res)) ([.ref a0, .int a1, .int a2, .int a3, .int a4] : List Value).toArray s 0 0 (hp_A Γ)) (F0 m 157 ls []) := by
        intro αh3 Hh3 Lh3 Bh3 σh3 Mh3 ls hl hf
        unfold f_X12_foldsGrowth_J157 at hf
        refine lv_aload_n hx hb dX12_foldsGrowth_157 rfl (lv_at hl 0 rfl) (hp_n (n := 158) rfl ?_)
        refine lv_dup hx hb dX12_foldsGrowth_158 rfl (hp_n (n := 159) rfl ?_)
        refine m_geti (k := 8) (φ := 658) (pc' := 162) C Bh3 Mh3 fl_X12_168 rfl rfl dX12_foldsGrowth_159 rfl ?_
        refine lv_iconst (v := 1) hx hb dX12_foldsGrowth_162 (by decide) (hp_n (n := 163) rfl ?_)
        refine lv_iadd hx hb dX12_foldsGrowth_163 (hp_n (n := 164) rfl ?_)
        refine m_puti (k := 8) (φ := 658) (pc' := 167) C Bh3 Mh3 fl_X12_168 rfl rfl rfl rfl rfl dX12_foldsGrowth_164 rfl (fun αh4 Hh4 Lh4 σh4 eh4 Bh4 Mh4 => ?_)
        replace hf := ms_lE eh4 hf
        cases hf
        exact q_vret C Bh4 hr hlk ⟨Bh4.2.2, Mh4⟩ dX12_foldsGrowth_167
      refine lv_icmp_gt (tgt := 101) hx hb dX12_foldsGrowth_64 (by decide) (fun c5 => ?_) (fun c5 => hp_n (n := 67) rfl ?_)
      ·
        replace hf := ms_iT c5 hf
        refine lv_aload_n hx hb dX12_foldsGrowth_101 rfl (lv_at hl 1 rfl) (hp_n (n := 102) rfl ?_)
        refine lv_iload_n hx hb dX12_foldsGrowth_102 rfl (lv_at hl 2 rfl) (hp_n (n := 103) rfl ?_)
        refine lv_iload_n hx hb dX12_foldsGrowth_103 rfl (lv_at hl 3 rfl) (hp_n (n := 104) rfl ?_)
        refine lv_iload hx hb dX12_foldsGrowth_104 (lv_at hl 0 rfl) (hp_n (n := 106) rfl ?_)
        refine lv_isub hx hb dX12_foldsGrowth_106 (hp_n (n := 107) rfl ?_)
        refine lv_iload_n hx hb dX12_foldsGrowth_107 rfl (lv_at hl 4 rfl) (hp_n (n := 108) rfl ?_)
        refine lv_iload hx hb dX12_foldsGrowth_108 (lv_at hl 0 rfl) (hp_n (n := 110) rfl ?_)
        refine lv_isub hx hb dX12_foldsGrowth_110 (hp_n (n := 111) rfl ?_)
        refine lv_iconst (v := 0) hx hb dX12_foldsGrowth_111 (by decide) (hp_n (n := 112) rfl ?_)
        obtain ⟨σh6, qh6, hf⟩ := ms_bE hf
        refine m_cv (pc' := 115) (a := a0) (ρ := ρ) Bh2 (hp_runV (As := [.int a1, .int (a2 - rh2), .int (a3 - rh2), .int (0 : Int32)]) (rest := []) C Bh2 (ihM Γ l α a0 ρ σ hM a1 (a2 - rh2) (a3 - rh2) (0 : Int32) σh6 qh6) lb_X12_foldsGrowth lv_X12_foldsGrowth lk_X12_187 hM.1 rfl (by omega) rfl hl.1 rfl (Nat.le_of_ble_eq_true rfl) dX12_foldsGrowth_112 ⟨Nat.le_refl _, Nat.le_refl _⟩) rfl (fun αh6 Hh6 Lh6 Bh6 Mh6 => ?_)
        refine lv_aload_n hx hb dX12_foldsGrowth_115 rfl (lv_at hl 1 rfl) (hp_n (n := 116) rfl ?_)
        refine lv_aload_n hx hb dX12_foldsGrowth_116 rfl (lv_at hl 1 rfl) (hp_n (n := 117) rfl ?_)
        refine lv_aload_n hx hb dX12_foldsGrowth_117 rfl (lv_at hl 1 rfl) (hp_n (n := 118) rfl ?_)
        refine m_getr (κ := 44) (k := 6) (pc' := 121) C Bh6 Mh6 fl_X12_22 rfl (by decide) dX12_foldsGrowth_118 rfl ?_
        refine lv_aload_n hx hb dX12_foldsGrowth_121 rfl (lv_at hl 1 rfl) (hp_n (n := 122) rfl ?_)
        refine m_geti (k := 8) (φ := 658) (pc' := 125) C Bh6 Mh6 fl_X12_168 rfl rfl dX12_foldsGrowth_122 rfl ?_
        obtain ⟨g7, hf⟩ := ms_gE hf
        refine m_ial (κ := 44) (φ := 656) (n := 128) (pc' := 126) C Bh6 Mh6 (by decide) (by decide) rfl g7 dX12_foldsGrowth_125 rfl ?_
        refine lv_aload_n hx hb dX12_foldsGrowth_126 rfl (lv_at hl 1 rfl) (hp_n (n := 127) rfl ?_)
        refine m_geti (k := 9) (φ := 659) (pc' := 130) C Bh6 Mh6 fl_X12_181 rfl rfl dX12_foldsGrowth_127 rfl ?_
        obtain ⟨rh8, qh8, hf⟩ := ms_bE hf
        refine m_cp (pc' := 133) Bh6 (hp_runV (As := [.int (ms_E σh6 44 ((ms_I σh6 658)).toNatClampNeg), .int (ms_I σh6 659)]) (rest := [.ref a0]) C Bh6 (m_X12_both n Γ l αh6 a0 ρ σh6 Mh6 (ms_E σh6 44 ((ms_I σh6 658)).toNatClampNeg) (ms_I σh6 659) rh8 qh8) lb_X12_both lv_X12_both lk_X12_136 Mh6.1 rfl (by omega) rfl hl.1 rfl (Nat.le_of_ble_eq_true rfl) dX12_foldsGrowth_130 ⟨Nat.le_refl _, Nat.le_refl _⟩) rfl (fun Hh8 Lh8 Bh8 => ?_)
        refine m_puti (k := 9) (φ := 659) (pc' := 136) C Bh8 Mh6 fl_X12_181 rfl rfl rfl rfl rfl dX12_foldsGrowth_133 rfl (fun αh9 Hh9 Lh9 σh9 eh9 Bh9 Mh9 => ?_)
        replace hf := ms_lE eh9 hf
        refine lv_aload_n hx hb dX12_foldsGrowth_136 rfl (lv_at hl 1 rfl) (hp_n (n := 137) rfl ?_)
        refine lv_aload_n hx hb dX12_foldsGrowth_137 rfl (lv_at hl 1 rfl) (hp_n (n := 138) rfl ?_)
        refine lv_aload_n hx hb dX12_foldsGrowth_138 rfl (lv_at hl 1 rfl) (hp_n (n := 139) rfl ?_)
        refine m_getr (κ := 44) (k := 6) (pc' := 142) C Bh9 Mh9 fl_X12_22 rfl (by decide) dX12_foldsGrowth_139 rfl ?_
        refine lv_aload_n hx hb dX12_foldsGrowth_142 rfl (lv_at hl 1 rfl) (hp_n (n := 143) rfl ?_)
        refine m_geti (k := 8) (φ := 658) (pc' := 146) C Bh9 Mh9 fl_X12_168 rfl rfl dX12_foldsGrowth_143 rfl ?_
        obtain ⟨g10, hf⟩ := ms_gE hf
        refine m_ial (κ := 44) (φ := 656) (n := 128) (pc' := 147) C Bh9 Mh9 (by decide) (by decide) rfl g10 dX12_foldsGrowth_146 rfl ?_
        refine lv_aload_n hx hb dX12_foldsGrowth_147 rfl (lv_at hl 1 rfl) (hp_n (n := 148) rfl ?_)
        refine m_geti (k := 10) (φ := 660) (pc' := 151) C Bh9 Mh9 fl_X12_184 rfl rfl dX12_foldsGrowth_148 rfl ?_
        obtain ⟨rh11, qh11, hf⟩ := ms_bE hf
        refine m_cp (pc' := 154) Bh9 (hp_runV (As := [.int (ms_E σh9 44 ((ms_I σh9 658)).toNatClampNeg), .int (ms_I σh9 660)]) (rest := [.ref a0]) C Bh9 (m_X12_both n Γ l αh9 a0 ρ σh9 Mh9 (ms_E σh9 44 ((ms_I σh9 658)).toNatClampNeg) (ms_I σh9 660) rh11 qh11) lb_X12_both lv_X12_both lk_X12_136 Mh9.1 rfl (by omega) rfl hl.1 rfl (Nat.le_of_ble_eq_true rfl) dX12_foldsGrowth_151 ⟨Nat.le_refl _, Nat.le_refl _⟩) rfl (fun Hh11 Lh11 Bh11 => ?_)
        refine m_puti (k := 10) (φ := 660) (pc' := 157) C Bh11 Mh9 fl_X12_184 rfl rfl rfl rfl rfl dX12_foldsGrowth_154 rfl (fun αh12 Hh12 Lh12 σh12 eh12 Bh12 Mh12 => ?_)
        replace hf := ms_lE eh12 hf
        exact J157 αh12 Hh12 Lh12 Bh12 σh12 Mh12 ls (lv_sub hl [1] rfl) hf
      ·
        replace hf := ms_iF c5 hf
        refine lv_aload_n hx hb dX12_foldsGrowth_67 rfl (lv_at hl 1 rfl) (hp_n (n := 68) rfl ?_)
        refine lv_iload_n hx hb dX12_foldsGrowth_68 rfl (lv_at hl 2 rfl) (hp_n (n := 69) rfl ?_)
        refine lv_iload_n hx hb dX12_foldsGrowth_69 rfl (lv_at hl 3 rfl) (hp_n (n := 70) rfl ?_)
        refine lv_iload hx hb dX12_foldsGrowth_70 (lv_at hl 0 rfl) (hp_n (n := 72) rfl ?_)
        refine lv_iload hx hb dX12_foldsGrowth_72 (lv_at hl 5 rfl) (hp_n (n := 74) rfl ?_)
        obtain ⟨σh13, qh13, hf⟩ := ms_bE hf
        refine m_cv (pc' := 77) (a := a0) (ρ := ρ) Bh2 (hp_runV (As := [.int a1, .int a2, .int rh2, .int a4]) (rest := []) C Bh2 (ihM Γ l α a0 ρ σ hM a1 a2 rh2 a4 σh13 qh13) lb_X12_foldsGrowth lv_X12_foldsGrowth lk_X12_187 hM.1 rfl (by omega) rfl hl.1 rfl (Nat.le_of_ble_eq_true rfl) dX12_foldsGrowth_74 ⟨Nat.le_refl _, Nat.le_refl _⟩) rfl (fun αh13 Hh13 Lh13 Bh13 Mh13 => ?_)
        refine lv_aload_n hx hb dX12_foldsGrowth_77 rfl (lv_at hl 1 rfl) (hp_n (n := 78) rfl ?_)
        refine lv_aload_n hx hb dX12_foldsGrowth_78 rfl (lv_at hl 1 rfl) (hp_n (n := 79) rfl ?_)
        refine lv_aload_n hx hb dX12_foldsGrowth_79 rfl (lv_at hl 1 rfl) (hp_n (n := 80) rfl ?_)
        refine m_geti (k := 10) (φ := 660) (pc' := 83) C Bh13 Mh13 fl_X12_184 rfl rfl dX12_foldsGrowth_80 rfl ?_
        refine lv_aload_n hx hb dX12_foldsGrowth_83 rfl (lv_at hl 1 rfl) (hp_n (n := 84) rfl ?_)
        refine m_getr (κ := 44) (k := 6) (pc' := 87) C Bh13 Mh13 fl_X12_22 rfl (by decide) dX12_foldsGrowth_84 rfl ?_
        refine lv_aload_n hx hb dX12_foldsGrowth_87 rfl (lv_at hl 1 rfl) (hp_n (n := 88) rfl ?_)
        refine m_geti (k := 8) (φ := 658) (pc' := 91) C Bh13 Mh13 fl_X12_168 rfl rfl dX12_foldsGrowth_88 rfl ?_
        obtain ⟨g14, hf⟩ := ms_gE hf
        refine m_ial (κ := 44) (φ := 656) (n := 128) (pc' := 92) C Bh13 Mh13 (by decide) (by decide) rfl g14 dX12_foldsGrowth_91 rfl ?_
        obtain ⟨rh15, qh15, hf⟩ := ms_bE hf
        refine m_cp (pc' := 95) Bh13 (hp_runV (As := [.int (ms_I σh13 660), .int (ms_E σh13 44 ((ms_I σh13 658)).toNatClampNeg)]) (rest := [.ref a0]) C Bh13 (m_X12_both n Γ l αh13 a0 ρ σh13 Mh13 (ms_I σh13 660) (ms_E σh13 44 ((ms_I σh13 658)).toNatClampNeg) rh15 qh15) lb_X12_both lv_X12_both lk_X12_136 Mh13.1 rfl (by omega) rfl hl.1 rfl (Nat.le_of_ble_eq_true rfl) dX12_foldsGrowth_92 ⟨Nat.le_refl _, Nat.le_refl _⟩) rfl (fun Hh15 Lh15 Bh15 => ?_)
        refine m_puti (k := 10) (φ := 660) (pc' := 98) C Bh15 Mh13 fl_X12_184 rfl rfl rfl rfl rfl dX12_foldsGrowth_95 rfl (fun αh16 Hh16 Lh16 σh16 eh16 Bh16 Mh16 => ?_)
        replace hf := ms_lE eh16 hf
        refine lv_goto (tgt := 157) hx hb dX12_foldsGrowth_98 (by decide) ?_
        exact J157 αh16 Hh16 Lh16 Bh16 σh16 Mh16 ls (lv_sub hl [1] rfl) hf
    ·
      replace hf := ms_iT c1 hf
      refine lv_aload_n hx hb dX12_foldsGrowth_5 rfl (lv_at hl 0 rfl) (hp_n (n := 6) rfl ?_)
      refine lv_iload hx hb dX12_foldsGrowth_6 (lv_at hl 4 rfl) (hp_n (n := 8) rfl ?_)
      have J24 : ∀ (αh17 : hp_T) (Hh17 : Heap) (Lh17 : List Loc) (Bh17 : hp_B Γ mo s α αh17 Hh17 Lh17) (σh17 : ms_T) (Mh17 : hm_M αh17 a0 ρ σh17) (v4_h17 : Int32) (w0_h17 : Int32) (ls : Array Slot) (hl : lv_has ls 6 [(0, .ref a0), (4, .int v4_h17)]) (hf : f_X12_foldsGrowth_J24 n (f_X12_foldsGrowth n d) σh17 v4_h17 w0_h17 = some res), W p l e (hp_rm (d + 1 + 1) 0 0) s m ([.ref a0, .int a1, .int a2, .int a3, .int a4] : List Value).toArray below meth c Hh17 Lh17 0 0 (MQ below (hp_Qv Γ (fun β => mo α β ∧ hm_M β a0 ρ res)) ([.ref a0, .int a1, .int a2, .int a3, .int a4] : List Value).toArray s 0 0 (hp_A Γ)) (F0 m 24 ls [.int w0_h17, .ref a0]) := by
        intro αh17 Hh17 Lh17 Bh17 σh17 Mh17 v4_h17 w0_h17 ls hl hf
        unfold f_X12_foldsGrowth_J24 at hf
        refine m_puti (k := 9) (φ := 659) (pc' := 27) C Bh17 Mh17 fl_X12_181 rfl rfl rfl rfl rfl dX12_foldsGrowth_24 rfl (fun αh18 Hh18 Lh18 σh18 eh18 Bh18 Mh18 => ?_)
        replace hf := ms_lE eh18 hf
        refine lv_aload_n hx hb dX12_foldsGrowth_27 rfl (lv_at hl 0 rfl) (hp_n (n := 28) rfl ?_)
        refine lv_aload_n hx hb dX12_foldsGrowth_28 rfl (lv_at hl 0 rfl) (hp_n (n := 29) rfl ?_)
        refine m_geti (k := 9) (φ := 659) (pc' := 32) C Bh18 Mh18 fl_X12_181 rfl rfl dX12_foldsGrowth_29 rfl ?_
        refine m_puti (k := 10) (φ := 660) (pc' := 35) C Bh18 Mh18 fl_X12_184 rfl rfl rfl rfl rfl dX12_foldsGrowth_32 rfl (fun αh19 Hh19 Lh19 σh19 eh19 Bh19 Mh19 => ?_)
        replace hf := ms_lE eh19 hf
        refine lv_aload_n hx hb dX12_foldsGrowth_35 rfl (lv_at hl 0 rfl) (hp_n (n := 36) rfl ?_)
        refine lv_dup hx hb dX12_foldsGrowth_36 rfl (hp_n (n := 37) rfl ?_)
        refine m_geti (k := 8) (φ := 658) (pc' := 40) C Bh19 Mh19 fl_X12_168 rfl rfl dX12_foldsGrowth_37 rfl ?_
        refine lv_iload hx hb dX12_foldsGrowth_40 (lv_at hl 1 rfl) (hp_n (n := 42) rfl ?_)
        have J50 : ∀ (αh20 : hp_T) (Hh20 : Heap) (Lh20 : List Loc) (Bh20 : hp_B Γ mo s α αh20 Hh20 Lh20) (σh20 : ms_T) (Mh20 : hm_M αh20 a0 ρ σh20) (w0_h20 : Int32) (w1_h20 : Int32) (ls : Array Slot) (hl : lv_has ls 6 []) (hf : f_X12_foldsGrowth_J50 n (f_X12_foldsGrowth n d) σh20 w0_h20 w1_h20 = some res), W p l e (hp_rm (d + 1 + 1) 0 0) s m ([.ref a0, .int a1, .int a2, .int a3, .int a4] : List Value).toArray below meth c Hh20 Lh20 0 0 (MQ below (hp_Qv Γ (fun β => mo α β ∧ hm_M β a0 ρ res)) ([.ref a0, .int a1, .int a2, .int a3, .int a4] : List Value).toArray s 0 0 (hp_A Γ)) (F0 m 50 ls [.int w0_h20, .int w1_h20, .ref a0]) := by
          intro αh20 Hh20 Lh20 Bh20 σh20 Mh20 w0_h20 w1_h20 ls hl hf
          unfold f_X12_foldsGrowth_J50 at hf
          refine lv_iadd hx hb dX12_foldsGrowth_50 (hp_n (n := 51) rfl ?_)
          refine m_puti (k := 8) (φ := 658) (pc' := 54) C Bh20 Mh20 fl_X12_168 rfl rfl rfl rfl rfl dX12_foldsGrowth_51 rfl (fun αh21 Hh21 Lh21 σh21 eh21 Bh21 Mh21 => ?_)
          replace hf := ms_lE eh21 hf
          cases hf
          exact q_vret C Bh21 hr hlk ⟨Bh21.2.2, Mh21⟩ dX12_foldsGrowth_54
        refine lv_if_eq (tgt := 49) hx hb dX12_foldsGrowth_42 (by decide) (fun c22 => ?_) (fun c22 => hp_n (n := 45) rfl ?_)
        ·
          replace hf := ms_iT c22 hf
          refine lv_iconst (v := 1) hx hb dX12_foldsGrowth_49 (by decide) (hp_n (n := 50) rfl ?_)
          exact J50 αh19 Hh19 Lh19 Bh19 σh19 Mh19 (1 : Int32) (ms_I σh19 658) ls (lv_sub hl [] rfl) hf
        ·
          replace hf := ms_iF c22 hf
          refine lv_iconst (v := 0) hx hb dX12_foldsGrowth_45 (by decide) (hp_n (n := 46) rfl ?_)
          refine lv_goto (tgt := 50) hx hb dX12_foldsGrowth_46 (by decide) ?_
          exact J50 αh19 Hh19 Lh19 Bh19 σh19 Mh19 (0 : Int32) (ms_I σh19 658) ls (lv_sub hl [] rfl) hf
      refine lv_if_eq (tgt := 15) hx hb dX12_foldsGrowth_8 (by decide) (fun c23 => ?_) (fun c23 => hp_n (n := 11) rfl ?_)
      ·
        replace hf := ms_iT c23 hf
        refine lv_aload_n hx hb dX12_foldsGrowth_15 rfl (lv_at hl 0 rfl) (hp_n (n := 16) rfl ?_)
        refine m_getr (κ := 44) (k := 6) (pc' := 19) C B hM fl_X12_22 rfl (by decide) dX12_foldsGrowth_16 rfl ?_
        refine lv_aload_n hx hb dX12_foldsGrowth_19 rfl (lv_at hl 0 rfl) (hp_n (n := 20) rfl ?_)
        refine m_geti (k := 8) (φ := 658) (pc' := 23) C B hM fl_X12_168 rfl rfl dX12_foldsGrowth_20 rfl ?_
        obtain ⟨g24, hf⟩ := ms_gE hf
        refine m_ial (κ := 44) (φ := 656) (n := 128) (pc' := 24) C B hM (by decide) (by decide) rfl g24 dX12_foldsGrowth_23 rfl ?_
        exact J24 α s.heap [] B σ hM a4 (ms_E σ 44 ((ms_I σ 658)).toNatClampNeg) ls (lv_sub hl [0, 4] rfl) hf
      ·
        replace hf := ms_iF c23 hf
        refine lv_iload_n hx hb dX12_foldsGrowth_11 rfl (lv_at hl 1 rfl) (hp_n (n := 12) rfl ?_)
        refine lv_goto (tgt := 24) hx hb dX12_foldsGrowth_12 (by decide) ?_
        exact J24 α s.heap [] B σ hM a4 a1 ls (lv_sub hl [0, 4] rfl) hf
end JN4_2
section JN4_3
def f_X12_whyGrown_J39 (n : Nat) (σh3 : ms_T) (v2_h3 : Int32) (v3_h3 : Int32) (v4_h3 : Int32) (v5_h3 : Int32) : Option (Int32 × ms_T) :=
  if v2_h3 = v4_h3 then
    if v3_h3 = v5_h3 then
      some ((0 : Int32), σh3)
    else
      some ((3 : Int32), σh3)
  else
    if v2_h3 = 0 then
      some ((0 : Int32), σh3)
    else
      ms_l (ms_sI σh3 658 (0 : Int32)) fun σh6 =>
      ms_b (f_X12_foldsGrowth n 40 σh6 v3_h3 v2_h3 v4_h3 (1 : Int32)) fun σh7 =>
      if (ms_I σh7 659) = v3_h3 then
        if (ms_I σh7 660) = v5_h3 then
          some ((0 : Int32), σh7)
        else
          some ((4 : Int32), σh7)
      else
        some ((3 : Int32), σh7)
def f_X12_whyGrown (n : Nat) (σ : ms_T) (a1 : Int32) (a2 : Int32) (a3 : Int32) (a4 : Int32) (a5 : Int32) : Option (Int32 × ms_T) :=
  ms_b (f_X12_growth n σ a2 a4) fun σh1 =>
  if a1 = (ms_I σh1 657) then
    if a2 = 0 then
      if a3 = 0 then
        f_X12_whyGrown_J39 n σh1 a2 a3 a4 a5
      else
        some ((3 : Int32), σh1)
    else
      f_X12_whyGrown_J39 n σh1 a2 a3 a4 a5
  else
    if (ms_I σh1 657) ≤ a1 then
      some ((2 : Int32), σh1)
    else
      some ((1 : Int32), σh1)
set_option maxRecDepth 100000 in
set_option maxHeartbeats 4000000 in
theorem m_X12_whyGrown (n : Nat) (Γ : hp_G) (l : Launch) (α : hp_T) (a0 : Nat) (ρ : Nat → Nat) (σ : ms_T) (hM : hm_M α a0 ρ σ) (a1 : Int32) (a2 : Int32) (a3 : Int32) (a4 : Int32) (a5 : Int32) (res : (Int32 × ms_T)) (hf : f_X12_whyGrown n σ a1 a2 a3 a4 a5 = some res) : Met l yX12_whyGrown (hp_ws yX12_whyGrown cX12_whyGrown 6 (some .int)) (hp_rm 42 0 0) (hp_Pc Γ α [.ref a0, .int a1, .int a2, .int a3, .int a4, .int a5]) (hp_Qi Γ (fun r β => r = res.1 ∧ mo α β ∧ hm_M β a0 ρ res.2)) 0 0 (hp_A Γ) := by
  unfold f_X12_whyGrown at hf
  refine hp_start (by decide) ?_
  intro p e s m below meth c C hr hlk B0 hnm
  have C : hp_C Γ p m c cX12_whyGrown 6 s ([.ref a0, .int a1, .int a2, .int a3, .int a4, .int a5] : List Value).toArray RX12 := C
  have hx := C.1.1
  have hb := C.1.2.1
  have hown := C.1.2.2.2.1
  have hts := C.1.2.2.2.2
  have B : hp_B Γ mo s α α s.heap [] := ⟨B0.1, B0.2.1, mo_rf⟩
  have hl := lv_entry ([.ref a0, .int a1, .int a2, .int a3, .int a4, .int a5]) (n := 6) (Nat.le_of_ble_eq_true rfl)
  show W p l e (hp_rm 42 0 0) s m ([.ref a0, .int a1, .int a2, .int a3, .int a4, .int a5] : List Value).toArray below meth c s.heap [] 0 0 (MQ below (hp_Qi Γ (fun r β => r = res.1 ∧ mo α β ∧ hm_M β a0 ρ res.2)) ([.ref a0, .int a1, .int a2, .int a3, .int a4, .int a5] : List Value).toArray s 0 0 (hp_A Γ)) (entryFrame m ([.ref a0, .int a1, .int a2, .int a3, .int a4, .int a5] : List Value).toArray 6)
  rw [lg_entry_eq]
  generalize (lg_sl ([.ref a0, .int a1, .int a2, .int a3, .int a4, .int a5]) ++ List.replicate (6 - (lg_sl ([.ref a0, .int a1, .int a2, .int a3, .int a4, .int a5])).length) Slot.unset).toArray = ls at hl ⊢
  have hl : lv_has ls 6 [(0, .ref a0), (1, .int a1), (2, .int a2), (3, .int a3), (4, .int a4), (5, .int a5)] := hl
  refine lv_aload_n hx hb dX12_whyGrown_0 rfl (lv_at hl 0 rfl) (hp_n (n := 1) rfl ?_)
  refine lv_iload_n hx hb dX12_whyGrown_1 rfl (lv_at hl 2 rfl) (hp_n (n := 2) rfl ?_)
  refine lv_iload hx hb dX12_whyGrown_2 (lv_at hl 4 rfl) (hp_n (n := 4) rfl ?_)
  obtain ⟨σh1, qh1, hf⟩ := ms_bE hf
  refine m_cv (pc' := 7) (a := a0) (ρ := ρ) B (hp_runV (As := [.int a2, .int a4]) (rest := []) C B (m_X12_growth n Γ l α a0 ρ σ hM a2 a4 σh1 qh1) lb_X12_growth lv_X12_growth lk_X12_190 hM.1 rfl (by decide) rfl hl.1 rfl (Nat.le_of_ble_eq_true rfl) dX12_whyGrown_4 ⟨Nat.le_refl _, Nat.le_refl _⟩) rfl (fun αh1 Hh1 Lh1 Bh1 Mh1 => ?_)
  refine lv_iload_n hx hb dX12_whyGrown_7 rfl (lv_at hl 1 rfl) (hp_n (n := 8) rfl ?_)
  refine lv_aload_n hx hb dX12_whyGrown_8 rfl (lv_at hl 0 rfl) (hp_n (n := 9) rfl ?_)
  refine m_geti (k := 7) (φ := 657) (pc' := 12) C Bh1 Mh1 fl_X12_139 rfl rfl dX12_whyGrown_9 rfl ?_
  refine lv_icmp_eq (tgt := 29) hx hb dX12_whyGrown_12 (by decide) (fun c2 => ?_) (fun c2 => hp_n (n := 15) rfl ?_)
  ·
    replace hf := ms_iT c2 hf
    refine lv_iload_n hx hb dX12_whyGrown_29 rfl (lv_at hl 2 rfl) (hp_n (n := 30) rfl ?_)
    have J39 : ∀ (αh3 : hp_T) (Hh3 : Heap) (Lh3 : List Loc) (Bh3 : hp_B Γ mo s α αh3 Hh3 Lh3) (σh3 : ms_T) (Mh3 : hm_M αh3 a0 ρ σh3) (v2_h3 : Int32) (v3_h3 : Int32) (v4_h3 : Int32) (v5_h3 : Int32) (ls : Array Slot) (hl : lv_has ls 6 [(0, .ref a0), (2, .int v2_h3), (3, .int v3_h3), (4, .int v4_h3), (5, .int v5_h3)]) (hf : f_X12_whyGrown_J39 n σh3 v2_h3 v3_h3 v4_h3 v5_h3 = some res), W p l e (hp_rm 42 0 0) s m ([.ref a0, .int a1, .int a2, .int a3, .int a4, .int a5] : List Value).toArray below meth c Hh3 Lh3 0 0 (MQ below (hp_Qi Γ (fun r β => r = res.1 ∧ mo α β ∧ hm_M β a0 ρ res.2)) ([.ref a0, .int a1, .int a2, .int a3, .int a4, .int a5] : List Value).toArray s 0 0 (hp_A Γ)) (F0 m 39 ls []) := by
      intro αh3 Hh3 Lh3 Bh3 σh3 Mh3 v2_h3 v3_h3 v4_h3 v5_h3 ls hl hf
      unfold f_X12_whyGrown_J39 at hf
      refine lv_iload_n hx hb dX12_whyGrown_39 rfl (lv_at hl 1 rfl) (hp_n (n := 40) rfl ?_)
      refine lv_iload hx hb dX12_whyGrown_40 (lv_at hl 3 rfl) (hp_n (n := 42) rfl ?_)
      refine lv_icmp_ne (tgt := 57) hx hb dX12_whyGrown_42 (by decide) (fun c4 => ?_) (fun c4 => hp_n (n := 45) rfl ?_)
      ·
        replace hf := ms_iF c4 hf
        refine lv_iload_n hx hb dX12_whyGrown_57 rfl (lv_at hl 1 rfl) (hp_n (n := 58) rfl ?_)
        refine lv_if_ne (tgt := 63) hx hb dX12_whyGrown_58 (by decide) (fun c5 => ?_) (fun c5 => hp_n (n := 61) rfl ?_)
        ·
          replace hf := ms_iF c5 hf
          refine lv_aload_n hx hb dX12_whyGrown_63 rfl (lv_at hl 0 rfl) (hp_n (n := 64) rfl ?_)
          refine lv_iconst (v := 0) hx hb dX12_whyGrown_64 (by decide) (hp_n (n := 65) rfl ?_)
          refine m_puti (k := 8) (φ := 658) (pc' := 68) C Bh3 Mh3 fl_X12_168 rfl rfl rfl rfl rfl dX12_whyGrown_65 rfl (fun αh6 Hh6 Lh6 σh6 eh6 Bh6 Mh6 => ?_)
          replace hf := ms_lE eh6 hf
          refine lv_aload_n hx hb dX12_whyGrown_68 rfl (lv_at hl 0 rfl) (hp_n (n := 69) rfl ?_)
          refine lv_iload_n hx hb dX12_whyGrown_69 rfl (lv_at hl 2 rfl) (hp_n (n := 70) rfl ?_)
          refine lv_iload_n hx hb dX12_whyGrown_70 rfl (lv_at hl 1 rfl) (hp_n (n := 71) rfl ?_)
          refine lv_iload hx hb dX12_whyGrown_71 (lv_at hl 3 rfl) (hp_n (n := 73) rfl ?_)
          refine lv_iconst (v := 1) hx hb dX12_whyGrown_73 (by decide) (hp_n (n := 74) rfl ?_)
          obtain ⟨σh7, qh7, hf⟩ := ms_bE hf
          refine m_cv (pc' := 77) (a := a0) (ρ := ρ) Bh6 (hp_runV (As := [.int v3_h3, .int v2_h3, .int v4_h3, .int (1 : Int32)]) (rest := []) C Bh6 (m_X12_foldsGrowth n 40 Γ l αh6 a0 ρ σh6 Mh6 v3_h3 v2_h3 v4_h3 (1 : Int32) σh7 qh7) lb_X12_foldsGrowth lv_X12_foldsGrowth lk_X12_187 Mh6.1 rfl (by decide) rfl hl.1 rfl (Nat.le_of_ble_eq_true rfl) dX12_whyGrown_74 ⟨Nat.le_refl _, Nat.le_refl _⟩) rfl (fun αh7 Hh7 Lh7 Bh7 Mh7 => ?_)
          refine lv_aload_n hx hb dX12_whyGrown_77 rfl (lv_at hl 0 rfl) (hp_n (n := 78) rfl ?_)
          refine m_geti (k := 9) (φ := 659) (pc' := 81) C Bh7 Mh7 fl_X12_181 rfl rfl dX12_whyGrown_78 rfl ?_
          refine lv_iload_n hx hb dX12_whyGrown_81 rfl (lv_at hl 2 rfl) (hp_n (n := 82) rfl ?_)
          refine lv_icmp_eq (tgt := 89) hx hb dX12_whyGrown_82 (by decide) (fun c8 => ?_) (fun c8 => hp_n (n := 85) rfl ?_)
          ·
            replace hf := ms_iT c8 hf
            refine lv_aload_n hx hb dX12_whyGrown_89 rfl (lv_at hl 0 rfl) (hp_n (n := 90) rfl ?_)
            refine m_geti (k := 10) (φ := 660) (pc' := 93) C Bh7 Mh7 fl_X12_184 rfl rfl dX12_whyGrown_90 rfl ?_
            refine lv_iload hx hb dX12_whyGrown_93 (lv_at hl 4 rfl) (hp_n (n := 95) rfl ?_)
            refine lv_icmp_eq (tgt := 102) hx hb dX12_whyGrown_95 (by decide) (fun c9 => ?_) (fun c9 => hp_n (n := 98) rfl ?_)
            ·
              replace hf := ms_iT c9 hf
              refine lv_iconst (v := 0) hx hb dX12_whyGrown_102 (by decide) (hp_n (n := 103) rfl ?_)
              cases hf
              exact q_iret C Bh7 hr hlk ⟨rfl, Bh7.2.2, Mh7⟩ dX12_whyGrown_103
            ·
              replace hf := ms_iF c9 hf
              refine lv_iconst (v := 4) hx hb dX12_whyGrown_98 (by decide) (hp_n (n := 99) rfl ?_)
              refine lv_goto (tgt := 103) hx hb dX12_whyGrown_99 (by decide) ?_
              cases hf
              exact q_iret C Bh7 hr hlk ⟨rfl, Bh7.2.2, Mh7⟩ dX12_whyGrown_103
          ·
            replace hf := ms_iF c8 hf
            refine lv_iconst (v := 3) hx hb dX12_whyGrown_85 (by decide) (hp_n (n := 86) rfl ?_)
            refine lv_goto (tgt := 103) hx hb dX12_whyGrown_86 (by decide) ?_
            cases hf
            exact q_iret C Bh7 hr hlk ⟨rfl, Bh7.2.2, Mh7⟩ dX12_whyGrown_103
        ·
          replace hf := ms_iT c5 hf
          refine lv_iconst (v := 0) hx hb dX12_whyGrown_61 (by decide) (hp_n (n := 62) rfl ?_)
          cases hf
          exact q_iret C Bh3 hr hlk ⟨rfl, Bh3.2.2, Mh3⟩ dX12_whyGrown_62
      ·
        replace hf := ms_iT c4 hf
        refine lv_iload_n hx hb dX12_whyGrown_45 rfl (lv_at hl 2 rfl) (hp_n (n := 46) rfl ?_)
        refine lv_iload hx hb dX12_whyGrown_46 (lv_at hl 4 rfl) (hp_n (n := 48) rfl ?_)
        refine lv_icmp_ne (tgt := 55) hx hb dX12_whyGrown_48 (by decide) (fun c10 => ?_) (fun c10 => hp_n (n := 51) rfl ?_)
        ·
          replace hf := ms_iF c10 hf
          refine lv_iconst (v := 3) hx hb dX12_whyGrown_55 (by decide) (hp_n (n := 56) rfl ?_)
          cases hf
          exact q_iret C Bh3 hr hlk ⟨rfl, Bh3.2.2, Mh3⟩ dX12_whyGrown_56
        ·
          replace hf := ms_iT c10 hf
          refine lv_iconst (v := 0) hx hb dX12_whyGrown_51 (by decide) (hp_n (n := 52) rfl ?_)
          refine lv_goto (tgt := 56) hx hb dX12_whyGrown_52 (by decide) ?_
          cases hf
          exact q_iret C Bh3 hr hlk ⟨rfl, Bh3.2.2, Mh3⟩ dX12_whyGrown_56
    refine lv_if_ne (tgt := 39) hx hb dX12_whyGrown_30 (by decide) (fun c11 => ?_) (fun c11 => hp_n (n := 33) rfl ?_)
    ·
      replace hf := ms_iF c11 hf
      exact J39 αh1 Hh1 Lh1 Bh1 σh1 Mh1 a2 a3 a4 a5 ls (lv_sub hl [0, 2, 3, 4, 5] rfl) hf
    ·
      replace hf := ms_iT c11 hf
      refine lv_iload_n hx hb dX12_whyGrown_33 rfl (lv_at hl 3 rfl) (hp_n (n := 34) rfl ?_)
      refine lv_if_eq (tgt := 39) hx hb dX12_whyGrown_34 (by decide) (fun c12 => ?_) (fun c12 => hp_n (n := 37) rfl ?_)
      ·
        replace hf := ms_iT c12 hf
        exact J39 αh1 Hh1 Lh1 Bh1 σh1 Mh1 a2 a3 a4 a5 ls (lv_sub hl [0, 2, 3, 4, 5] rfl) hf
      ·
        replace hf := ms_iF c12 hf
        refine lv_iconst (v := 3) hx hb dX12_whyGrown_37 (by decide) (hp_n (n := 38) rfl ?_)
        cases hf
        exact q_iret C Bh1 hr hlk ⟨rfl, Bh1.2.2, Mh1⟩ dX12_whyGrown_38
  ·
    replace hf := ms_iF c2 hf
    refine lv_iload_n hx hb dX12_whyGrown_15 rfl (lv_at hl 1 rfl) (hp_n (n := 16) rfl ?_)
    refine lv_aload_n hx hb dX12_whyGrown_16 rfl (lv_at hl 0 rfl) (hp_n (n := 17) rfl ?_)
    refine m_geti (k := 7) (φ := 657) (pc' := 20) C Bh1 Mh1 fl_X12_139 rfl rfl dX12_whyGrown_17 rfl ?_
    refine lv_icmp_ge (tgt := 27) hx hb dX12_whyGrown_20 (by decide) (fun c13 => ?_) (fun c13 => hp_n (n := 23) rfl ?_)
    ·
      replace hf := ms_iT c13 hf
      refine lv_iconst (v := 2) hx hb dX12_whyGrown_27 (by decide) (hp_n (n := 28) rfl ?_)
      cases hf
      exact q_iret C Bh1 hr hlk ⟨rfl, Bh1.2.2, Mh1⟩ dX12_whyGrown_28
    ·
      replace hf := ms_iF c13 hf
      refine lv_iconst (v := 1) hx hb dX12_whyGrown_23 (by decide) (hp_n (n := 24) rfl ?_)
      refine lv_goto (tgt := 28) hx hb dX12_whyGrown_24 (by decide) ?_
      cases hf
      exact q_iret C Bh1 hr hlk ⟨rfl, Bh1.2.2, Mh1⟩ dX12_whyGrown_28
def f_X12_foldsBundle (n : Nat) : Nat → ms_T → Int32 → Int32 → Int32 → Option (Int32 × ms_T)
  | 0, _, _, _, _ => none
  | d + 1, σ, a1, a2, a3 =>
    ms_b (f_X12_hasAny n a1 a2 a3) fun rh1 =>
    if rh1 = 0 then
      ms_l (ms_sI σ 658 ((ms_I σ 658) + (1 : Int32))) fun σh10 =>
      ms_g ((ms_I σh10 658) - (1 : Int32)) 128 <|
      some ((ms_E σh10 44 (((ms_I σh10 658) - (1 : Int32))).toNatClampNeg), σh10)
    else
      if a3 = (1 : Int32) then
        ms_l (ms_sI σ 661 ((ms_I σ 661) + (1 : Int32))) fun σh8 =>
        ms_g ((ms_I σh8 661) - (1 : Int32)) 128 <|
        some ((ms_E σh8 44 (((ms_I σh8 661) - (1 : Int32))).toNatClampNeg), σh8)
      else
        ms_b (f_X12_part0 n a3) fun rh4 =>
        ms_c ((f_X12_foldsBundle n d) σ a1 a2 rh4) fun rh5 σh5 =>
        ms_c ((f_X12_foldsBundle n d) σh5 a1 (a2 + rh4) (a3 - rh4)) fun rh6 σh6 =>
        ms_b (f_X12_both n σh6 rh5 rh6) fun rh7 =>
        some (rh7, σh6)
set_option maxRecDepth 100000 in
set_option maxHeartbeats 4000000 in
theorem m_X12_foldsBundle (n : Nat) : ∀ (d : Nat) (Γ : hp_G) (l : Launch) (α : hp_T) (a0 : Nat) (ρ : Nat → Nat) (σ : ms_T) (hM : hm_M α a0 ρ σ) (a1 : Int32) (a2 : Int32) (a3 : Int32) (res : (Int32 × ms_T)) (hf : f_X12_foldsBundle n d σ a1 a2 a3 = some res), Met l yX12_foldsBundle (hp_ws yX12_foldsBundle cX12_foldsBundle 6 (some .int)) (hp_rm (d + 1) 0 0) (hp_Pc Γ α [.ref a0, .int a1, .int a2, .int a3]) (hp_Qi Γ (fun r β => r = res.1 ∧ mo α β ∧ hm_M β a0 ρ res.2)) 0 0 (hp_A Γ) := by
  intro d
  induction d with
  | zero => intro Γ l α a0 ρ σ hM a1 a2 a3 res hf; rw [f_X12_foldsBundle.eq_1] at hf; cases hf
  | succ d ihM =>
    intro Γ l α a0 ρ σ hM a1 a2 a3 res hf
    rw [f_X12_foldsBundle.eq_2] at hf
    refine hp_start (by decide) ?_
    intro p e s m below meth c C hr hlk B0 hnm
    have C : hp_C Γ p m c cX12_foldsBundle 6 s ([.ref a0, .int a1, .int a2, .int a3] : List Value).toArray RX12 := C
    have hx := C.1.1
    have hb := C.1.2.1
    have hown := C.1.2.2.2.1
    have hts := C.1.2.2.2.2
    have B : hp_B Γ mo s α α s.heap [] := ⟨B0.1, B0.2.1, mo_rf⟩
    have hl := lv_entry ([.ref a0, .int a1, .int a2, .int a3]) (n := 6) (Nat.le_of_ble_eq_true rfl)
    show W p l e (hp_rm (d + 1 + 1) 0 0) s m ([.ref a0, .int a1, .int a2, .int a3] : List Value).toArray below meth c s.heap [] 0 0 (MQ below (hp_Qi Γ (fun r β => r = res.1 ∧ mo α β ∧ hm_M β a0 ρ res.2)) ([.ref a0, .int a1, .int a2, .int a3] : List Value).toArray s 0 0 (hp_A Γ)) (entryFrame m ([.ref a0, .int a1, .int a2, .int a3] : List Value).toArray 6)
    rw [lg_entry_eq]
    generalize (lg_sl ([.ref a0, .int a1, .int a2, .int a3]) ++ List.replicate (6 - (lg_sl ([.ref a0, .int a1, .int a2, .int a3])).length) Slot.unset).toArray = ls at hl ⊢
    have hl : lv_has ls 6 [(0, .ref a0), (1, .int a1), (2, .int a2), (3, .int a3)] := hl
    refine lv_iload_n hx hb dX12_foldsBundle_0 rfl (lv_at hl 1 rfl) (hp_n (n := 1) rfl ?_)
    refine lv_iload_n hx hb dX12_foldsBundle_1 rfl (lv_at hl 2 rfl) (hp_n (n := 2) rfl ?_)
    refine lv_iload_n hx hb dX12_foldsBundle_2 rfl (lv_at hl 3 rfl) (hp_n (n := 3) rfl ?_)
    obtain ⟨rh1, qh1, hf⟩ := ms_bE hf
    refine m_cp (pc' := 6) B (hp_runS (As := [.int a1, .int a2, .int a3]) (rest := []) C B (m_X12_hasAny n Γ l α a1 a2 a3 rh1 qh1) lb_X12_hasAny ls_X12_hasAny lk_X12_154 rfl (by omega) rfl hl.1 rfl (Nat.le_of_ble_eq_true rfl) dX12_foldsBundle_3 ⟨Nat.le_refl _, Nat.le_refl _⟩) rfl (fun Hh1 Lh1 Bh1 => ?_)
    refine lv_if_ne (tgt := 31) hx hb dX12_foldsBundle_6 (by decide) (fun c2 => ?_) (fun c2 => hp_n (n := 9) rfl ?_)
    ·
      replace hf := ms_iF c2 hf
      refine lv_iload_n hx hb dX12_foldsBundle_31 rfl (lv_at hl 3 rfl) (hp_n (n := 32) rfl ?_)
      refine lv_iconst (v := 1) hx hb dX12_foldsBundle_32 (by decide) (hp_n (n := 33) rfl ?_)
      refine lv_icmp_ne (tgt := 58) hx hb dX12_foldsBundle_33 (by decide) (fun c3 => ?_) (fun c3 => hp_n (n := 36) rfl ?_)
      ·
        replace hf := ms_iF c3 hf
        refine lv_iload_n hx hb dX12_foldsBundle_58 rfl (lv_at hl 3 rfl) (hp_n (n := 59) rfl ?_)
        obtain ⟨rh4, qh4, hf⟩ := ms_bE hf
        refine m_cp (pc' := 62) Bh1 (hp_runS (As := [.int a3]) (rest := []) C Bh1 (m_X12_part0 n Γ l α a3 rh4 qh4) lb_X12_part0 ls_X12_part0 lk_X12_128 rfl (by omega) rfl hl.1 rfl (Nat.le_of_ble_eq_true rfl) dX12_foldsBundle_59 ⟨Nat.le_refl _, Nat.le_refl _⟩) rfl (fun Hh4 Lh4 Bh4 => ?_)
        refine lv_istore (lv' := [(4, .int rh4), (0, .ref a0), (1, .int a1), (2, .int a2), (3, .int a3)]) hx hb dX12_foldsBundle_62 hl (by decide) rfl (fun ls hl => hp_n (n := 64) rfl ?_)
        refine lv_aload_n hx hb dX12_foldsBundle_64 rfl (lv_at hl 1 rfl) (hp_n (n := 65) rfl ?_)
        refine lv_iload_n hx hb dX12_foldsBundle_65 rfl (lv_at hl 2 rfl) (hp_n (n := 66) rfl ?_)
        refine lv_iload_n hx hb dX12_foldsBundle_66 rfl (lv_at hl 3 rfl) (hp_n (n := 67) rfl ?_)
        refine lv_iload hx hb dX12_foldsBundle_67 (lv_at hl 0 rfl) (hp_n (n := 69) rfl ?_)
        obtain ⟨rh5, σh5, qh5, hf⟩ := ms_cE hf
        refine m_ci (pc' := 72) (a := a0) (ρ := ρ) Bh4 (hp_runV (As := [.int a1, .int a2, .int rh4]) (rest := []) C Bh4 (ihM Γ l α a0 ρ σ hM a1 a2 rh4 (rh5, σh5) qh5) lb_X12_foldsBundle lv_X12_foldsBundle lk_X12_196 hM.1 rfl (by omega) rfl hl.1 rfl (Nat.le_of_ble_eq_true rfl) dX12_foldsBundle_69 ⟨Nat.le_refl _, Nat.le_refl _⟩) rfl (fun αh5 Hh5 Lh5 Bh5 Mh5 => ?_)
        refine lv_istore (lv' := [(5, .int rh5), (4, .int rh4), (0, .ref a0), (1, .int a1), (2, .int a2), (3, .int a3)]) hx hb dX12_foldsBundle_72 hl (by decide) rfl (fun ls hl => hp_n (n := 74) rfl ?_)
        refine lv_aload_n hx hb dX12_foldsBundle_74 rfl (lv_at hl 2 rfl) (hp_n (n := 75) rfl ?_)
        refine lv_iload hx hb dX12_foldsBundle_75 (lv_at hl 0 rfl) (hp_n (n := 77) rfl ?_)
        refine lv_aload_n hx hb dX12_foldsBundle_77 rfl (lv_at hl 2 rfl) (hp_n (n := 78) rfl ?_)
        refine lv_iload_n hx hb dX12_foldsBundle_78 rfl (lv_at hl 3 rfl) (hp_n (n := 79) rfl ?_)
        refine lv_iload_n hx hb dX12_foldsBundle_79 rfl (lv_at hl 4 rfl) (hp_n (n := 80) rfl ?_)
        refine lv_iload hx hb dX12_foldsBundle_80 (lv_at hl 1 rfl) (hp_n (n := 82) rfl ?_)
        refine lv_iadd hx hb dX12_foldsBundle_82 (hp_n (n := 83) rfl ?_)
        refine lv_iload_n hx hb dX12_foldsBundle_83 rfl (lv_at hl 5 rfl) (hp_n (n := 84) rfl ?_)
        refine lv_iload hx hb dX12_foldsBundle_84 (lv_at hl 1 rfl) (hp_n (n := 86) rfl ?_)
        refine lv_isub hx hb dX12_foldsBundle_86 (hp_n (n := 87) rfl ?_)
        obtain ⟨rh6, σh6, qh6, hf⟩ := ms_cE hf
        refine m_ci (pc' := 90) (a := a0) (ρ := ρ) Bh5 (hp_runV (As := [.int a1, .int (a2 + rh4), .int (a3 - rh4)]) (rest := [.int rh5, .ref a0]) C Bh5 (ihM Γ l αh5 a0 ρ σh5 Mh5 a1 (a2 + rh4) (a3 - rh4) (rh6, σh6) qh6) lb_X12_foldsBundle lv_X12_foldsBundle lk_X12_196 Mh5.1 rfl (by omega) rfl hl.1 rfl (Nat.le_of_ble_eq_true rfl) dX12_foldsBundle_87 ⟨Nat.le_refl _, Nat.le_refl _⟩) rfl (fun αh6 Hh6 Lh6 Bh6 Mh6 => ?_)
        obtain ⟨rh7, qh7, hf⟩ := ms_bE hf
        refine m_cp (pc' := 93) Bh6 (hp_runV (As := [.int rh5, .int rh6]) (rest := []) C Bh6 (m_X12_both n Γ l αh6 a0 ρ σh6 Mh6 rh5 rh6 rh7 qh7) lb_X12_both lv_X12_both lk_X12_136 Mh6.1 rfl (by omega) rfl hl.1 rfl (Nat.le_of_ble_eq_true rfl) dX12_foldsBundle_90 ⟨Nat.le_refl _, Nat.le_refl _⟩) rfl (fun Hh7 Lh7 Bh7 => ?_)
        cases hf
        exact q_iret C Bh7 hr hlk ⟨rfl, Bh7.2.2, Mh6⟩ dX12_foldsBundle_93
      ·
        replace hf := ms_iT c3 hf
        refine lv_aload_n hx hb dX12_foldsBundle_36 rfl (lv_at hl 0 rfl) (hp_n (n := 37) rfl ?_)
        refine lv_dup hx hb dX12_foldsBundle_37 rfl (hp_n (n := 38) rfl ?_)
        refine m_geti (k := 11) (φ := 661) (pc' := 41) C Bh1 hM fl_X12_193 rfl rfl dX12_foldsBundle_38 rfl ?_
        refine lv_iconst (v := 1) hx hb dX12_foldsBundle_41 (by decide) (hp_n (n := 42) rfl ?_)
        refine lv_iadd hx hb dX12_foldsBundle_42 (hp_n (n := 43) rfl ?_)
        refine m_puti (k := 11) (φ := 661) (pc' := 46) C Bh1 hM fl_X12_193 rfl rfl rfl rfl rfl dX12_foldsBundle_43 rfl (fun αh8 Hh8 Lh8 σh8 eh8 Bh8 Mh8 => ?_)
        replace hf := ms_lE eh8 hf
        refine lv_aload_n hx hb dX12_foldsBundle_46 rfl (lv_at hl 0 rfl) (hp_n (n := 47) rfl ?_)
        refine m_getr (κ := 44) (k := 6) (pc' := 50) C Bh8 Mh8 fl_X12_22 rfl (by decide) dX12_foldsBundle_47 rfl ?_
        refine lv_aload_n hx hb dX12_foldsBundle_50 rfl (lv_at hl 0 rfl) (hp_n (n := 51) rfl ?_)
        refine m_geti (k := 11) (φ := 661) (pc' := 54) C Bh8 Mh8 fl_X12_193 rfl rfl dX12_foldsBundle_51 rfl ?_
        refine lv_iconst (v := 1) hx hb dX12_foldsBundle_54 (by decide) (hp_n (n := 55) rfl ?_)
        refine lv_isub hx hb dX12_foldsBundle_55 (hp_n (n := 56) rfl ?_)
        obtain ⟨g9, hf⟩ := ms_gE hf
        refine m_ial (κ := 44) (φ := 656) (n := 128) (pc' := 57) C Bh8 Mh8 (by decide) (by decide) rfl g9 dX12_foldsBundle_56 rfl ?_
        cases hf
        exact q_iret C Bh8 hr hlk ⟨rfl, Bh8.2.2, Mh8⟩ dX12_foldsBundle_57
    ·
      replace hf := ms_iT c2 hf
      refine lv_aload_n hx hb dX12_foldsBundle_9 rfl (lv_at hl 0 rfl) (hp_n (n := 10) rfl ?_)
      refine lv_dup hx hb dX12_foldsBundle_10 rfl (hp_n (n := 11) rfl ?_)
      refine m_geti (k := 8) (φ := 658) (pc' := 14) C Bh1 hM fl_X12_168 rfl rfl dX12_foldsBundle_11 rfl ?_
      refine lv_iconst (v := 1) hx hb dX12_foldsBundle_14 (by decide) (hp_n (n := 15) rfl ?_)
      refine lv_iadd hx hb dX12_foldsBundle_15 (hp_n (n := 16) rfl ?_)
      refine m_puti (k := 8) (φ := 658) (pc' := 19) C Bh1 hM fl_X12_168 rfl rfl rfl rfl rfl dX12_foldsBundle_16 rfl (fun αh10 Hh10 Lh10 σh10 eh10 Bh10 Mh10 => ?_)
      replace hf := ms_lE eh10 hf
      refine lv_aload_n hx hb dX12_foldsBundle_19 rfl (lv_at hl 0 rfl) (hp_n (n := 20) rfl ?_)
      refine m_getr (κ := 44) (k := 6) (pc' := 23) C Bh10 Mh10 fl_X12_22 rfl (by decide) dX12_foldsBundle_20 rfl ?_
      refine lv_aload_n hx hb dX12_foldsBundle_23 rfl (lv_at hl 0 rfl) (hp_n (n := 24) rfl ?_)
      refine m_geti (k := 8) (φ := 658) (pc' := 27) C Bh10 Mh10 fl_X12_168 rfl rfl dX12_foldsBundle_24 rfl ?_
      refine lv_iconst (v := 1) hx hb dX12_foldsBundle_27 (by decide) (hp_n (n := 28) rfl ?_)
      refine lv_isub hx hb dX12_foldsBundle_28 (hp_n (n := 29) rfl ?_)
      obtain ⟨g11, hf⟩ := ms_gE hf
      refine m_ial (κ := 44) (φ := 656) (n := 128) (pc' := 30) C Bh10 Mh10 (by decide) (by decide) rfl g11 dX12_foldsBundle_29 rfl ?_
      cases hf
      exact q_iret C Bh10 hr hlk ⟨rfl, Bh10.2.2, Mh10⟩ dX12_foldsBundle_30
def f_X12_whyByRecord (n : Nat) (σ : ms_T) (a1 : Int32) (a2 : Int32) (a3 : Int32) (a4 : Int32) (a5 : Int32) : Option (Int32 × ms_T) :=
  ms_b (f_X12_growth n σ a2 a4) fun σh1 =>
  ms_b (f_X12_fetches n σh1 a1) fun σh2 =>
  ms_c (f_X12_whyGrown n σh2 (ms_I σh2 657) a2 a3 a4 a5) fun rh3 σh3 =>
  some (rh3, σh3)
set_option maxRecDepth 100000 in
set_option maxHeartbeats 4000000 in
theorem m_X12_whyByRecord (n : Nat) (Γ : hp_G) (l : Launch) (α : hp_T) (a0 : Nat) (ρ : Nat → Nat) (σ : ms_T) (hM : hm_M α a0 ρ σ) (a1 : Int32) (a2 : Int32) (a3 : Int32) (a4 : Int32) (a5 : Int32) (res : (Int32 × ms_T)) (hf : f_X12_whyByRecord n σ a1 a2 a3 a4 a5 = some res) : Met l yX12_whyByRecord (hp_ws yX12_whyByRecord cX12_whyByRecord 6 (some .int)) (hp_rm 43 0 0) (hp_Pc Γ α [.ref a0, .int a1, .int a2, .int a3, .int a4, .int a5]) (hp_Qi Γ (fun r β => r = res.1 ∧ mo α β ∧ hm_M β a0 ρ res.2)) 0 0 (hp_A Γ) := by
  unfold f_X12_whyByRecord at hf
  refine hp_start (by decide) ?_
  intro p e s m below meth c C hr hlk B0 hnm
  have C : hp_C Γ p m c cX12_whyByRecord 6 s ([.ref a0, .int a1, .int a2, .int a3, .int a4, .int a5] : List Value).toArray RX12 := C
  have hx := C.1.1
  have hb := C.1.2.1
  have hown := C.1.2.2.2.1
  have hts := C.1.2.2.2.2
  have B : hp_B Γ mo s α α s.heap [] := ⟨B0.1, B0.2.1, mo_rf⟩
  have hl := lv_entry ([.ref a0, .int a1, .int a2, .int a3, .int a4, .int a5]) (n := 6) (Nat.le_of_ble_eq_true rfl)
  show W p l e (hp_rm 43 0 0) s m ([.ref a0, .int a1, .int a2, .int a3, .int a4, .int a5] : List Value).toArray below meth c s.heap [] 0 0 (MQ below (hp_Qi Γ (fun r β => r = res.1 ∧ mo α β ∧ hm_M β a0 ρ res.2)) ([.ref a0, .int a1, .int a2, .int a3, .int a4, .int a5] : List Value).toArray s 0 0 (hp_A Γ)) (entryFrame m ([.ref a0, .int a1, .int a2, .int a3, .int a4, .int a5] : List Value).toArray 6)
  rw [lg_entry_eq]
  generalize (lg_sl ([.ref a0, .int a1, .int a2, .int a3, .int a4, .int a5]) ++ List.replicate (6 - (lg_sl ([.ref a0, .int a1, .int a2, .int a3, .int a4, .int a5])).length) Slot.unset).toArray = ls at hl ⊢
  have hl : lv_has ls 6 [(0, .ref a0), (1, .int a1), (2, .int a2), (3, .int a3), (4, .int a4), (5, .int a5)] := hl
  refine lv_aload_n hx hb dX12_whyByRecord_0 rfl (lv_at hl 0 rfl) (hp_n (n := 1) rfl ?_)
  refine lv_iload_n hx hb dX12_whyByRecord_1 rfl (lv_at hl 2 rfl) (hp_n (n := 2) rfl ?_)
  refine lv_iload hx hb dX12_whyByRecord_2 (lv_at hl 4 rfl) (hp_n (n := 4) rfl ?_)
  obtain ⟨σh1, qh1, hf⟩ := ms_bE hf
  refine m_cv (pc' := 7) (a := a0) (ρ := ρ) B (hp_runV (As := [.int a2, .int a4]) (rest := []) C B (m_X12_growth n Γ l α a0 ρ σ hM a2 a4 σh1 qh1) lb_X12_growth lv_X12_growth lk_X12_190 hM.1 rfl (by decide) rfl hl.1 rfl (Nat.le_of_ble_eq_true rfl) dX12_whyByRecord_4 ⟨Nat.le_refl _, Nat.le_refl _⟩) rfl (fun αh1 Hh1 Lh1 Bh1 Mh1 => ?_)
  refine lv_aload_n hx hb dX12_whyByRecord_7 rfl (lv_at hl 0 rfl) (hp_n (n := 8) rfl ?_)
  refine lv_iload_n hx hb dX12_whyByRecord_8 rfl (lv_at hl 1 rfl) (hp_n (n := 9) rfl ?_)
  obtain ⟨σh2, qh2, hf⟩ := ms_bE hf
  refine m_cv (pc' := 12) (a := a0) (ρ := ρ) Bh1 (hp_runV (As := [.int a1]) (rest := []) C Bh1 (m_X12_fetches n Γ l αh1 a0 ρ σh1 Mh1 a1 σh2 qh2) lb_X12_fetches lv_X12_fetches lk_X12_161 Mh1.1 rfl (by decide) rfl hl.1 rfl (Nat.le_of_ble_eq_true rfl) dX12_whyByRecord_9 ⟨Nat.le_refl _, Nat.le_refl _⟩) rfl (fun αh2 Hh2 Lh2 Bh2 Mh2 => ?_)
  refine lv_aload_n hx hb dX12_whyByRecord_12 rfl (lv_at hl 0 rfl) (hp_n (n := 13) rfl ?_)
  refine lv_aload_n hx hb dX12_whyByRecord_13 rfl (lv_at hl 0 rfl) (hp_n (n := 14) rfl ?_)
  refine m_geti (k := 7) (φ := 657) (pc' := 17) C Bh2 Mh2 fl_X12_139 rfl rfl dX12_whyByRecord_14 rfl ?_
  refine lv_iload_n hx hb dX12_whyByRecord_17 rfl (lv_at hl 2 rfl) (hp_n (n := 18) rfl ?_)
  refine lv_iload_n hx hb dX12_whyByRecord_18 rfl (lv_at hl 3 rfl) (hp_n (n := 19) rfl ?_)
  refine lv_iload hx hb dX12_whyByRecord_19 (lv_at hl 4 rfl) (hp_n (n := 21) rfl ?_)
  refine lv_iload hx hb dX12_whyByRecord_21 (lv_at hl 5 rfl) (hp_n (n := 23) rfl ?_)
  obtain ⟨rh3, σh3, qh3, hf⟩ := ms_cE hf
  refine m_ci (pc' := 26) (a := a0) (ρ := ρ) Bh2 (hp_runV (As := [.int (ms_I σh2 657), .int a2, .int a3, .int a4, .int a5]) (rest := []) C Bh2 (m_X12_whyGrown n Γ l αh2 a0 ρ σh2 Mh2 (ms_I σh2 657) a2 a3 a4 a5 (rh3, σh3) qh3) lb_X12_whyGrown lv_X12_whyGrown lk_X12_199 Mh2.1 rfl (by decide) rfl hl.1 rfl (Nat.le_of_ble_eq_true rfl) dX12_whyByRecord_23 ⟨Nat.le_refl _, Nat.le_refl _⟩) rfl (fun αh3 Hh3 Lh3 Bh3 Mh3 => ?_)
  cases hf
  exact q_iret C Bh3 hr hlk ⟨rfl, Bh3.2.2, Mh3⟩ dX12_whyByRecord_26
def f_X12_type_L102 (n : Nat) : Nat → ms_T → Int32 → Int32 → Option (Int32 × ms_T)
  | 0, _, _, _ => none
  | k102 + 1, σh4, v3_h4, v5_h4 =>
    if v3_h4 ≤ v5_h4 then
      ms_l (ms_sI σh4 664 v3_h4) fun σh6 =>
      some (v3_h4, σh6)
    else
      ms_g v5_h4 8 <|
      ms_g v5_h4 8 <|
      ms_l (ms_sE σh4 45 (v5_h4).toNatClampNeg (ms_E σh4 46 (v5_h4).toNatClampNeg)) fun σh9 =>
      ms_l (v5_h4 + 1) fun x10 =>
      (f_X12_type_L102 n k102) σh9 v3_h4 x10
def f_X12_type_J99 (n : Nat) (σh3 : ms_T) (v3_h3 : Int32) : Option (Int32 × ms_T) :=
  f_X12_type_L102 n n σh3 v3_h3 (0 : Int32)
def f_X12_type_J91 (n : Nat) (rec13 : ms_T → Int32 → Int32 → Int32 → Int32 → Int32 → Option (Int32 × ms_T)) (σh19 : ms_T) (v1_h19 : Int32) (v2_h19 : Int32) (v4_h19 : Int32) (v5_h19 : Int32) (w0_h19 : Int32) (w1_h19 : Int32) : Option (Int32 × ms_T) :=
  ms_l ((w1_h19 + w0_h19)) fun x20 =>
  ms_l (v5_h19 + 1) fun x21 =>
  rec13 σh19 v1_h19 v2_h19 x20 v4_h19 x21
def f_X12_type_J69 (n : Nat) (rec13 : ms_T → Int32 → Int32 → Int32 → Int32 → Int32 → Option (Int32 × ms_T)) (σh16 : ms_T) (v1_h16 : Int32) (v2_h16 : Int32) (v3_h16 : Int32) (v5_h16 : Int32) (v6_h16 : Int32) (w0_h16 : Int32) : Option (Int32 × ms_T) :=
  ms_g v5_h16 8 <|
  ms_l (ms_sE σh16 46 (v5_h16).toNatClampNeg v6_h16) fun σh18 =>
  if w0_h16 = 0 then
    f_X12_type_J91 n rec13 σh18 v1_h16 v2_h16 w0_h16 v5_h16 (0 : Int32) v3_h16
  else
    f_X12_type_J91 n rec13 σh18 v1_h16 v2_h16 w0_h16 v5_h16 (1 : Int32) v3_h16
def f_X12_type_J37 (n : Nat) (rec13 : ms_T → Int32 → Int32 → Int32 → Int32 → Int32 → Option (Int32 × ms_T)) (σh13 : ms_T) (v1_h13 : Int32) (v2_h13 : Int32) (v3_h13 : Int32) (v5_h13 : Int32) (w0_h13 : Int32) : Option (Int32 × ms_T) :=
  ms_l ((((w0_h13).toUInt32 >>> ((((5 : Int32) * (v5_h13 - v5_h13 / (6 : Int32) * (6 : Int32)))).toUInt32 &&& Int32.toUInt32 31)).toInt32 &&& (31 : Int32))) fun x14 =>
  if x14 ≤ (26 : Int32) then
    if x14 ≤ 0 then
      f_X12_type_J69 n rec13 σh13 v1_h13 v2_h13 v3_h13 v5_h13 x14 (0 : Int32)
    else
      f_X12_type_J69 n rec13 σh13 v1_h13 v2_h13 v3_h13 v5_h13 x14 (1 : Int32)
  else
    some ((-1 : Int32), σh13)
def f_X12_type_L13 (n : Nat) : Nat → ms_T → Int32 → Int32 → Int32 → Int32 → Int32 → Option (Int32 × ms_T)
  | 0, _, _, _, _, _, _ => none
  | k13 + 1, σh2, v1_h2, v2_h2, v3_h2, v4_h2, v5_h2 =>
    if (8 : Int32) ≤ v5_h2 then
      f_X12_type_J99 n σh2 v3_h2
    else
      if v4_h2 = 0 then
        f_X12_type_J99 n σh2 v3_h2
      else
        if (6 : Int32) ≤ v5_h2 then
          f_X12_type_J37 n (f_X12_type_L13 n k13) σh2 v1_h2 v2_h2 v3_h2 v5_h2 v2_h2
        else
          f_X12_type_J37 n (f_X12_type_L13 n k13) σh2 v1_h2 v2_h2 v3_h2 v5_h2 v1_h2
def f_X12_type (n : Nat) (σ : ms_T) (a1 : Int32) (a2 : Int32) : Option (Int32 × ms_T) :=
  ms_l (ms_sI σ 653 (0 : Int32)) fun σh1 =>
  f_X12_type_L13 n n σh1 a1 a2 (0 : Int32) (1 : Int32) (0 : Int32)
set_option maxRecDepth 100000 in
set_option maxHeartbeats 4000000 in
theorem m_X12_type (n : Nat) (Γ : hp_G) (l : Launch) (α : hp_T) (a0 : Nat) (ρ : Nat → Nat) (σ : ms_T) (hM : hm_M α a0 ρ σ) (a1 : Int32) (a2 : Int32) (res : (Int32 × ms_T)) (hf : f_X12_type n σ a1 a2 = some res) : Met l yX12_type (hp_ws yX12_type cX12_type 7 (some .int)) (hp_rm 0 0 0) (hp_Pc Γ α [.ref a0, .int a1, .int a2]) (hp_Qi Γ (fun r β => r = res.1 ∧ mo α β ∧ hm_M β a0 ρ res.2)) 0 0 (hp_A Γ) := by
  unfold f_X12_type at hf
  refine hp_start (by decide) ?_
  intro p e s m below meth c C hr hlk B0 hnm
  have C : hp_C Γ p m c cX12_type 7 s ([.ref a0, .int a1, .int a2] : List Value).toArray RX12 := C
  have hx := C.1.1
  have hb := C.1.2.1
  have hown := C.1.2.2.2.1
  have hts := C.1.2.2.2.2
  have B : hp_B Γ mo s α α s.heap [] := ⟨B0.1, B0.2.1, mo_rf⟩
  have hl := lv_entry ([.ref a0, .int a1, .int a2]) (n := 7) (Nat.le_of_ble_eq_true rfl)
  show W p l e (hp_rm 0 0 0) s m ([.ref a0, .int a1, .int a2] : List Value).toArray below meth c s.heap [] 0 0 (MQ below (hp_Qi Γ (fun r β => r = res.1 ∧ mo α β ∧ hm_M β a0 ρ res.2)) ([.ref a0, .int a1, .int a2] : List Value).toArray s 0 0 (hp_A Γ)) (entryFrame m ([.ref a0, .int a1, .int a2] : List Value).toArray 7)
  rw [lg_entry_eq]
  generalize (lg_sl ([.ref a0, .int a1, .int a2]) ++ List.replicate (7 - (lg_sl ([.ref a0, .int a1, .int a2])).length) Slot.unset).toArray = ls at hl ⊢
  have hl : lv_has ls 7 [(0, .ref a0), (1, .int a1), (2, .int a2)] := hl
  refine lv_aload_n hx hb dX12_type_0 rfl (lv_at hl 0 rfl) (hp_n (n := 1) rfl ?_)
  refine lv_iconst (v := 0) hx hb dX12_type_1 (by decide) (hp_n (n := 2) rfl ?_)
  refine m_puti (k := 3) (φ := 653) (pc' := 5) C B hM fl_X12_106 rfl rfl rfl rfl rfl dX12_type_2 rfl (fun αh1 Hh1 Lh1 σh1 eh1 Bh1 Mh1 => ?_)
  replace hf := ms_lE eh1 hf
  refine lv_iconst (v := 0) hx hb dX12_type_5 (by decide) (hp_n (n := 6) rfl ?_)
  refine lv_istore_n (lv' := [(3, .int (0 : Int32)), (0, .ref a0), (1, .int a1), (2, .int a2)]) hx hb dX12_type_6 rfl hl (by decide) rfl (fun ls hl => hp_n (n := 7) rfl ?_)
  refine lv_iconst (v := 1) hx hb dX12_type_7 (by decide) (hp_n (n := 8) rfl ?_)
  refine lv_istore (lv' := [(4, .int (1 : Int32)), (3, .int (0 : Int32)), (0, .ref a0), (1, .int a1), (2, .int a2)]) hx hb dX12_type_8 hl (by decide) rfl (fun ls hl => hp_n (n := 10) rfl ?_)
  refine lv_iconst (v := 0) hx hb dX12_type_10 (by decide) (hp_n (n := 11) rfl ?_)
  have J13 : ∀ (k13 : Nat) (αh2 : hp_T) (Hh2 : Heap) (Lh2 : List Loc) (Bh2 : hp_B Γ mo s α αh2 Hh2 Lh2) (σh2 : ms_T) (Mh2 : hm_M αh2 a0 ρ σh2) (v1_h2 : Int32) (v2_h2 : Int32) (v3_h2 : Int32) (v4_h2 : Int32) (v5_h2 : Int32) (ls : Array Slot) (hl : lv_has ls 7 [(0, .ref a0), (1, .int v1_h2), (2, .int v2_h2), (3, .int v3_h2), (4, .int v4_h2), (5, .int v5_h2)]) (hf : f_X12_type_L13 n k13 σh2 v1_h2 v2_h2 v3_h2 v4_h2 v5_h2 = some res), W p l e (hp_rm 0 0 0) s m ([.ref a0, .int a1, .int a2] : List Value).toArray below meth c Hh2 Lh2 0 0 (MQ below (hp_Qi Γ (fun r β => r = res.1 ∧ mo α β ∧ hm_M β a0 ρ res.2)) ([.ref a0, .int a1, .int a2] : List Value).toArray s 0 0 (hp_A Γ)) (F0 m 13 ls []) := by
    intro k13
    induction k13 with
    | zero => intro αh2 Hh2 Lh2 Bh2 σh2 Mh2 v1_h2 v2_h2 v3_h2 v4_h2 v5_h2 ls hl hf; rw [f_X12_type_L13.eq_1] at hf; cases hf
    | succ k13 ih13 =>
      intro αh2 Hh2 Lh2 Bh2 σh2 Mh2 v1_h2 v2_h2 v3_h2 v4_h2 v5_h2 ls hl hf
      rw [f_X12_type_L13.eq_2] at hf
      refine lv_iload hx hb dX12_type_13 (lv_at hl 5 rfl) (hp_n (n := 15) rfl ?_)
      refine lv_bipush (v := 8) hx hb dX12_type_15 (by decide) (hp_n (n := 17) rfl ?_)
      have J99 : ∀ (αh3 : hp_T) (Hh3 : Heap) (Lh3 : List Loc) (Bh3 : hp_B Γ mo s α αh3 Hh3 Lh3) (σh3 : ms_T) (Mh3 : hm_M αh3 a0 ρ σh3) (v3_h3 : Int32) (ls : Array Slot) (hl : lv_has ls 7 [(0, .ref a0), (3, .int v3_h3)]) (hf : f_X12_type_J99 n σh3 v3_h3 = some res), W p l e (hp_rm 0 0 0) s m ([.ref a0, .int a1, .int a2] : List Value).toArray below meth c Hh3 Lh3 0 0 (MQ below (hp_Qi Γ (fun r β => r = res.1 ∧ mo α β ∧ hm_M β a0 ρ res.2)) ([.ref a0, .int a1, .int a2] : List Value).toArray s 0 0 (hp_A Γ)) (F0 m 99 ls []) := by
        intro αh3 Hh3 Lh3 Bh3 σh3 Mh3 v3_h3 ls hl hf
        unfold f_X12_type_J99 at hf
        refine lv_iconst (v := 0) hx hb dX12_type_99 (by decide) (hp_n (n := 100) rfl ?_)
        have J102 : ∀ (k102 : Nat) (αh4 : hp_T) (Hh4 : Heap) (Lh4 : List Loc) (Bh4 : hp_B Γ mo s α αh4 Hh4 Lh4) (σh4 : ms_T) (Mh4 : hm_M αh4 a0 ρ σh4) (v3_h4 : Int32) (v5_h4 : Int32) (ls : Array Slot) (hl : lv_has ls 7 [(0, .ref a0), (3, .int v3_h4), (5, .int v5_h4)]) (hf : f_X12_type_L102 n k102 σh4 v3_h4 v5_h4 = some res), W p l e (hp_rm 0 0 0) s m ([.ref a0, .int a1, .int a2] : List Value).toArray below meth c Hh4 Lh4 0 0 (MQ below (hp_Qi Γ (fun r β => r = res.1 ∧ mo α β ∧ hm_M β a0 ρ res.2)) ([.ref a0, .int a1, .int a2] : List Value).toArray s 0 0 (hp_A Γ)) (F0 m 102 ls []) := by
          intro k102
          induction k102 with
          | zero => intro αh4 Hh4 Lh4 Bh4 σh4 Mh4 v3_h4 v5_h4 ls hl hf; rw [f_X12_type_L102.eq_1] at hf; cases hf
          | succ k102 ih102 =>
            intro αh4 Hh4 Lh4 Bh4 σh4 Mh4 v3_h4 v5_h4 ls hl hf
            rw [f_X12_type_L102.eq_2] at hf
            refine lv_iload hx hb dX12_type_102 (lv_at hl 2 rfl) (hp_n (n := 104) rfl ?_)
            refine lv_iload_n hx hb dX12_type_104 rfl (lv_at hl 1 rfl) (hp_n (n := 105) rfl ?_)
            refine lv_icmp_ge (tgt := 128) hx hb dX12_type_105 (by decide) (fun c5 => ?_) (fun c5 => hp_n (n := 108) rfl ?_)
            ·
              replace hf := ms_iT c5 hf
              refine lv_aload_n hx hb dX12_type_128 rfl (lv_at hl 0 rfl) (hp_n (n := 129) rfl ?_)
              refine lv_iload_n hx hb dX12_type_129 rfl (lv_at hl 1 rfl) (hp_n (n := 130) rfl ?_)
              refine m_puti (k := 14) (φ := 664) (pc' := 133) C Bh4 Mh4 fl_X12_203 rfl rfl rfl rfl rfl dX12_type_130 rfl (fun αh6 Hh6 Lh6 σh6 eh6 Bh6 Mh6 => ?_)
              replace hf := ms_lE eh6 hf
              refine lv_iload_n hx hb dX12_type_133 rfl (lv_at hl 1 rfl) (hp_n (n := 134) rfl ?_)
              cases hf
              exact q_iret C Bh6 hr hlk ⟨rfl, Bh6.2.2, Mh6⟩ dX12_type_134
            ·
              replace hf := ms_iF c5 hf
              refine lv_aload_n hx hb dX12_type_108 rfl (lv_at hl 0 rfl) (hp_n (n := 109) rfl ?_)
              refine m_getr (κ := 45) (k := 12) (pc' := 112) C Bh4 Mh4 fl_X12_25 rfl (by decide) dX12_type_109 rfl ?_
              refine lv_iload hx hb dX12_type_112 (lv_at hl 2 rfl) (hp_n (n := 114) rfl ?_)
              refine lv_aload_n hx hb dX12_type_114 rfl (lv_at hl 0 rfl) (hp_n (n := 115) rfl ?_)
              refine m_getr (κ := 46) (k := 13) (pc' := 118) C Bh4 Mh4 fl_X12_28 rfl (by decide) dX12_type_115 rfl ?_
              refine lv_iload hx hb dX12_type_118 (lv_at hl 2 rfl) (hp_n (n := 120) rfl ?_)
              obtain ⟨g7, hf⟩ := ms_gE hf
              refine m_ial (κ := 46) (φ := 663) (n := 8) (pc' := 121) C Bh4 Mh4 (by decide) (by decide) rfl g7 dX12_type_120 rfl ?_
              obtain ⟨g8, hf⟩ := ms_gE hf
              refine m_ias (κ := 45) (φ := 662) (n := 8) (pc' := 122) C Bh4 Mh4 (by decide) (by decide) rfl g8 dX12_type_121 rfl (fun αh9 Hh9 Lh9 σh9 eh9 Bh9 Mh9 => ?_)
              replace hf := ms_lE eh9 hf
              obtain ⟨x10, ex10⟩ : ∃ y : Int32, y = v5_h4 + 1 := ⟨_, rfl⟩
              replace hf := ms_lE ex10 hf
              refine lv_iinc (v := x10) (lv' := [(5, .int x10), (0, .ref a0), (3, .int v3_h4)]) hx hb dX12_type_122 hl (k := 2) rfl (by rw [ex10]; rfl) (by decide) rfl (fun ls hl => hp_n (n := 125) rfl ?_)
              refine lv_goto (tgt := 102) hx hb dX12_type_125 (by decide) ?_
              exact ih102 αh9 Hh9 Lh9 Bh9 σh9 Mh9 v3_h4 x10 ls (lv_sub hl [1, 2, 0] rfl) hf
        refine lv_istore (lv' := [(5, .int (0 : Int32)), (0, .ref a0), (3, .int v3_h3)]) hx hb dX12_type_100 hl (by decide) rfl (fun ls hl => hp_n (n := 102) rfl ?_)
        exact J102 n αh3 Hh3 Lh3 Bh3 σh3 Mh3 v3_h3 (0 : Int32) ls (lv_sub hl [1, 2, 0] rfl) hf
      refine lv_icmp_ge (tgt := 99) hx hb dX12_type_17 (by decide) (fun c11 => ?_) (fun c11 => hp_n (n := 20) rfl ?_)
      ·
        replace hf := ms_iT c11 hf
        exact J99 αh2 Hh2 Lh2 Bh2 σh2 Mh2 v3_h2 ls (lv_sub hl [0, 3] rfl) hf
      ·
        replace hf := ms_iF c11 hf
        refine lv_iload hx hb dX12_type_20 (lv_at hl 4 rfl) (hp_n (n := 22) rfl ?_)
        refine lv_if_eq (tgt := 99) hx hb dX12_type_22 (by decide) (fun c12 => ?_) (fun c12 => hp_n (n := 25) rfl ?_)
        ·
          replace hf := ms_iT c12 hf
          exact J99 αh2 Hh2 Lh2 Bh2 σh2 Mh2 v3_h2 ls (lv_sub hl [0, 3] rfl) hf
        ·
          replace hf := ms_iF c12 hf
          refine lv_iload hx hb dX12_type_25 (lv_at hl 5 rfl) (hp_n (n := 27) rfl ?_)
          refine lv_bipush (v := 6) hx hb dX12_type_27 (by decide) (hp_n (n := 29) rfl ?_)
          have J37 : ∀ (αh13 : hp_T) (Hh13 : Heap) (Lh13 : List Loc) (Bh13 : hp_B Γ mo s α αh13 Hh13 Lh13) (σh13 : ms_T) (Mh13 : hm_M αh13 a0 ρ σh13) (v1_h13 : Int32) (v2_h13 : Int32) (v3_h13 : Int32) (v5_h13 : Int32) (w0_h13 : Int32) (ls : Array Slot) (hl : lv_has ls 7 [(0, .ref a0), (1, .int v1_h13), (2, .int v2_h13), (3, .int v3_h13), (5, .int v5_h13)]) (hf : f_X12_type_J37 n (f_X12_type_L13 n k13) σh13 v1_h13 v2_h13 v3_h13 v5_h13 w0_h13 = some res), W p l e (hp_rm 0 0 0) s m ([.ref a0, .int a1, .int a2] : List Value).toArray below meth c Hh13 Lh13 0 0 (MQ below (hp_Qi Γ (fun r β => r = res.1 ∧ mo α β ∧ hm_M β a0 ρ res.2)) ([.ref a0, .int a1, .int a2] : List Value).toArray s 0 0 (hp_A Γ)) (F0 m 37 ls [.int w0_h13]) := by
            intro αh13 Hh13 Lh13 Bh13 σh13 Mh13 v1_h13 v2_h13 v3_h13 v5_h13 w0_h13 ls hl hf
            unfold f_X12_type_J37 at hf
            refine lv_iconst (v := 5) hx hb dX12_type_37 (by decide) (hp_n (n := 38) rfl ?_)
            refine lv_iload hx hb dX12_type_38 (lv_at hl 4 rfl) (hp_n (n := 40) rfl ?_)
            refine lv_bipush (v := 6) hx hb dX12_type_40 (by decide) (hp_n (n := 42) rfl ?_)
            refine lv_irem hx hb dX12_type_42 (by decide) (hp_n (n := 43) rfl ?_)
            refine lv_imul hx hb dX12_type_43 (hp_n (n := 44) rfl ?_)
            refine lv_iushr hx hb dX12_type_44 rfl (hp_n (n := 45) rfl ?_)
            refine lv_bipush (v := 31) hx hb dX12_type_45 (by decide) (hp_n (n := 47) rfl ?_)
            refine lv_iand hx hb dX12_type_47 (hp_n (n := 48) rfl ?_)
            refine lv_topi (fun x14 ex14 => ?_)
            replace hf := ms_lE ex14 hf
            refine lv_istore (lv' := [(6, .int x14), (0, .ref a0), (1, .int v1_h13), (2, .int v2_h13), (3, .int v3_h13), (5, .int v5_h13)]) hx hb dX12_type_48 hl (by decide) rfl (fun ls hl => hp_n (n := 50) rfl ?_)
            refine lv_iload hx hb dX12_type_50 (lv_at hl 0 rfl) (hp_n (n := 52) rfl ?_)
            refine lv_bipush (v := 26) hx hb dX12_type_52 (by decide) (hp_n (n := 54) rfl ?_)
            refine lv_icmp_le (tgt := 59) hx hb dX12_type_54 (by decide) (fun c15 => ?_) (fun c15 => hp_n (n := 57) rfl ?_)
            ·
              replace hf := ms_iT c15 hf
              refine lv_iload hx hb dX12_type_59 (lv_at hl 0 rfl) (hp_n (n := 61) rfl ?_)
              have J69 : ∀ (αh16 : hp_T) (Hh16 : Heap) (Lh16 : List Loc) (Bh16 : hp_B Γ mo s α αh16 Hh16 Lh16) (σh16 : ms_T) (Mh16 : hm_M αh16 a0 ρ σh16) (v1_h16 : Int32) (v2_h16 : Int32) (v3_h16 : Int32) (v5_h16 : Int32) (v6_h16 : Int32) (w0_h16 : Int32) (ls : Array Slot) (hl : lv_has ls 7 [(0, .ref a0), (1, .int v1_h16), (2, .int v2_h16), (3, .int v3_h16), (5, .int v5_h16), (6, .int v6_h16)]) (hf : f_X12_type_J69 n (f_X12_type_L13 n k13) σh16 v1_h16 v2_h16 v3_h16 v5_h16 v6_h16 w0_h16 = some res), W p l e (hp_rm 0 0 0) s m ([.ref a0, .int a1, .int a2] : List Value).toArray below meth c Hh16 Lh16 0 0 (MQ below (hp_Qi Γ (fun r β => r = res.1 ∧ mo α β ∧ hm_M β a0 ρ res.2)) ([.ref a0, .int a1, .int a2] : List Value).toArray s 0 0 (hp_A Γ)) (F0 m 69 ls [.int w0_h16]) := by
                intro αh16 Hh16 Lh16 Bh16 σh16 Mh16 v1_h16 v2_h16 v3_h16 v5_h16 v6_h16 w0_h16 ls hl hf
                unfold f_X12_type_J69 at hf
                refine lv_istore (lv' := [(4, .int w0_h16), (0, .ref a0), (1, .int v1_h16), (2, .int v2_h16), (3, .int v3_h16), (5, .int v5_h16), (6, .int v6_h16)]) hx hb dX12_type_69 hl (by decide) rfl (fun ls hl => hp_n (n := 71) rfl ?_)
                refine lv_aload_n hx hb dX12_type_71 rfl (lv_at hl 1 rfl) (hp_n (n := 72) rfl ?_)
                refine m_getr (κ := 46) (k := 13) (pc' := 75) C Bh16 Mh16 fl_X12_28 rfl (by decide) dX12_type_72 rfl ?_
                refine lv_iload hx hb dX12_type_75 (lv_at hl 5 rfl) (hp_n (n := 77) rfl ?_)
                refine lv_iload hx hb dX12_type_77 (lv_at hl 6 rfl) (hp_n (n := 79) rfl ?_)
                obtain ⟨g17, hf⟩ := ms_gE hf
                refine m_ias (κ := 46) (φ := 663) (n := 8) (pc' := 80) C Bh16 Mh16 (by decide) (by decide) rfl g17 dX12_type_79 rfl (fun αh18 Hh18 Lh18 σh18 eh18 Bh18 Mh18 => ?_)
                replace hf := ms_lE eh18 hf
                refine lv_iload_n hx hb dX12_type_80 rfl (lv_at hl 4 rfl) (hp_n (n := 81) rfl ?_)
                refine lv_iload hx hb dX12_type_81 (lv_at hl 0 rfl) (hp_n (n := 83) rfl ?_)
                have J91 : ∀ (αh19 : hp_T) (Hh19 : Heap) (Lh19 : List Loc) (Bh19 : hp_B Γ mo s α αh19 Hh19 Lh19) (σh19 : ms_T) (Mh19 : hm_M αh19 a0 ρ σh19) (v1_h19 : Int32) (v2_h19 : Int32) (v4_h19 : Int32) (v5_h19 : Int32) (w0_h19 : Int32) (w1_h19 : Int32) (ls : Array Slot) (hl : lv_has ls 7 [(0, .ref a0), (1, .int v1_h19), (2, .int v2_h19), (4, .int v4_h19), (5, .int v5_h19)]) (hf : f_X12_type_J91 n (f_X12_type_L13 n k13) σh19 v1_h19 v2_h19 v4_h19 v5_h19 w0_h19 w1_h19 = some res), W p l e (hp_rm 0 0 0) s m ([.ref a0, .int a1, .int a2] : List Value).toArray below meth c Hh19 Lh19 0 0 (MQ below (hp_Qi Γ (fun r β => r = res.1 ∧ mo α β ∧ hm_M β a0 ρ res.2)) ([.ref a0, .int a1, .int a2] : List Value).toArray s 0 0 (hp_A Γ)) (F0 m 91 ls [.int w0_h19, .int w1_h19]) := by
                  intro αh19 Hh19 Lh19 Bh19 σh19 Mh19 v1_h19 v2_h19 v4_h19 v5_h19 w0_h19 w1_h19 ls hl hf
                  unfold f_X12_type_J91 at hf
                  refine lv_iadd hx hb dX12_type_91 (hp_n (n := 92) rfl ?_)
                  refine lv_topi (fun x20 ex20 => ?_)
                  replace hf := ms_lE ex20 hf
                  refine lv_istore_n (lv' := [(3, .int x20), (0, .ref a0), (1, .int v1_h19), (2, .int v2_h19), (4, .int v4_h19), (5, .int v5_h19)]) hx hb dX12_type_92 rfl hl (by decide) rfl (fun ls hl => hp_n (n := 93) rfl ?_)
                  obtain ⟨x21, ex21⟩ : ∃ y : Int32, y = v5_h19 + 1 := ⟨_, rfl⟩
                  replace hf := ms_lE ex21 hf
                  refine lv_iinc (v := x21) (lv' := [(5, .int x21), (3, .int x20), (0, .ref a0), (1, .int v1_h19), (2, .int v2_h19), (4, .int v4_h19)]) hx hb dX12_type_93 hl (k := 5) rfl (by rw [ex21]; rfl) (by decide) rfl (fun ls hl => hp_n (n := 96) rfl ?_)
                  refine lv_goto (tgt := 13) hx hb dX12_type_96 (by decide) ?_
                  exact ih13 αh19 Hh19 Lh19 Bh19 σh19 Mh19 v1_h19 v2_h19 x20 v4_h19 x21 ls (lv_sub hl [2, 3, 4, 1, 5, 0] rfl) hf
                refine lv_if_eq (tgt := 90) hx hb dX12_type_83 (by decide) (fun c22 => ?_) (fun c22 => hp_n (n := 86) rfl ?_)
                ·
                  replace hf := ms_iT c22 hf
                  refine lv_iconst (v := 0) hx hb dX12_type_90 (by decide) (hp_n (n := 91) rfl ?_)
                  exact J91 αh18 Hh18 Lh18 Bh18 σh18 Mh18 v1_h16 v2_h16 w0_h16 v5_h16 (0 : Int32) v3_h16 ls (lv_sub hl [1, 2, 3, 0, 5] rfl) hf
                ·
                  replace hf := ms_iF c22 hf
                  refine lv_iconst (v := 1) hx hb dX12_type_86 (by decide) (hp_n (n := 87) rfl ?_)
                  refine lv_goto (tgt := 91) hx hb dX12_type_87 (by decide) ?_
                  exact J91 αh18 Hh18 Lh18 Bh18 σh18 Mh18 v1_h16 v2_h16 w0_h16 v5_h16 (1 : Int32) v3_h16 ls (lv_sub hl [1, 2, 3, 0, 5] rfl) hf
              refine lv_if_le (tgt := 68) hx hb dX12_type_61 (by decide) (fun c23 => ?_) (fun c23 => hp_n (n := 64) rfl ?_)
              ·
                replace hf := ms_iT c23 hf
                refine lv_iconst (v := 0) hx hb dX12_type_68 (by decide) (hp_n (n := 69) rfl ?_)
                exact J69 αh13 Hh13 Lh13 Bh13 σh13 Mh13 v1_h13 v2_h13 v3_h13 v5_h13 x14 (0 : Int32) ls (lv_sub hl [1, 2, 3, 4, 5, 0] rfl) hf
              ·
                replace hf := ms_iF c23 hf
                refine lv_iconst (v := 1) hx hb dX12_type_64 (by decide) (hp_n (n := 65) rfl ?_)
                refine lv_goto (tgt := 69) hx hb dX12_type_65 (by decide) ?_
                exact J69 αh13 Hh13 Lh13 Bh13 σh13 Mh13 v1_h13 v2_h13 v3_h13 v5_h13 x14 (1 : Int32) ls (lv_sub hl [1, 2, 3, 4, 5, 0] rfl) hf
            ·
              replace hf := ms_iF c15 hf
              refine lv_iconst (v := (-1)) hx hb dX12_type_57 (by decide) (hp_n (n := 58) rfl ?_)
              cases hf
              exact q_iret C Bh13 hr hlk ⟨rfl, Bh13.2.2, Mh13⟩ dX12_type_58
          refine lv_icmp_ge (tgt := 36) hx hb dX12_type_29 (by decide) (fun c24 => ?_) (fun c24 => hp_n (n := 32) rfl ?_)
          ·
            replace hf := ms_iT c24 hf
            refine lv_iload_n hx hb dX12_type_36 rfl (lv_at hl 2 rfl) (hp_n (n := 37) rfl ?_)
            exact J37 αh2 Hh2 Lh2 Bh2 σh2 Mh2 v1_h2 v2_h2 v3_h2 v5_h2 v2_h2 ls (lv_sub hl [0, 1, 2, 3, 5] rfl) hf
          ·
            replace hf := ms_iF c24 hf
            refine lv_iload_n hx hb dX12_type_32 rfl (lv_at hl 1 rfl) (hp_n (n := 33) rfl ?_)
            refine lv_goto (tgt := 37) hx hb dX12_type_33 (by decide) ?_
            exact J37 αh2 Hh2 Lh2 Bh2 σh2 Mh2 v1_h2 v2_h2 v3_h2 v5_h2 v1_h2 ls (lv_sub hl [0, 1, 2, 3, 5] rfl) hf
  refine lv_istore (lv' := [(5, .int (0 : Int32)), (4, .int (1 : Int32)), (3, .int (0 : Int32)), (0, .ref a0), (1, .int a1), (2, .int a2)]) hx hb dX12_type_11 hl (by decide) rfl (fun ls hl => hp_n (n := 13) rfl ?_)
  exact J13 n αh1 Hh1 Lh1 Bh1 σh1 Mh1 a1 a2 (0 : Int32) (1 : Int32) (0 : Int32) ls (lv_sub hl [3, 4, 5, 2, 1, 0] rfl) hf
def f_X12_hand_L2 (n : Nat) : Nat → ms_T → Int32 → Option ms_T
  | 0, _, _ => none
  | k2 + 1, σh1, v1_h1 =>
    if (ms_I σh1 664) ≤ v1_h1 then
      ms_l (ms_sI σh1 665 (ms_I σh1 664)) fun σh3 =>
      some σh3
    else
      ms_g v1_h1 8 <|
      ms_g v1_h1 8 <|
      ms_l (ms_sE σh1 46 (v1_h1).toNatClampNeg (ms_E σh1 45 (v1_h1).toNatClampNeg)) fun σh6 =>
      ms_l (v1_h1 + 1) fun x7 =>
      (f_X12_hand_L2 n k2) σh6 x7
def f_X12_hand (n : Nat) (σ : ms_T) : Option ms_T :=
  f_X12_hand_L2 n n σ (0 : Int32)
set_option maxRecDepth 100000 in
set_option maxHeartbeats 4000000 in
theorem m_X12_hand (n : Nat) (Γ : hp_G) (l : Launch) (α : hp_T) (a0 : Nat) (ρ : Nat → Nat) (σ : ms_T) (hM : hm_M α a0 ρ σ)  (res : ms_T) (hf : f_X12_hand n σ = some res) : Met l yX12_hand (hp_ws yX12_hand cX12_hand 2 none) (hp_rm 0 0 0) (hp_Pc Γ α [.ref a0]) (hp_Qv Γ (fun β => mo α β ∧ hm_M β a0 ρ res)) 0 0 (hp_A Γ) := by
  unfold f_X12_hand at hf
  refine hp_start (by decide) ?_
  intro p e s m below meth c C hr hlk B0 hnm
  have C : hp_C Γ p m c cX12_hand 2 s ([.ref a0] : List Value).toArray RX12 := C
  have hx := C.1.1
  have hb := C.1.2.1
  have hown := C.1.2.2.2.1
  have hts := C.1.2.2.2.2
  have B : hp_B Γ mo s α α s.heap [] := ⟨B0.1, B0.2.1, mo_rf⟩
  have hl := lv_entry ([.ref a0]) (n := 2) (Nat.le_of_ble_eq_true rfl)
  show W p l e (hp_rm 0 0 0) s m ([.ref a0] : List Value).toArray below meth c s.heap [] 0 0 (MQ below (hp_Qv Γ (fun β => mo α β ∧ hm_M β a0 ρ res)) ([.ref a0] : List Value).toArray s 0 0 (hp_A Γ)) (entryFrame m ([.ref a0] : List Value).toArray 2)
  rw [lg_entry_eq]
  generalize (lg_sl ([.ref a0]) ++ List.replicate (2 - (lg_sl ([.ref a0])).length) Slot.unset).toArray = ls at hl ⊢
  have hl : lv_has ls 2 [(0, .ref a0)] := hl
  refine lv_iconst (v := 0) hx hb dX12_hand_0 (by decide) (hp_n (n := 1) rfl ?_)
  have J2 : ∀ (k2 : Nat) (αh1 : hp_T) (Hh1 : Heap) (Lh1 : List Loc) (Bh1 : hp_B Γ mo s α αh1 Hh1 Lh1) (σh1 : ms_T) (Mh1 : hm_M αh1 a0 ρ σh1) (v1_h1 : Int32) (ls : Array Slot) (hl : lv_has ls 2 [(0, .ref a0), (1, .int v1_h1)]) (hf : f_X12_hand_L2 n k2 σh1 v1_h1 = some res), W p l e (hp_rm 0 0 0) s m ([.ref a0] : List Value).toArray below meth c Hh1 Lh1 0 0 (MQ below (hp_Qv Γ (fun β => mo α β ∧ hm_M β a0 ρ res)) ([.ref a0] : List Value).toArray s 0 0 (hp_A Γ)) (F0 m 2 ls []) := by
    intro k2
    induction k2 with
    | zero => intro αh1 Hh1 Lh1 Bh1 σh1 Mh1 v1_h1 ls hl hf; rw [f_X12_hand_L2.eq_1] at hf; cases hf
    | succ k2 ih2 =>
      intro αh1 Hh1 Lh1 Bh1 σh1 Mh1 v1_h1 ls hl hf
      rw [f_X12_hand_L2.eq_2] at hf
      refine lv_iload_n hx hb dX12_hand_2 rfl (lv_at hl 1 rfl) (hp_n (n := 3) rfl ?_)
      refine lv_aload_n hx hb dX12_hand_3 rfl (lv_at hl 0 rfl) (hp_n (n := 4) rfl ?_)
      refine m_geti (k := 14) (φ := 664) (pc' := 7) C Bh1 Mh1 fl_X12_203 rfl rfl dX12_hand_4 rfl ?_
      refine lv_icmp_ge (tgt := 28) hx hb dX12_hand_7 (by decide) (fun c2 => ?_) (fun c2 => hp_n (n := 10) rfl ?_)
      ·
        replace hf := ms_iT c2 hf
        refine lv_aload_n hx hb dX12_hand_28 rfl (lv_at hl 0 rfl) (hp_n (n := 29) rfl ?_)
        refine lv_aload_n hx hb dX12_hand_29 rfl (lv_at hl 0 rfl) (hp_n (n := 30) rfl ?_)
        refine m_geti (k := 14) (φ := 664) (pc' := 33) C Bh1 Mh1 fl_X12_203 rfl rfl dX12_hand_30 rfl ?_
        refine m_puti (k := 15) (φ := 665) (pc' := 36) C Bh1 Mh1 fl_X12_206 rfl rfl rfl rfl rfl dX12_hand_33 rfl (fun αh3 Hh3 Lh3 σh3 eh3 Bh3 Mh3 => ?_)
        replace hf := ms_lE eh3 hf
        cases hf
        exact q_vret C Bh3 hr hlk ⟨Bh3.2.2, Mh3⟩ dX12_hand_36
      ·
        replace hf := ms_iF c2 hf
        refine lv_aload_n hx hb dX12_hand_10 rfl (lv_at hl 0 rfl) (hp_n (n := 11) rfl ?_)
        refine m_getr (κ := 46) (k := 13) (pc' := 14) C Bh1 Mh1 fl_X12_28 rfl (by decide) dX12_hand_11 rfl ?_
        refine lv_iload_n hx hb dX12_hand_14 rfl (lv_at hl 1 rfl) (hp_n (n := 15) rfl ?_)
        refine lv_aload_n hx hb dX12_hand_15 rfl (lv_at hl 0 rfl) (hp_n (n := 16) rfl ?_)
        refine m_getr (κ := 45) (k := 12) (pc' := 19) C Bh1 Mh1 fl_X12_25 rfl (by decide) dX12_hand_16 rfl ?_
        refine lv_iload_n hx hb dX12_hand_19 rfl (lv_at hl 1 rfl) (hp_n (n := 20) rfl ?_)
        obtain ⟨g4, hf⟩ := ms_gE hf
        refine m_ial (κ := 45) (φ := 662) (n := 8) (pc' := 21) C Bh1 Mh1 (by decide) (by decide) rfl g4 dX12_hand_20 rfl ?_
        obtain ⟨g5, hf⟩ := ms_gE hf
        refine m_ias (κ := 46) (φ := 663) (n := 8) (pc' := 22) C Bh1 Mh1 (by decide) (by decide) rfl g5 dX12_hand_21 rfl (fun αh6 Hh6 Lh6 σh6 eh6 Bh6 Mh6 => ?_)
        replace hf := ms_lE eh6 hf
        obtain ⟨x7, ex7⟩ : ∃ y : Int32, y = v1_h1 + 1 := ⟨_, rfl⟩
        replace hf := ms_lE ex7 hf
        refine lv_iinc (v := x7) (lv' := [(1, .int x7), (0, .ref a0)]) hx hb dX12_hand_22 hl (k := 1) rfl (by rw [ex7]; rfl) (by decide) rfl (fun ls hl => hp_n (n := 25) rfl ?_)
        refine lv_goto (tgt := 2) hx hb dX12_hand_25 (by decide) ?_
        exact ih2 αh6 Hh6 Lh6 Bh6 σh6 Mh6 x7 ls (lv_sub hl [1, 0] rfl) hf
  refine lv_istore_n (lv' := [(1, .int (0 : Int32)), (0, .ref a0)]) hx hb dX12_hand_1 rfl hl (by decide) rfl (fun ls hl => hp_n (n := 2) rfl ?_)
  exact J2 n α s.heap [] B σ hM (0 : Int32) ls (lv_sub hl [1, 0] rfl) hf
def f_X12_adds_L43 (n : Nat) : Nat → ms_T → Int32 → Int32 → Int32 → Option (Int32 × ms_T)
  | 0, _, _, _, _ => none
  | k43 + 1, σh7, v1_h7, v2_h7, v3_h7 =>
    if (ms_I σh7 665) ≤ v3_h7 then
      ms_l (((72 : Int32) + v1_h7)) fun x9 =>
      ms_g x9 1980 <|
      ms_g x9 1980 <|
      ms_l (ms_sE σh7 40 (x9).toNatClampNeg ((ms_E σh7 40 (x9).toNatClampNeg) + (1 : Int32))) fun σh12 =>
      ms_g (4 : Int32) 1980 <|
      ms_g (4 : Int32) 1980 <|
      ms_l (ms_sE σh12 40 ((4 : Int32)).toNatClampNeg ((ms_E σh12 40 ((4 : Int32)).toNatClampNeg) + (1 : Int32))) fun σh15 =>
      ms_b (f_X12_sizeOf n σh15 v1_h7) fun rh16 =>
      some ((rh16 - (1 : Int32)), σh15)
    else
      ms_g v3_h7 8 <|
      ms_g (((444 : Int32) + ((8 : Int32) * v2_h7)) + v3_h7) 1980 <|
      ms_l (ms_sE σh7 40 ((((444 : Int32) + ((8 : Int32) * v2_h7)) + v3_h7)).toNatClampNeg (ms_E σh7 46 (v3_h7).toNatClampNeg)) fun σh19 =>
      ms_l (v3_h7 + 1) fun x20 =>
      (f_X12_adds_L43 n k43) σh19 v1_h7 v2_h7 x20
def f_X12_adds (n : Nat) (σ : ms_T) (a1 : Int32) : Option (Int32 × ms_T) :=
  ms_b (f_X12_sizeOf n σ a1) fun rh1 =>
  if rh1 = (48 : Int32) then
    ms_c (f_X12_refuse n σ (3 : Int32)) fun rh21 σh21 =>
    some (rh21, σh21)
  else
    ms_b (f_X12_sizeOf n σ a1) fun rh3 =>
    ms_l ((((48 : Int32) * a1) + rh3)) fun x4 =>
    ms_g ((252 : Int32) + x4) 1980 <|
    ms_l (ms_sE σ 40 (((252 : Int32) + x4)).toNatClampNeg (ms_I σ 665)) fun σh6 =>
    f_X12_adds_L43 n n σh6 a1 x4 (0 : Int32)
set_option maxRecDepth 100000 in
set_option maxHeartbeats 4000000 in
theorem m_X12_adds (n : Nat) (Γ : hp_G) (l : Launch) (α : hp_T) (a0 : Nat) (ρ : Nat → Nat) (σ : ms_T) (hM : hm_M α a0 ρ σ) (a1 : Int32) (res : (Int32 × ms_T)) (hf : f_X12_adds n σ a1 = some res) : Met l yX12_adds (hp_ws yX12_adds cX12_adds 4 (some .int)) (hp_rm 1 0 0) (hp_Pc Γ α [.ref a0, .int a1]) (hp_Qi Γ (fun r β => r = res.1 ∧ mo α β ∧ hm_M β a0 ρ res.2)) 0 0 (hp_A Γ) := by
  unfold f_X12_adds at hf
  refine hp_start (by decide) ?_
  intro p e s m below meth c C hr hlk B0 hnm
  have C : hp_C Γ p m c cX12_adds 4 s ([.ref a0, .int a1] : List Value).toArray RX12 := C
  have hx := C.1.1
  have hb := C.1.2.1
  have hown := C.1.2.2.2.1
  have hts := C.1.2.2.2.2
  have B : hp_B Γ mo s α α s.heap [] := ⟨B0.1, B0.2.1, mo_rf⟩
  have hl := lv_entry ([.ref a0, .int a1]) (n := 4) (Nat.le_of_ble_eq_true rfl)
  show W p l e (hp_rm 1 0 0) s m ([.ref a0, .int a1] : List Value).toArray below meth c s.heap [] 0 0 (MQ below (hp_Qi Γ (fun r β => r = res.1 ∧ mo α β ∧ hm_M β a0 ρ res.2)) ([.ref a0, .int a1] : List Value).toArray s 0 0 (hp_A Γ)) (entryFrame m ([.ref a0, .int a1] : List Value).toArray 4)
  rw [lg_entry_eq]
  generalize (lg_sl ([.ref a0, .int a1]) ++ List.replicate (4 - (lg_sl ([.ref a0, .int a1])).length) Slot.unset).toArray = ls at hl ⊢
  have hl : lv_has ls 4 [(0, .ref a0), (1, .int a1)] := hl
  refine lv_aload_n hx hb dX12_adds_0 rfl (lv_at hl 0 rfl) (hp_n (n := 1) rfl ?_)
  refine lv_iload_n hx hb dX12_adds_1 rfl (lv_at hl 1 rfl) (hp_n (n := 2) rfl ?_)
  obtain ⟨rh1, qh1, hf⟩ := ms_bE hf
  refine m_cp (pc' := 5) B (hp_runV (As := [.int a1]) (rest := []) C B (m_X12_sizeOf n Γ l α a0 ρ σ hM a1 rh1 qh1) lb_X12_sizeOf lv_X12_sizeOf lk_X12_209 hM.1 rfl (by decide) rfl hl.1 rfl (Nat.le_of_ble_eq_true rfl) dX12_adds_2 ⟨Nat.le_refl _, Nat.le_refl _⟩) rfl (fun Hh1 Lh1 Bh1 => ?_)
  refine lv_bipush (v := 48) hx hb dX12_adds_5 (by decide) (hp_n (n := 7) rfl ?_)
  refine lv_icmp_ne (tgt := 16) hx hb dX12_adds_7 (by decide) (fun c2 => ?_) (fun c2 => hp_n (n := 10) rfl ?_)
  ·
    replace hf := ms_iF c2 hf
    refine lv_bipush (v := 48) hx hb dX12_adds_16 (by decide) (hp_n (n := 18) rfl ?_)
    refine lv_iload_n hx hb dX12_adds_18 rfl (lv_at hl 1 rfl) (hp_n (n := 19) rfl ?_)
    refine lv_imul hx hb dX12_adds_19 (hp_n (n := 20) rfl ?_)
    refine lv_aload_n hx hb dX12_adds_20 rfl (lv_at hl 0 rfl) (hp_n (n := 21) rfl ?_)
    refine lv_iload_n hx hb dX12_adds_21 rfl (lv_at hl 1 rfl) (hp_n (n := 22) rfl ?_)
    obtain ⟨rh3, qh3, hf⟩ := ms_bE hf
    refine m_cp (pc' := 25) Bh1 (hp_runV (As := [.int a1]) (rest := [.int ((48 : Int32) * a1)]) C Bh1 (m_X12_sizeOf n Γ l α a0 ρ σ hM a1 rh3 qh3) lb_X12_sizeOf lv_X12_sizeOf lk_X12_209 hM.1 rfl (by decide) rfl hl.1 rfl (Nat.le_of_ble_eq_true rfl) dX12_adds_22 ⟨Nat.le_refl _, Nat.le_refl _⟩) rfl (fun Hh3 Lh3 Bh3 => ?_)
    refine lv_iadd hx hb dX12_adds_25 (hp_n (n := 26) rfl ?_)
    refine lv_topi (fun x4 ex4 => ?_)
    replace hf := ms_lE ex4 hf
    refine lv_istore_n (lv' := [(2, .int x4), (0, .ref a0), (1, .int a1)]) hx hb dX12_adds_26 rfl hl (by decide) rfl (fun ls hl => hp_n (n := 27) rfl ?_)
    refine lv_aload_n hx hb dX12_adds_27 rfl (lv_at hl 1 rfl) (hp_n (n := 28) rfl ?_)
    refine m_getr (κ := 40) (k := 0) (pc' := 31) C Bh3 hM fl_X12_7 rfl (by decide) dX12_adds_28 rfl ?_
    refine lv_sipush (v := 252) hx hb dX12_adds_31 (by decide) (hp_n (n := 34) rfl ?_)
    refine lv_iload_n hx hb dX12_adds_34 rfl (lv_at hl 0 rfl) (hp_n (n := 35) rfl ?_)
    refine lv_iadd hx hb dX12_adds_35 (hp_n (n := 36) rfl ?_)
    refine lv_aload_n hx hb dX12_adds_36 rfl (lv_at hl 1 rfl) (hp_n (n := 37) rfl ?_)
    refine m_geti (k := 15) (φ := 665) (pc' := 40) C Bh3 hM fl_X12_206 rfl rfl dX12_adds_37 rfl ?_
    obtain ⟨g5, hf⟩ := ms_gE hf
    refine m_ias (κ := 40) (φ := 650) (n := 1980) (pc' := 41) C Bh3 hM (by decide) (by decide) rfl g5 dX12_adds_40 rfl (fun αh6 Hh6 Lh6 σh6 eh6 Bh6 Mh6 => ?_)
    replace hf := ms_lE eh6 hf
    refine lv_iconst (v := 0) hx hb dX12_adds_41 (by decide) (hp_n (n := 42) rfl ?_)
    have J43 : ∀ (k43 : Nat) (αh7 : hp_T) (Hh7 : Heap) (Lh7 : List Loc) (Bh7 : hp_B Γ mo s α αh7 Hh7 Lh7) (σh7 : ms_T) (Mh7 : hm_M αh7 a0 ρ σh7) (v1_h7 : Int32) (v2_h7 : Int32) (v3_h7 : Int32) (ls : Array Slot) (hl : lv_has ls 4 [(0, .ref a0), (1, .int v1_h7), (2, .int v2_h7), (3, .int v3_h7)]) (hf : f_X12_adds_L43 n k43 σh7 v1_h7 v2_h7 v3_h7 = some res), W p l e (hp_rm 1 0 0) s m ([.ref a0, .int a1] : List Value).toArray below meth c Hh7 Lh7 0 0 (MQ below (hp_Qi Γ (fun r β => r = res.1 ∧ mo α β ∧ hm_M β a0 ρ res.2)) ([.ref a0, .int a1] : List Value).toArray s 0 0 (hp_A Γ)) (F0 m 43 ls []) := by
      intro k43
      induction k43 with
      | zero => intro αh7 Hh7 Lh7 Bh7 σh7 Mh7 v1_h7 v2_h7 v3_h7 ls hl hf; rw [f_X12_adds_L43.eq_1] at hf; cases hf
      | succ k43 ih43 =>
        intro αh7 Hh7 Lh7 Bh7 σh7 Mh7 v1_h7 v2_h7 v3_h7 ls hl hf
        rw [f_X12_adds_L43.eq_2] at hf
        refine lv_iload_n hx hb dX12_adds_43 rfl (lv_at hl 3 rfl) (hp_n (n := 44) rfl ?_)
        refine lv_aload_n hx hb dX12_adds_44 rfl (lv_at hl 0 rfl) (hp_n (n := 45) rfl ?_)
        refine m_geti (k := 15) (φ := 665) (pc' := 48) C Bh7 Mh7 fl_X12_206 rfl rfl dX12_adds_45 rfl ?_
        refine lv_icmp_ge (tgt := 78) hx hb dX12_adds_48 (by decide) (fun c8 => ?_) (fun c8 => hp_n (n := 51) rfl ?_)
        ·
          replace hf := ms_iT c8 hf
          refine lv_aload_n hx hb dX12_adds_78 rfl (lv_at hl 0 rfl) (hp_n (n := 79) rfl ?_)
          refine m_getr (κ := 40) (k := 0) (pc' := 82) C Bh7 Mh7 fl_X12_7 rfl (by decide) dX12_adds_79 rfl ?_
          refine lv_bipush (v := 72) hx hb dX12_adds_82 (by decide) (hp_n (n := 84) rfl ?_)
          refine lv_iload_n hx hb dX12_adds_84 rfl (lv_at hl 1 rfl) (hp_n (n := 85) rfl ?_)
          refine lv_iadd hx hb dX12_adds_85 (hp_n (n := 86) rfl ?_)
          refine lv_topi (fun x9 ex9 => ?_)
          replace hf := ms_lE ex9 hf
          refine lv_dup2_11 hx hb dX12_adds_86 rfl rfl (hp_n (n := 87) rfl ?_)
          obtain ⟨g10, hf⟩ := ms_gE hf
          refine m_ial (κ := 40) (φ := 650) (n := 1980) (pc' := 88) C Bh7 Mh7 (by decide) (by decide) rfl g10 dX12_adds_87 rfl ?_
          refine lv_iconst (v := 1) hx hb dX12_adds_88 (by decide) (hp_n (n := 89) rfl ?_)
          refine lv_iadd hx hb dX12_adds_89 (hp_n (n := 90) rfl ?_)
          obtain ⟨g11, hf⟩ := ms_gE hf
          refine m_ias (κ := 40) (φ := 650) (n := 1980) (pc' := 91) C Bh7 Mh7 (by decide) (by decide) rfl g11 dX12_adds_90 rfl (fun αh12 Hh12 Lh12 σh12 eh12 Bh12 Mh12 => ?_)
          replace hf := ms_lE eh12 hf
          refine lv_aload_n hx hb dX12_adds_91 rfl (lv_at hl 0 rfl) (hp_n (n := 92) rfl ?_)
          refine m_getr (κ := 40) (k := 0) (pc' := 95) C Bh12 Mh12 fl_X12_7 rfl (by decide) dX12_adds_92 rfl ?_
          refine lv_iconst (v := 4) hx hb dX12_adds_95 (by decide) (hp_n (n := 96) rfl ?_)
          refine lv_dup2_11 hx hb dX12_adds_96 rfl rfl (hp_n (n := 97) rfl ?_)
          obtain ⟨g13, hf⟩ := ms_gE hf
          refine m_ial (κ := 40) (φ := 650) (n := 1980) (pc' := 98) C Bh12 Mh12 (by decide) (by decide) rfl g13 dX12_adds_97 rfl ?_
          refine lv_iconst (v := 1) hx hb dX12_adds_98 (by decide) (hp_n (n := 99) rfl ?_)
          refine lv_iadd hx hb dX12_adds_99 (hp_n (n := 100) rfl ?_)
          obtain ⟨g14, hf⟩ := ms_gE hf
          refine m_ias (κ := 40) (φ := 650) (n := 1980) (pc' := 101) C Bh12 Mh12 (by decide) (by decide) rfl g14 dX12_adds_100 rfl (fun αh15 Hh15 Lh15 σh15 eh15 Bh15 Mh15 => ?_)
          replace hf := ms_lE eh15 hf
          refine lv_aload_n hx hb dX12_adds_101 rfl (lv_at hl 0 rfl) (hp_n (n := 102) rfl ?_)
          refine lv_iload_n hx hb dX12_adds_102 rfl (lv_at hl 1 rfl) (hp_n (n := 103) rfl ?_)
          obtain ⟨rh16, qh16, hf⟩ := ms_bE hf
          refine m_cp (pc' := 106) Bh15 (hp_runV (As := [.int v1_h7]) (rest := []) C Bh15 (m_X12_sizeOf n Γ l αh15 a0 ρ σh15 Mh15 v1_h7 rh16 qh16) lb_X12_sizeOf lv_X12_sizeOf lk_X12_209 Mh15.1 rfl (by decide) rfl hl.1 rfl (Nat.le_of_ble_eq_true rfl) dX12_adds_103 ⟨Nat.le_refl _, Nat.le_refl _⟩) rfl (fun Hh16 Lh16 Bh16 => ?_)
          refine lv_iconst (v := 1) hx hb dX12_adds_106 (by decide) (hp_n (n := 107) rfl ?_)
          refine lv_isub hx hb dX12_adds_107 (hp_n (n := 108) rfl ?_)
          cases hf
          exact q_iret C Bh16 hr hlk ⟨rfl, Bh16.2.2, Mh15⟩ dX12_adds_108
        ·
          replace hf := ms_iF c8 hf
          refine lv_aload_n hx hb dX12_adds_51 rfl (lv_at hl 0 rfl) (hp_n (n := 52) rfl ?_)
          refine m_getr (κ := 40) (k := 0) (pc' := 55) C Bh7 Mh7 fl_X12_7 rfl (by decide) dX12_adds_52 rfl ?_
          refine lv_sipush (v := 444) hx hb dX12_adds_55 (by decide) (hp_n (n := 58) rfl ?_)
          refine lv_bipush (v := 8) hx hb dX12_adds_58 (by decide) (hp_n (n := 60) rfl ?_)
          refine lv_iload_n hx hb dX12_adds_60 rfl (lv_at hl 2 rfl) (hp_n (n := 61) rfl ?_)
          refine lv_imul hx hb dX12_adds_61 (hp_n (n := 62) rfl ?_)
          refine lv_iadd hx hb dX12_adds_62 (hp_n (n := 63) rfl ?_)
          refine lv_iload_n hx hb dX12_adds_63 rfl (lv_at hl 3 rfl) (hp_n (n := 64) rfl ?_)
          refine lv_iadd hx hb dX12_adds_64 (hp_n (n := 65) rfl ?_)
          refine lv_aload_n hx hb dX12_adds_65 rfl (lv_at hl 0 rfl) (hp_n (n := 66) rfl ?_)
          refine m_getr (κ := 46) (k := 13) (pc' := 69) C Bh7 Mh7 fl_X12_28 rfl (by decide) dX12_adds_66 rfl ?_
          refine lv_iload_n hx hb dX12_adds_69 rfl (lv_at hl 3 rfl) (hp_n (n := 70) rfl ?_)
          obtain ⟨g17, hf⟩ := ms_gE hf
          refine m_ial (κ := 46) (φ := 663) (n := 8) (pc' := 71) C Bh7 Mh7 (by decide) (by decide) rfl g17 dX12_adds_70 rfl ?_
          obtain ⟨g18, hf⟩ := ms_gE hf
          refine m_ias (κ := 40) (φ := 650) (n := 1980) (pc' := 72) C Bh7 Mh7 (by decide) (by decide) rfl g18 dX12_adds_71 rfl (fun αh19 Hh19 Lh19 σh19 eh19 Bh19 Mh19 => ?_)
          replace hf := ms_lE eh19 hf
          obtain ⟨x20, ex20⟩ : ∃ y : Int32, y = v3_h7 + 1 := ⟨_, rfl⟩
          replace hf := ms_lE ex20 hf
          refine lv_iinc (v := x20) (lv' := [(3, .int x20), (0, .ref a0), (1, .int v1_h7), (2, .int v2_h7)]) hx hb dX12_adds_72 hl (k := 3) rfl (by rw [ex20]; rfl) (by decide) rfl (fun ls hl => hp_n (n := 75) rfl ?_)
          refine lv_goto (tgt := 43) hx hb dX12_adds_75 (by decide) ?_
          exact ih43 αh19 Hh19 Lh19 Bh19 σh19 Mh19 v1_h7 v2_h7 x20 ls (lv_sub hl [1, 2, 3, 0] rfl) hf
    refine lv_istore_n (lv' := [(3, .int (0 : Int32)), (2, .int x4), (0, .ref a0), (1, .int a1)]) hx hb dX12_adds_42 rfl hl (by decide) rfl (fun ls hl => hp_n (n := 43) rfl ?_)
    exact J43 n αh6 Hh6 Lh6 Bh6 σh6 Mh6 a1 x4 (0 : Int32) ls (lv_sub hl [2, 3, 1, 0] rfl) hf
  ·
    replace hf := ms_iT c2 hf
    refine lv_aload_n hx hb dX12_adds_10 rfl (lv_at hl 0 rfl) (hp_n (n := 11) rfl ?_)
    refine lv_iconst (v := 3) hx hb dX12_adds_11 (by decide) (hp_n (n := 12) rfl ?_)
    obtain ⟨rh21, σh21, qh21, hf⟩ := ms_cE hf
    refine m_ci (pc' := 15) (a := a0) (ρ := ρ) Bh1 (hp_runV (As := [.int (3 : Int32)]) (rest := []) C Bh1 (m_X12_refuse n Γ l α a0 ρ σ hM (3 : Int32) (rh21, σh21) qh21) lb_X12_refuse lv_X12_refuse lk_X12_212 hM.1 rfl (by decide) rfl hl.1 rfl (Nat.le_of_ble_eq_true rfl) dX12_adds_12 ⟨Nat.le_refl _, Nat.le_refl _⟩) rfl (fun αh21 Hh21 Lh21 Bh21 Mh21 => ?_)
    cases hf
    exact q_iret C Bh21 hr hlk ⟨rfl, Bh21.2.2, Mh21⟩ dX12_adds_15
def f_X12_forks_L82 (n : Nat) (rec41 : ms_T → Int32 → Int32 → Int32 → Int32 → Option (Int32 × ms_T)) : Nat → ms_T → Int32 → Int32 → Int32 → Int32 → Int32 → Option (Int32 × ms_T)
  | 0, _, _, _, _, _, _ => none
  | k82 + 1, σh20, v1_h20, v2_h20, v3_h20, v4_h20, v5_h20 =>
    if (8 : Int32) ≤ v5_h20 then
      ms_l (v4_h20 + 1) fun x22 =>
      rec41 σh20 v1_h20 v2_h20 v3_h20 x22
    else
      ms_g (((444 : Int32) + ((8 : Int32) * (((48 : Int32) * v1_h20) + v4_h20))) + v5_h20) 1980 <|
      ms_g (((444 : Int32) + ((8 : Int32) * (((48 : Int32) * v3_h20) + v4_h20))) + v5_h20) 1980 <|
      ms_l (ms_sE σh20 40 ((((444 : Int32) + ((8 : Int32) * (((48 : Int32) * v3_h20) + v4_h20))) + v5_h20)).toNatClampNeg (ms_E σh20 40 ((((444 : Int32) + ((8 : Int32) * (((48 : Int32) * v1_h20) + v4_h20))) + v5_h20)).toNatClampNeg)) fun σh25 =>
      ms_l (v5_h20 + 1) fun x26 =>
      (f_X12_forks_L82 n rec41 k82) σh25 v1_h20 v2_h20 v3_h20 v4_h20 x26
def f_X12_forks_L41 (n : Nat) : Nat → ms_T → Int32 → Int32 → Int32 → Int32 → Option (Int32 × ms_T)
  | 0, _, _, _, _, _ => none
  | k41 + 1, σh7, v1_h7, v2_h7, v3_h7, v4_h7 =>
    if v2_h7 ≤ v4_h7 then
      ms_g ((72 : Int32) + v3_h7) 1980 <|
      ms_l (ms_sE σh7 40 (((72 : Int32) + v3_h7)).toNatClampNeg v2_h7) fun σh10 =>
      ms_g (0 : Int32) 1980 <|
      ms_g (0 : Int32) 1980 <|
      ms_l (ms_sE σh10 40 ((0 : Int32)).toNatClampNeg ((ms_E σh10 40 ((0 : Int32)).toNatClampNeg) + (1 : Int32))) fun σh13 =>
      ms_g (4 : Int32) 1980 <|
      ms_g (4 : Int32) 1980 <|
      ms_l (ms_sE σh13 40 ((4 : Int32)).toNatClampNeg ((ms_E σh13 40 ((4 : Int32)).toNatClampNeg) + (1 : Int32))) fun σh16 =>
      some (v3_h7, σh16)
    else
      ms_g (((252 : Int32) + ((48 : Int32) * v1_h7)) + v4_h7) 1980 <|
      ms_g (((252 : Int32) + ((48 : Int32) * v3_h7)) + v4_h7) 1980 <|
      ms_l (ms_sE σh7 40 ((((252 : Int32) + ((48 : Int32) * v3_h7)) + v4_h7)).toNatClampNeg (ms_E σh7 40 ((((252 : Int32) + ((48 : Int32) * v1_h7)) + v4_h7)).toNatClampNeg)) fun σh19 =>
      f_X12_forks_L82 n (f_X12_forks_L41 n k41) n σh19 v1_h7 v2_h7 v3_h7 v4_h7 (0 : Int32)
def f_X12_forks (n : Nat) (σ : ms_T) (a1 : Int32) (a2 : Int32) : Option (Int32 × ms_T) :=
  ms_b (f_X12_sizeOf n σ a1) fun rh1 =>
  if a2 ≤ rh1 then
    ms_g (0 : Int32) 1980 <|
    if (ms_E σ 40 ((0 : Int32)).toNatClampNeg) = (4 : Int32) then
      ms_c (f_X12_refuse n σ (3 : Int32)) fun rh27 σh27 =>
      some (rh27, σh27)
    else
      ms_g (0 : Int32) 1980 <|
      ms_l ((ms_E σ 40 ((0 : Int32)).toNatClampNeg)) fun x6 =>
      f_X12_forks_L41 n n σ a1 a2 x6 (0 : Int32)
  else
    ms_c (f_X12_refuse n σ (5 : Int32)) fun rh28 σh28 =>
    some (rh28, σh28)
set_option maxRecDepth 100000 in
set_option maxHeartbeats 4000000 in
theorem m_X12_forks (n : Nat) (Γ : hp_G) (l : Launch) (α : hp_T) (a0 : Nat) (ρ : Nat → Nat) (σ : ms_T) (hM : hm_M α a0 ρ σ) (a1 : Int32) (a2 : Int32) (res : (Int32 × ms_T)) (hf : f_X12_forks n σ a1 a2 = some res) : Met l yX12_forks (hp_ws yX12_forks cX12_forks 6 (some .int)) (hp_rm 1 0 0) (hp_Pc Γ α [.ref a0, .int a1, .int a2]) (hp_Qi Γ (fun r β => r = res.1 ∧ mo α β ∧ hm_M β a0 ρ res.2)) 0 0 (hp_A Γ) := by
  unfold f_X12_forks at hf
  refine hp_start (by decide) ?_
  intro p e s m below meth c C hr hlk B0 hnm
  have C : hp_C Γ p m c cX12_forks 6 s ([.ref a0, .int a1, .int a2] : List Value).toArray RX12 := C
  have hx := C.1.1
  have hb := C.1.2.1
  have hown := C.1.2.2.2.1
  have hts := C.1.2.2.2.2
  have B : hp_B Γ mo s α α s.heap [] := ⟨B0.1, B0.2.1, mo_rf⟩
  have hl := lv_entry ([.ref a0, .int a1, .int a2]) (n := 6) (Nat.le_of_ble_eq_true rfl)
  show W p l e (hp_rm 1 0 0) s m ([.ref a0, .int a1, .int a2] : List Value).toArray below meth c s.heap [] 0 0 (MQ below (hp_Qi Γ (fun r β => r = res.1 ∧ mo α β ∧ hm_M β a0 ρ res.2)) ([.ref a0, .int a1, .int a2] : List Value).toArray s 0 0 (hp_A Γ)) (entryFrame m ([.ref a0, .int a1, .int a2] : List Value).toArray 6)
  rw [lg_entry_eq]
  generalize (lg_sl ([.ref a0, .int a1, .int a2]) ++ List.replicate (6 - (lg_sl ([.ref a0, .int a1, .int a2])).length) Slot.unset).toArray = ls at hl ⊢
  have hl : lv_has ls 6 [(0, .ref a0), (1, .int a1), (2, .int a2)] := hl
  refine lv_iload_n hx hb dX12_forks_0 rfl (lv_at hl 2 rfl) (hp_n (n := 1) rfl ?_)
  refine lv_aload_n hx hb dX12_forks_1 rfl (lv_at hl 0 rfl) (hp_n (n := 2) rfl ?_)
  refine lv_iload_n hx hb dX12_forks_2 rfl (lv_at hl 1 rfl) (hp_n (n := 3) rfl ?_)
  obtain ⟨rh1, qh1, hf⟩ := ms_bE hf
  refine m_cp (pc' := 6) B (hp_runV (As := [.int a1]) (rest := [.int a2]) C B (m_X12_sizeOf n Γ l α a0 ρ σ hM a1 rh1 qh1) lb_X12_sizeOf lv_X12_sizeOf lk_X12_209 hM.1 rfl (by decide) rfl hl.1 rfl (Nat.le_of_ble_eq_true rfl) dX12_forks_3 ⟨Nat.le_refl _, Nat.le_refl _⟩) rfl (fun Hh1 Lh1 Bh1 => ?_)
  refine lv_icmp_le (tgt := 15) hx hb dX12_forks_6 (by decide) (fun c2 => ?_) (fun c2 => hp_n (n := 9) rfl ?_)
  ·
    replace hf := ms_iT c2 hf
    refine lv_aload_n hx hb dX12_forks_15 rfl (lv_at hl 0 rfl) (hp_n (n := 16) rfl ?_)
    refine m_getr (κ := 40) (k := 0) (pc' := 19) C Bh1 hM fl_X12_7 rfl (by decide) dX12_forks_16 rfl ?_
    refine lv_iconst (v := 0) hx hb dX12_forks_19 (by decide) (hp_n (n := 20) rfl ?_)
    obtain ⟨g3, hf⟩ := ms_gE hf
    refine m_ial (κ := 40) (φ := 650) (n := 1980) (pc' := 21) C Bh1 hM (by decide) (by decide) rfl g3 dX12_forks_20 rfl ?_
    refine lv_iconst (v := 4) hx hb dX12_forks_21 (by decide) (hp_n (n := 22) rfl ?_)
    refine lv_icmp_ne (tgt := 31) hx hb dX12_forks_22 (by decide) (fun c4 => ?_) (fun c4 => hp_n (n := 25) rfl ?_)
    ·
      replace hf := ms_iF c4 hf
      refine lv_aload_n hx hb dX12_forks_31 rfl (lv_at hl 0 rfl) (hp_n (n := 32) rfl ?_)
      refine m_getr (κ := 40) (k := 0) (pc' := 35) C Bh1 hM fl_X12_7 rfl (by decide) dX12_forks_32 rfl ?_
      refine lv_iconst (v := 0) hx hb dX12_forks_35 (by decide) (hp_n (n := 36) rfl ?_)
      obtain ⟨g5, hf⟩ := ms_gE hf
      refine m_ial (κ := 40) (φ := 650) (n := 1980) (pc' := 37) C Bh1 hM (by decide) (by decide) rfl g5 dX12_forks_36 rfl ?_
      refine lv_topi (fun x6 ex6 => ?_)
      replace hf := ms_lE ex6 hf
      refine lv_istore_n (lv' := [(3, .int x6), (0, .ref a0), (1, .int a1), (2, .int a2)]) hx hb dX12_forks_37 rfl hl (by decide) rfl (fun ls hl => hp_n (n := 38) rfl ?_)
      refine lv_iconst (v := 0) hx hb dX12_forks_38 (by decide) (hp_n (n := 39) rfl ?_)
      have J41 : ∀ (k41 : Nat) (αh7 : hp_T) (Hh7 : Heap) (Lh7 : List Loc) (Bh7 : hp_B Γ mo s α αh7 Hh7 Lh7) (σh7 : ms_T) (Mh7 : hm_M αh7 a0 ρ σh7) (v1_h7 : Int32) (v2_h7 : Int32) (v3_h7 : Int32) (v4_h7 : Int32) (ls : Array Slot) (hl : lv_has ls 6 [(0, .ref a0), (1, .int v1_h7), (2, .int v2_h7), (3, .int v3_h7), (4, .int v4_h7)]) (hf : f_X12_forks_L41 n k41 σh7 v1_h7 v2_h7 v3_h7 v4_h7 = some res), W p l e (hp_rm 1 0 0) s m ([.ref a0, .int a1, .int a2] : List Value).toArray below meth c Hh7 Lh7 0 0 (MQ below (hp_Qi Γ (fun r β => r = res.1 ∧ mo α β ∧ hm_M β a0 ρ res.2)) ([.ref a0, .int a1, .int a2] : List Value).toArray s 0 0 (hp_A Γ)) (F0 m 41 ls []) := by
        intro k41
        induction k41 with
        | zero => intro αh7 Hh7 Lh7 Bh7 σh7 Mh7 v1_h7 v2_h7 v3_h7 v4_h7 ls hl hf; rw [f_X12_forks_L41.eq_1] at hf; cases hf
        | succ k41 ih41 =>
          intro αh7 Hh7 Lh7 Bh7 σh7 Mh7 v1_h7 v2_h7 v3_h7 v4_h7 ls hl hf
          rw [f_X12_forks_L41.eq_2] at hf
          refine lv_iload hx hb dX12_forks_41 (lv_at hl 4 rfl) (hp_n (n := 43) rfl ?_)
          refine lv_iload_n hx hb dX12_forks_43 rfl (lv_at hl 2 rfl) (hp_n (n := 44) rfl ?_)
          refine lv_icmp_ge (tgt := 145) hx hb dX12_forks_44 (by decide) (fun c8 => ?_) (fun c8 => hp_n (n := 47) rfl ?_)
          ·
            replace hf := ms_iT c8 hf
            refine lv_aload_n hx hb dX12_forks_145 rfl (lv_at hl 0 rfl) (hp_n (n := 146) rfl ?_)
            refine m_getr (κ := 40) (k := 0) (pc' := 149) C Bh7 Mh7 fl_X12_7 rfl (by decide) dX12_forks_146 rfl ?_
            refine lv_bipush (v := 72) hx hb dX12_forks_149 (by decide) (hp_n (n := 151) rfl ?_)
            refine lv_iload_n hx hb dX12_forks_151 rfl (lv_at hl 3 rfl) (hp_n (n := 152) rfl ?_)
            refine lv_iadd hx hb dX12_forks_152 (hp_n (n := 153) rfl ?_)
            refine lv_iload_n hx hb dX12_forks_153 rfl (lv_at hl 2 rfl) (hp_n (n := 154) rfl ?_)
            obtain ⟨g9, hf⟩ := ms_gE hf
            refine m_ias (κ := 40) (φ := 650) (n := 1980) (pc' := 155) C Bh7 Mh7 (by decide) (by decide) rfl g9 dX12_forks_154 rfl (fun αh10 Hh10 Lh10 σh10 eh10 Bh10 Mh10 => ?_)
            replace hf := ms_lE eh10 hf
            refine lv_aload_n hx hb dX12_forks_155 rfl (lv_at hl 0 rfl) (hp_n (n := 156) rfl ?_)
            refine m_getr (κ := 40) (k := 0) (pc' := 159) C Bh10 Mh10 fl_X12_7 rfl (by decide) dX12_forks_156 rfl ?_
            refine lv_iconst (v := 0) hx hb dX12_forks_159 (by decide) (hp_n (n := 160) rfl ?_)
            refine lv_dup2_11 hx hb dX12_forks_160 rfl rfl (hp_n (n := 161) rfl ?_)
            obtain ⟨g11, hf⟩ := ms_gE hf
            refine m_ial (κ := 40) (φ := 650) (n := 1980) (pc' := 162) C Bh10 Mh10 (by decide) (by decide) rfl g11 dX12_forks_161 rfl ?_
            refine lv_iconst (v := 1) hx hb dX12_forks_162 (by decide) (hp_n (n := 163) rfl ?_)
            refine lv_iadd hx hb dX12_forks_163 (hp_n (n := 164) rfl ?_)
            obtain ⟨g12, hf⟩ := ms_gE hf
            refine m_ias (κ := 40) (φ := 650) (n := 1980) (pc' := 165) C Bh10 Mh10 (by decide) (by decide) rfl g12 dX12_forks_164 rfl (fun αh13 Hh13 Lh13 σh13 eh13 Bh13 Mh13 => ?_)
            replace hf := ms_lE eh13 hf
            refine lv_aload_n hx hb dX12_forks_165 rfl (lv_at hl 0 rfl) (hp_n (n := 166) rfl ?_)
            refine m_getr (κ := 40) (k := 0) (pc' := 169) C Bh13 Mh13 fl_X12_7 rfl (by decide) dX12_forks_166 rfl ?_
            refine lv_iconst (v := 4) hx hb dX12_forks_169 (by decide) (hp_n (n := 170) rfl ?_)
            refine lv_dup2_11 hx hb dX12_forks_170 rfl rfl (hp_n (n := 171) rfl ?_)
            obtain ⟨g14, hf⟩ := ms_gE hf
            refine m_ial (κ := 40) (φ := 650) (n := 1980) (pc' := 172) C Bh13 Mh13 (by decide) (by decide) rfl g14 dX12_forks_171 rfl ?_
            refine lv_iconst (v := 1) hx hb dX12_forks_172 (by decide) (hp_n (n := 173) rfl ?_)
            refine lv_iadd hx hb dX12_forks_173 (hp_n (n := 174) rfl ?_)
            obtain ⟨g15, hf⟩ := ms_gE hf
            refine m_ias (κ := 40) (φ := 650) (n := 1980) (pc' := 175) C Bh13 Mh13 (by decide) (by decide) rfl g15 dX12_forks_174 rfl (fun αh16 Hh16 Lh16 σh16 eh16 Bh16 Mh16 => ?_)
            replace hf := ms_lE eh16 hf
            refine lv_iload_n hx hb dX12_forks_175 rfl (lv_at hl 3 rfl) (hp_n (n := 176) rfl ?_)
            cases hf
            exact q_iret C Bh16 hr hlk ⟨rfl, Bh16.2.2, Mh16⟩ dX12_forks_176
          ·
            replace hf := ms_iF c8 hf
            refine lv_aload_n hx hb dX12_forks_47 rfl (lv_at hl 0 rfl) (hp_n (n := 48) rfl ?_)
            refine m_getr (κ := 40) (k := 0) (pc' := 51) C Bh7 Mh7 fl_X12_7 rfl (by decide) dX12_forks_48 rfl ?_
            refine lv_sipush (v := 252) hx hb dX12_forks_51 (by decide) (hp_n (n := 54) rfl ?_)
            refine lv_bipush (v := 48) hx hb dX12_forks_54 (by decide) (hp_n (n := 56) rfl ?_)
            refine lv_iload_n hx hb dX12_forks_56 rfl (lv_at hl 3 rfl) (hp_n (n := 57) rfl ?_)
            refine lv_imul hx hb dX12_forks_57 (hp_n (n := 58) rfl ?_)
            refine lv_iadd hx hb dX12_forks_58 (hp_n (n := 59) rfl ?_)
            refine lv_iload hx hb dX12_forks_59 (lv_at hl 4 rfl) (hp_n (n := 61) rfl ?_)
            refine lv_iadd hx hb dX12_forks_61 (hp_n (n := 62) rfl ?_)
            refine lv_aload_n hx hb dX12_forks_62 rfl (lv_at hl 0 rfl) (hp_n (n := 63) rfl ?_)
            refine m_getr (κ := 40) (k := 0) (pc' := 66) C Bh7 Mh7 fl_X12_7 rfl (by decide) dX12_forks_63 rfl ?_
            refine lv_sipush (v := 252) hx hb dX12_forks_66 (by decide) (hp_n (n := 69) rfl ?_)
            refine lv_bipush (v := 48) hx hb dX12_forks_69 (by decide) (hp_n (n := 71) rfl ?_)
            refine lv_iload_n hx hb dX12_forks_71 rfl (lv_at hl 1 rfl) (hp_n (n := 72) rfl ?_)
            refine lv_imul hx hb dX12_forks_72 (hp_n (n := 73) rfl ?_)
            refine lv_iadd hx hb dX12_forks_73 (hp_n (n := 74) rfl ?_)
            refine lv_iload hx hb dX12_forks_74 (lv_at hl 4 rfl) (hp_n (n := 76) rfl ?_)
            refine lv_iadd hx hb dX12_forks_76 (hp_n (n := 77) rfl ?_)
            obtain ⟨g17, hf⟩ := ms_gE hf
            refine m_ial (κ := 40) (φ := 650) (n := 1980) (pc' := 78) C Bh7 Mh7 (by decide) (by decide) rfl g17 dX12_forks_77 rfl ?_
            obtain ⟨g18, hf⟩ := ms_gE hf
            refine m_ias (κ := 40) (φ := 650) (n := 1980) (pc' := 79) C Bh7 Mh7 (by decide) (by decide) rfl g18 dX12_forks_78 rfl (fun αh19 Hh19 Lh19 σh19 eh19 Bh19 Mh19 => ?_)
            replace hf := ms_lE eh19 hf
            refine lv_iconst (v := 0) hx hb dX12_forks_79 (by decide) (hp_n (n := 80) rfl ?_)
            have J82 : ∀ (k82 : Nat) (αh20 : hp_T) (Hh20 : Heap) (Lh20 : List Loc) (Bh20 : hp_B Γ mo s α αh20 Hh20 Lh20) (σh20 : ms_T) (Mh20 : hm_M αh20 a0 ρ σh20) (v1_h20 : Int32) (v2_h20 : Int32) (v3_h20 : Int32) (v4_h20 : Int32) (v5_h20 : Int32) (ls : Array Slot) (hl : lv_has ls 6 [(0, .ref a0), (1, .int v1_h20), (2, .int v2_h20), (3, .int v3_h20), (4, .int v4_h20), (5, .int v5_h20)]) (hf : f_X12_forks_L82 n (f_X12_forks_L41 n k41) k82 σh20 v1_h20 v2_h20 v3_h20 v4_h20 v5_h20 = some res), W p l e (hp_rm 1 0 0) s m ([.ref a0, .int a1, .int a2] : List Value).toArray below meth c Hh20 Lh20 0 0 (MQ below (hp_Qi Γ (fun r β => r = res.1 ∧ mo α β ∧ hm_M β a0 ρ res.2)) ([.ref a0, .int a1, .int a2] : List Value).toArray s 0 0 (hp_A Γ)) (F0 m 82 ls []) := by
              intro k82
              induction k82 with
              | zero => intro αh20 Hh20 Lh20 Bh20 σh20 Mh20 v1_h20 v2_h20 v3_h20 v4_h20 v5_h20 ls hl hf; rw [f_X12_forks_L82.eq_1] at hf; cases hf
              | succ k82 ih82 =>
                intro αh20 Hh20 Lh20 Bh20 σh20 Mh20 v1_h20 v2_h20 v3_h20 v4_h20 v5_h20 ls hl hf
                rw [f_X12_forks_L82.eq_2] at hf
                refine lv_iload hx hb dX12_forks_82 (lv_at hl 5 rfl) (hp_n (n := 84) rfl ?_)
                refine lv_bipush (v := 8) hx hb dX12_forks_84 (by decide) (hp_n (n := 86) rfl ?_)
                refine lv_icmp_ge (tgt := 139) hx hb dX12_forks_86 (by decide) (fun c21 => ?_) (fun c21 => hp_n (n := 89) rfl ?_)
                ·
                  replace hf := ms_iT c21 hf
                  obtain ⟨x22, ex22⟩ : ∃ y : Int32, y = v4_h20 + 1 := ⟨_, rfl⟩
                  replace hf := ms_lE ex22 hf
                  refine lv_iinc (v := x22) (lv' := [(4, .int x22), (0, .ref a0), (1, .int v1_h20), (2, .int v2_h20), (3, .int v3_h20), (5, .int v5_h20)]) hx hb dX12_forks_139 hl (k := 4) rfl (by rw [ex22]; rfl) (by decide) rfl (fun ls hl => hp_n (n := 142) rfl ?_)
                  refine lv_goto (tgt := 41) hx hb dX12_forks_142 (by decide) ?_
                  exact ih41 αh20 Hh20 Lh20 Bh20 σh20 Mh20 v1_h20 v2_h20 v3_h20 x22 ls (lv_sub hl [1, 2, 3, 4, 0] rfl) hf
                ·
                  replace hf := ms_iF c21 hf
                  refine lv_aload_n hx hb dX12_forks_89 rfl (lv_at hl 0 rfl) (hp_n (n := 90) rfl ?_)
                  refine m_getr (κ := 40) (k := 0) (pc' := 93) C Bh20 Mh20 fl_X12_7 rfl (by decide) dX12_forks_90 rfl ?_
                  refine lv_sipush (v := 444) hx hb dX12_forks_93 (by decide) (hp_n (n := 96) rfl ?_)
                  refine lv_bipush (v := 8) hx hb dX12_forks_96 (by decide) (hp_n (n := 98) rfl ?_)
                  refine lv_bipush (v := 48) hx hb dX12_forks_98 (by decide) (hp_n (n := 100) rfl ?_)
                  refine lv_iload_n hx hb dX12_forks_100 rfl (lv_at hl 3 rfl) (hp_n (n := 101) rfl ?_)
                  refine lv_imul hx hb dX12_forks_101 (hp_n (n := 102) rfl ?_)
                  refine lv_iload hx hb dX12_forks_102 (lv_at hl 4 rfl) (hp_n (n := 104) rfl ?_)
                  refine lv_iadd hx hb dX12_forks_104 (hp_n (n := 105) rfl ?_)
                  refine lv_imul hx hb dX12_forks_105 (hp_n (n := 106) rfl ?_)
                  refine lv_iadd hx hb dX12_forks_106 (hp_n (n := 107) rfl ?_)
                  refine lv_iload hx hb dX12_forks_107 (lv_at hl 5 rfl) (hp_n (n := 109) rfl ?_)
                  refine lv_iadd hx hb dX12_forks_109 (hp_n (n := 110) rfl ?_)
                  refine lv_aload_n hx hb dX12_forks_110 rfl (lv_at hl 0 rfl) (hp_n (n := 111) rfl ?_)
                  refine m_getr (κ := 40) (k := 0) (pc' := 114) C Bh20 Mh20 fl_X12_7 rfl (by decide) dX12_forks_111 rfl ?_
                  refine lv_sipush (v := 444) hx hb dX12_forks_114 (by decide) (hp_n (n := 117) rfl ?_)
                  refine lv_bipush (v := 8) hx hb dX12_forks_117 (by decide) (hp_n (n := 119) rfl ?_)
                  refine lv_bipush (v := 48) hx hb dX12_forks_119 (by decide) (hp_n (n := 121) rfl ?_)
                  refine lv_iload_n hx hb dX12_forks_121 rfl (lv_at hl 1 rfl) (hp_n (n := 122) rfl ?_)
                  refine lv_imul hx hb dX12_forks_122 (hp_n (n := 123) rfl ?_)
                  refine lv_iload hx hb dX12_forks_123 (lv_at hl 4 rfl) (hp_n (n := 125) rfl ?_)
                  refine lv_iadd hx hb dX12_forks_125 (hp_n (n := 126) rfl ?_)
                  refine lv_imul hx hb dX12_forks_126 (hp_n (n := 127) rfl ?_)
                  refine lv_iadd hx hb dX12_forks_127 (hp_n (n := 128) rfl ?_)
                  refine lv_iload hx hb dX12_forks_128 (lv_at hl 5 rfl) (hp_n (n := 130) rfl ?_)
                  refine lv_iadd hx hb dX12_forks_130 (hp_n (n := 131) rfl ?_)
                  obtain ⟨g23, hf⟩ := ms_gE hf
                  refine m_ial (κ := 40) (φ := 650) (n := 1980) (pc' := 132) C Bh20 Mh20 (by decide) (by decide) rfl g23 dX12_forks_131 rfl ?_
                  obtain ⟨g24, hf⟩ := ms_gE hf
                  refine m_ias (κ := 40) (φ := 650) (n := 1980) (pc' := 133) C Bh20 Mh20 (by decide) (by decide) rfl g24 dX12_forks_132 rfl (fun αh25 Hh25 Lh25 σh25 eh25 Bh25 Mh25 => ?_)
                  replace hf := ms_lE eh25 hf
                  obtain ⟨x26, ex26⟩ : ∃ y : Int32, y = v5_h20 + 1 := ⟨_, rfl⟩
                  replace hf := ms_lE ex26 hf
                  refine lv_iinc (v := x26) (lv' := [(5, .int x26), (0, .ref a0), (1, .int v1_h20), (2, .int v2_h20), (3, .int v3_h20), (4, .int v4_h20)]) hx hb dX12_forks_133 hl (k := 5) rfl (by rw [ex26]; rfl) (by decide) rfl (fun ls hl => hp_n (n := 136) rfl ?_)
                  refine lv_goto (tgt := 82) hx hb dX12_forks_136 (by decide) ?_
                  exact ih82 αh25 Hh25 Lh25 Bh25 σh25 Mh25 v1_h20 v2_h20 v3_h20 v4_h20 x26 ls (lv_sub hl [1, 2, 3, 4, 5, 0] rfl) hf
            refine lv_istore (lv' := [(5, .int (0 : Int32)), (0, .ref a0), (1, .int v1_h7), (2, .int v2_h7), (3, .int v3_h7), (4, .int v4_h7)]) hx hb dX12_forks_80 hl (by decide) rfl (fun ls hl => hp_n (n := 82) rfl ?_)
            exact J82 n αh19 Hh19 Lh19 Bh19 σh19 Mh19 v1_h7 v2_h7 v3_h7 v4_h7 (0 : Int32) ls (lv_sub hl [1, 2, 3, 4, 5, 0] rfl) hf
      refine lv_istore (lv' := [(4, .int (0 : Int32)), (3, .int x6), (0, .ref a0), (1, .int a1), (2, .int a2)]) hx hb dX12_forks_39 hl (by decide) rfl (fun ls hl => hp_n (n := 41) rfl ?_)
      exact J41 n α Hh1 Lh1 Bh1 σ hM a1 a2 x6 (0 : Int32) ls (lv_sub hl [2, 3, 4, 1, 0] rfl) hf
    ·
      replace hf := ms_iT c4 hf
      refine lv_aload_n hx hb dX12_forks_25 rfl (lv_at hl 0 rfl) (hp_n (n := 26) rfl ?_)
      refine lv_iconst (v := 3) hx hb dX12_forks_26 (by decide) (hp_n (n := 27) rfl ?_)
      obtain ⟨rh27, σh27, qh27, hf⟩ := ms_cE hf
      refine m_ci (pc' := 30) (a := a0) (ρ := ρ) Bh1 (hp_runV (As := [.int (3 : Int32)]) (rest := []) C Bh1 (m_X12_refuse n Γ l α a0 ρ σ hM (3 : Int32) (rh27, σh27) qh27) lb_X12_refuse lv_X12_refuse lk_X12_212 hM.1 rfl (by decide) rfl hl.1 rfl (Nat.le_of_ble_eq_true rfl) dX12_forks_27 ⟨Nat.le_refl _, Nat.le_refl _⟩) rfl (fun αh27 Hh27 Lh27 Bh27 Mh27 => ?_)
      cases hf
      exact q_iret C Bh27 hr hlk ⟨rfl, Bh27.2.2, Mh27⟩ dX12_forks_30
  ·
    replace hf := ms_iF c2 hf
    refine lv_aload_n hx hb dX12_forks_9 rfl (lv_at hl 0 rfl) (hp_n (n := 10) rfl ?_)
    refine lv_iconst (v := 5) hx hb dX12_forks_10 (by decide) (hp_n (n := 11) rfl ?_)
    obtain ⟨rh28, σh28, qh28, hf⟩ := ms_cE hf
    refine m_ci (pc' := 14) (a := a0) (ρ := ρ) Bh1 (hp_runV (As := [.int (5 : Int32)]) (rest := []) C Bh1 (m_X12_refuse n Γ l α a0 ρ σ hM (5 : Int32) (rh28, σh28) qh28) lb_X12_refuse lv_X12_refuse lk_X12_212 hM.1 rfl (by decide) rfl hl.1 rfl (Nat.le_of_ble_eq_true rfl) dX12_forks_11 ⟨Nat.le_refl _, Nat.le_refl _⟩) rfl (fun αh28 Hh28 Lh28 Bh28 Mh28 => ?_)
    cases hf
    exact q_iret C Bh28 hr hlk ⟨rfl, Bh28.2.2, Mh28⟩ dX12_forks_14
def f_X12_freezes_L98 (n : Nat) : Nat → ms_T → Int32 → Int32 → Option (Int32 × ms_T)
  | 0, _, _, _ => none
  | k98 + 1, σh20, v2_h20, v3_h20 =>
    if (ms_I σh20 657) ≤ v3_h20 then
      ms_g (3 : Int32) 1980 <|
      ms_g (3 : Int32) 1980 <|
      ms_l (ms_sE σh20 40 ((3 : Int32)).toNatClampNeg ((ms_E σh20 40 ((3 : Int32)).toNatClampNeg) + (1 : Int32))) fun σh24 =>
      ms_g (4 : Int32) 1980 <|
      ms_g (4 : Int32) 1980 <|
      ms_l (ms_sE σh24 40 ((4 : Int32)).toNatClampNeg ((ms_E σh24 40 ((4 : Int32)).toNatClampNeg) + (1 : Int32))) fun σh27 =>
      ms_g (3 : Int32) 1980 <|
      some (((ms_E σh27 40 ((3 : Int32)).toNatClampNeg) - (1 : Int32)), σh27)
    else
      ms_g v3_h20 128 <|
      ms_g ((v2_h20 + (4 : Int32)) + v3_h20) 1980 <|
      ms_l (ms_sE σh20 40 (((v2_h20 + (4 : Int32)) + v3_h20)).toNatClampNeg (ms_E σh20 44 (v3_h20).toNatClampNeg)) fun σh31 =>
      ms_l (v3_h20 + 1) fun x32 =>
      (f_X12_freezes_L98 n k98) σh31 v2_h20 x32
def f_X12_freezes (n : Nat) (σ : ms_T) (a1 : Int32) : Option (Int32 × ms_T) :=
  ms_g (3 : Int32) 1980 <|
  if (ms_E σ 40 ((3 : Int32)).toNatClampNeg) = (16 : Int32) then
    ms_c (f_X12_refuse n σ (3 : Int32)) fun rh33 σh33 =>
    some (rh33, σh33)
  else
    ms_g (3 : Int32) 1980 <|
    ms_l (((92 : Int32) + ((10 : Int32) * (ms_E σ 40 ((3 : Int32)).toNatClampNeg)))) fun x4 =>
    ms_g x4 1980 <|
    ms_l (ms_sE σ 40 (x4).toNatClampNeg a1) fun σh6 =>
    ms_b (f_X12_sizeOf n σh6 a1) fun rh7 =>
    ms_g (x4 + (1 : Int32)) 1980 <|
    ms_l (ms_sE σh6 40 ((x4 + (1 : Int32))).toNatClampNeg rh7) fun σh9 =>
    ms_b (f_X12_sizeOf n σh9 a1) fun rh10 =>
    ms_b (f_X12_headOf n σh9 a1 rh10) fun rh11 =>
    ms_g (x4 + (2 : Int32)) 1980 <|
    ms_l (ms_sE σh9 40 ((x4 + (2 : Int32))).toNatClampNeg rh11) fun σh13 =>
    ms_g (4 : Int32) 1980 <|
    ms_g (x4 + (3 : Int32)) 1980 <|
    ms_l (ms_sE σh13 40 ((x4 + (3 : Int32))).toNatClampNeg (ms_E σh13 40 ((4 : Int32)).toNatClampNeg)) fun σh16 =>
    ms_b (f_X12_sizeOf n σh16 a1) fun rh17 =>
    ms_b (f_X12_peaksOf n σh16 rh17) fun σh18 =>
    ms_b (f_X12_fetches n σh18 a1) fun σh19 =>
    f_X12_freezes_L98 n n σh19 x4 (0 : Int32)
set_option maxRecDepth 100000 in
set_option maxHeartbeats 4000000 in
theorem m_X12_freezes (n : Nat) (Γ : hp_G) (l : Launch) (α : hp_T) (a0 : Nat) (ρ : Nat → Nat) (σ : ms_T) (hM : hm_M α a0 ρ σ) (a1 : Int32) (res : (Int32 × ms_T)) (hf : f_X12_freezes n σ a1 = some res) : Met l yX12_freezes (hp_ws yX12_freezes cX12_freezes 4 (some .int)) (hp_rm 43 0 0) (hp_Pc Γ α [.ref a0, .int a1]) (hp_Qi Γ (fun r β => r = res.1 ∧ mo α β ∧ hm_M β a0 ρ res.2)) 0 0 (hp_A Γ) := by
  unfold f_X12_freezes at hf
  refine hp_start (by decide) ?_
  intro p e s m below meth c C hr hlk B0 hnm
  have C : hp_C Γ p m c cX12_freezes 4 s ([.ref a0, .int a1] : List Value).toArray RX12 := C
  have hx := C.1.1
  have hb := C.1.2.1
  have hown := C.1.2.2.2.1
  have hts := C.1.2.2.2.2
  have B : hp_B Γ mo s α α s.heap [] := ⟨B0.1, B0.2.1, mo_rf⟩
  have hl := lv_entry ([.ref a0, .int a1]) (n := 4) (Nat.le_of_ble_eq_true rfl)
  show W p l e (hp_rm 43 0 0) s m ([.ref a0, .int a1] : List Value).toArray below meth c s.heap [] 0 0 (MQ below (hp_Qi Γ (fun r β => r = res.1 ∧ mo α β ∧ hm_M β a0 ρ res.2)) ([.ref a0, .int a1] : List Value).toArray s 0 0 (hp_A Γ)) (entryFrame m ([.ref a0, .int a1] : List Value).toArray 4)
  rw [lg_entry_eq]
  generalize (lg_sl ([.ref a0, .int a1]) ++ List.replicate (4 - (lg_sl ([.ref a0, .int a1])).length) Slot.unset).toArray = ls at hl ⊢
  have hl : lv_has ls 4 [(0, .ref a0), (1, .int a1)] := hl
  refine lv_aload_n hx hb dX12_freezes_0 rfl (lv_at hl 0 rfl) (hp_n (n := 1) rfl ?_)
  refine m_getr (κ := 40) (k := 0) (pc' := 4) C B hM fl_X12_7 rfl (by decide) dX12_freezes_1 rfl ?_
  refine lv_iconst (v := 3) hx hb dX12_freezes_4 (by decide) (hp_n (n := 5) rfl ?_)
  obtain ⟨g1, hf⟩ := ms_gE hf
  refine m_ial (κ := 40) (φ := 650) (n := 1980) (pc' := 6) C B hM (by decide) (by decide) rfl g1 dX12_freezes_5 rfl ?_
  refine lv_bipush (v := 16) hx hb dX12_freezes_6 (by decide) (hp_n (n := 8) rfl ?_)
  refine lv_icmp_ne (tgt := 17) hx hb dX12_freezes_8 (by decide) (fun c2 => ?_) (fun c2 => hp_n (n := 11) rfl ?_)
  ·
    replace hf := ms_iF c2 hf
    refine lv_bipush (v := 92) hx hb dX12_freezes_17 (by decide) (hp_n (n := 19) rfl ?_)
    refine lv_bipush (v := 10) hx hb dX12_freezes_19 (by decide) (hp_n (n := 21) rfl ?_)
    refine lv_aload_n hx hb dX12_freezes_21 rfl (lv_at hl 0 rfl) (hp_n (n := 22) rfl ?_)
    refine m_getr (κ := 40) (k := 0) (pc' := 25) C B hM fl_X12_7 rfl (by decide) dX12_freezes_22 rfl ?_
    refine lv_iconst (v := 3) hx hb dX12_freezes_25 (by decide) (hp_n (n := 26) rfl ?_)
    obtain ⟨g3, hf⟩ := ms_gE hf
    refine m_ial (κ := 40) (φ := 650) (n := 1980) (pc' := 27) C B hM (by decide) (by decide) rfl g3 dX12_freezes_26 rfl ?_
    refine lv_imul hx hb dX12_freezes_27 (hp_n (n := 28) rfl ?_)
    refine lv_iadd hx hb dX12_freezes_28 (hp_n (n := 29) rfl ?_)
    refine lv_topi (fun x4 ex4 => ?_)
    replace hf := ms_lE ex4 hf
    refine lv_istore_n (lv' := [(2, .int x4), (0, .ref a0), (1, .int a1)]) hx hb dX12_freezes_29 rfl hl (by decide) rfl (fun ls hl => hp_n (n := 30) rfl ?_)
    refine lv_aload_n hx hb dX12_freezes_30 rfl (lv_at hl 1 rfl) (hp_n (n := 31) rfl ?_)
    refine m_getr (κ := 40) (k := 0) (pc' := 34) C B hM fl_X12_7 rfl (by decide) dX12_freezes_31 rfl ?_
    refine lv_iload_n hx hb dX12_freezes_34 rfl (lv_at hl 0 rfl) (hp_n (n := 35) rfl ?_)
    refine lv_iload_n hx hb dX12_freezes_35 rfl (lv_at hl 2 rfl) (hp_n (n := 36) rfl ?_)
    obtain ⟨g5, hf⟩ := ms_gE hf
    refine m_ias (κ := 40) (φ := 650) (n := 1980) (pc' := 37) C B hM (by decide) (by decide) rfl g5 dX12_freezes_36 rfl (fun αh6 Hh6 Lh6 σh6 eh6 Bh6 Mh6 => ?_)
    replace hf := ms_lE eh6 hf
    refine lv_aload_n hx hb dX12_freezes_37 rfl (lv_at hl 1 rfl) (hp_n (n := 38) rfl ?_)
    refine m_getr (κ := 40) (k := 0) (pc' := 41) C Bh6 Mh6 fl_X12_7 rfl (by decide) dX12_freezes_38 rfl ?_
    refine lv_iload_n hx hb dX12_freezes_41 rfl (lv_at hl 0 rfl) (hp_n (n := 42) rfl ?_)
    refine lv_iconst (v := 1) hx hb dX12_freezes_42 (by decide) (hp_n (n := 43) rfl ?_)
    refine lv_iadd hx hb dX12_freezes_43 (hp_n (n := 44) rfl ?_)
    refine lv_aload_n hx hb dX12_freezes_44 rfl (lv_at hl 1 rfl) (hp_n (n := 45) rfl ?_)
    refine lv_iload_n hx hb dX12_freezes_45 rfl (lv_at hl 2 rfl) (hp_n (n := 46) rfl ?_)
    obtain ⟨rh7, qh7, hf⟩ := ms_bE hf
    refine m_cp (pc' := 49) Bh6 (hp_runV (As := [.int a1]) (rest := [.int (x4 + (1 : Int32)), .ref (ρ 40)]) C Bh6 (m_X12_sizeOf n Γ l αh6 a0 ρ σh6 Mh6 a1 rh7 qh7) lb_X12_sizeOf lv_X12_sizeOf lk_X12_209 Mh6.1 rfl (by decide) rfl hl.1 rfl (Nat.le_of_ble_eq_true rfl) dX12_freezes_46 ⟨Nat.le_refl _, Nat.le_refl _⟩) rfl (fun Hh7 Lh7 Bh7 => ?_)
    obtain ⟨g8, hf⟩ := ms_gE hf
    refine m_ias (κ := 40) (φ := 650) (n := 1980) (pc' := 50) C Bh7 Mh6 (by decide) (by decide) rfl g8 dX12_freezes_49 rfl (fun αh9 Hh9 Lh9 σh9 eh9 Bh9 Mh9 => ?_)
    replace hf := ms_lE eh9 hf
    refine lv_aload_n hx hb dX12_freezes_50 rfl (lv_at hl 1 rfl) (hp_n (n := 51) rfl ?_)
    refine m_getr (κ := 40) (k := 0) (pc' := 54) C Bh9 Mh9 fl_X12_7 rfl (by decide) dX12_freezes_51 rfl ?_
    refine lv_iload_n hx hb dX12_freezes_54 rfl (lv_at hl 0 rfl) (hp_n (n := 55) rfl ?_)
    refine lv_iconst (v := 2) hx hb dX12_freezes_55 (by decide) (hp_n (n := 56) rfl ?_)
    refine lv_iadd hx hb dX12_freezes_56 (hp_n (n := 57) rfl ?_)
    refine lv_aload_n hx hb dX12_freezes_57 rfl (lv_at hl 1 rfl) (hp_n (n := 58) rfl ?_)
    refine lv_iload_n hx hb dX12_freezes_58 rfl (lv_at hl 2 rfl) (hp_n (n := 59) rfl ?_)
    refine lv_aload_n hx hb dX12_freezes_59 rfl (lv_at hl 1 rfl) (hp_n (n := 60) rfl ?_)
    refine lv_iload_n hx hb dX12_freezes_60 rfl (lv_at hl 2 rfl) (hp_n (n := 61) rfl ?_)
    obtain ⟨rh10, qh10, hf⟩ := ms_bE hf
    refine m_cp (pc' := 64) Bh9 (hp_runV (As := [.int a1]) (rest := [.int a1, .ref a0, .int (x4 + (2 : Int32)), .ref (ρ 40)]) C Bh9 (m_X12_sizeOf n Γ l αh9 a0 ρ σh9 Mh9 a1 rh10 qh10) lb_X12_sizeOf lv_X12_sizeOf lk_X12_209 Mh9.1 rfl (by decide) rfl hl.1 rfl (Nat.le_of_ble_eq_true rfl) dX12_freezes_61 ⟨Nat.le_refl _, Nat.le_refl _⟩) rfl (fun Hh10 Lh10 Bh10 => ?_)
    obtain ⟨rh11, qh11, hf⟩ := ms_bE hf
    refine m_cp (pc' := 67) Bh10 (hp_runV (As := [.int a1, .int rh10]) (rest := [.int (x4 + (2 : Int32)), .ref (ρ 40)]) C Bh10 (m_X12_headOf n Γ l αh9 a0 ρ σh9 Mh9 a1 rh10 rh11 qh11) lb_X12_headOf lv_X12_headOf lk_X12_215 Mh9.1 rfl (by decide) rfl hl.1 rfl (Nat.le_of_ble_eq_true rfl) dX12_freezes_64 ⟨Nat.le_refl _, Nat.le_refl _⟩) rfl (fun Hh11 Lh11 Bh11 => ?_)
    obtain ⟨g12, hf⟩ := ms_gE hf
    refine m_ias (κ := 40) (φ := 650) (n := 1980) (pc' := 68) C Bh11 Mh9 (by decide) (by decide) rfl g12 dX12_freezes_67 rfl (fun αh13 Hh13 Lh13 σh13 eh13 Bh13 Mh13 => ?_)
    replace hf := ms_lE eh13 hf
    refine lv_aload_n hx hb dX12_freezes_68 rfl (lv_at hl 1 rfl) (hp_n (n := 69) rfl ?_)
    refine m_getr (κ := 40) (k := 0) (pc' := 72) C Bh13 Mh13 fl_X12_7 rfl (by decide) dX12_freezes_69 rfl ?_
    refine lv_iload_n hx hb dX12_freezes_72 rfl (lv_at hl 0 rfl) (hp_n (n := 73) rfl ?_)
    refine lv_iconst (v := 3) hx hb dX12_freezes_73 (by decide) (hp_n (n := 74) rfl ?_)
    refine lv_iadd hx hb dX12_freezes_74 (hp_n (n := 75) rfl ?_)
    refine lv_aload_n hx hb dX12_freezes_75 rfl (lv_at hl 1 rfl) (hp_n (n := 76) rfl ?_)
    refine m_getr (κ := 40) (k := 0) (pc' := 79) C Bh13 Mh13 fl_X12_7 rfl (by decide) dX12_freezes_76 rfl ?_
    refine lv_iconst (v := 4) hx hb dX12_freezes_79 (by decide) (hp_n (n := 80) rfl ?_)
    obtain ⟨g14, hf⟩ := ms_gE hf
    refine m_ial (κ := 40) (φ := 650) (n := 1980) (pc' := 81) C Bh13 Mh13 (by decide) (by decide) rfl g14 dX12_freezes_80 rfl ?_
    obtain ⟨g15, hf⟩ := ms_gE hf
    refine m_ias (κ := 40) (φ := 650) (n := 1980) (pc' := 82) C Bh13 Mh13 (by decide) (by decide) rfl g15 dX12_freezes_81 rfl (fun αh16 Hh16 Lh16 σh16 eh16 Bh16 Mh16 => ?_)
    replace hf := ms_lE eh16 hf
    refine lv_aload_n hx hb dX12_freezes_82 rfl (lv_at hl 1 rfl) (hp_n (n := 83) rfl ?_)
    refine lv_aload_n hx hb dX12_freezes_83 rfl (lv_at hl 1 rfl) (hp_n (n := 84) rfl ?_)
    refine lv_iload_n hx hb dX12_freezes_84 rfl (lv_at hl 2 rfl) (hp_n (n := 85) rfl ?_)
    obtain ⟨rh17, qh17, hf⟩ := ms_bE hf
    refine m_cp (pc' := 88) Bh16 (hp_runV (As := [.int a1]) (rest := [.ref a0]) C Bh16 (m_X12_sizeOf n Γ l αh16 a0 ρ σh16 Mh16 a1 rh17 qh17) lb_X12_sizeOf lv_X12_sizeOf lk_X12_209 Mh16.1 rfl (by decide) rfl hl.1 rfl (Nat.le_of_ble_eq_true rfl) dX12_freezes_85 ⟨Nat.le_refl _, Nat.le_refl _⟩) rfl (fun Hh17 Lh17 Bh17 => ?_)
    obtain ⟨σh18, qh18, hf⟩ := ms_bE hf
    refine m_cv (pc' := 91) (a := a0) (ρ := ρ) Bh17 (hp_runV (As := [.int rh17]) (rest := []) C Bh17 (m_X12_peaksOf n Γ l αh16 a0 ρ σh16 Mh16 rh17 σh18 qh18) lb_X12_peaksOf lv_X12_peaksOf lk_X12_218 Mh16.1 rfl (by decide) rfl hl.1 rfl (Nat.le_of_ble_eq_true rfl) dX12_freezes_88 ⟨Nat.le_refl _, Nat.le_refl _⟩) rfl (fun αh18 Hh18 Lh18 Bh18 Mh18 => ?_)
    refine lv_aload_n hx hb dX12_freezes_91 rfl (lv_at hl 1 rfl) (hp_n (n := 92) rfl ?_)
    refine lv_iload_n hx hb dX12_freezes_92 rfl (lv_at hl 2 rfl) (hp_n (n := 93) rfl ?_)
    obtain ⟨σh19, qh19, hf⟩ := ms_bE hf
    refine m_cv (pc' := 96) (a := a0) (ρ := ρ) Bh18 (hp_runV (As := [.int a1]) (rest := []) C Bh18 (m_X12_fetches n Γ l αh18 a0 ρ σh18 Mh18 a1 σh19 qh19) lb_X12_fetches lv_X12_fetches lk_X12_161 Mh18.1 rfl (by decide) rfl hl.1 rfl (Nat.le_of_ble_eq_true rfl) dX12_freezes_93 ⟨Nat.le_refl _, Nat.le_refl _⟩) rfl (fun αh19 Hh19 Lh19 Bh19 Mh19 => ?_)
    refine lv_iconst (v := 0) hx hb dX12_freezes_96 (by decide) (hp_n (n := 97) rfl ?_)
    have J98 : ∀ (k98 : Nat) (αh20 : hp_T) (Hh20 : Heap) (Lh20 : List Loc) (Bh20 : hp_B Γ mo s α αh20 Hh20 Lh20) (σh20 : ms_T) (Mh20 : hm_M αh20 a0 ρ σh20) (v2_h20 : Int32) (v3_h20 : Int32) (ls : Array Slot) (hl : lv_has ls 4 [(0, .ref a0), (2, .int v2_h20), (3, .int v3_h20)]) (hf : f_X12_freezes_L98 n k98 σh20 v2_h20 v3_h20 = some res), W p l e (hp_rm 43 0 0) s m ([.ref a0, .int a1] : List Value).toArray below meth c Hh20 Lh20 0 0 (MQ below (hp_Qi Γ (fun r β => r = res.1 ∧ mo α β ∧ hm_M β a0 ρ res.2)) ([.ref a0, .int a1] : List Value).toArray s 0 0 (hp_A Γ)) (F0 m 98 ls []) := by
      intro k98
      induction k98 with
      | zero => intro αh20 Hh20 Lh20 Bh20 σh20 Mh20 v2_h20 v3_h20 ls hl hf; rw [f_X12_freezes_L98.eq_1] at hf; cases hf
      | succ k98 ih98 =>
        intro αh20 Hh20 Lh20 Bh20 σh20 Mh20 v2_h20 v3_h20 ls hl hf
        rw [f_X12_freezes_L98.eq_2] at hf
        refine lv_iload_n hx hb dX12_freezes_98 rfl (lv_at hl 2 rfl) (hp_n (n := 99) rfl ?_)
        refine lv_aload_n hx hb dX12_freezes_99 rfl (lv_at hl 0 rfl) (hp_n (n := 100) rfl ?_)
        refine m_geti (k := 7) (φ := 657) (pc' := 103) C Bh20 Mh20 fl_X12_139 rfl rfl dX12_freezes_100 rfl ?_
        refine lv_icmp_ge (tgt := 128) hx hb dX12_freezes_103 (by decide) (fun c21 => ?_) (fun c21 => hp_n (n := 106) rfl ?_)
        ·
          replace hf := ms_iT c21 hf
          refine lv_aload_n hx hb dX12_freezes_128 rfl (lv_at hl 0 rfl) (hp_n (n := 129) rfl ?_)
          refine m_getr (κ := 40) (k := 0) (pc' := 132) C Bh20 Mh20 fl_X12_7 rfl (by decide) dX12_freezes_129 rfl ?_
          refine lv_iconst (v := 3) hx hb dX12_freezes_132 (by decide) (hp_n (n := 133) rfl ?_)
          refine lv_dup2_11 hx hb dX12_freezes_133 rfl rfl (hp_n (n := 134) rfl ?_)
          obtain ⟨g22, hf⟩ := ms_gE hf
          refine m_ial (κ := 40) (φ := 650) (n := 1980) (pc' := 135) C Bh20 Mh20 (by decide) (by decide) rfl g22 dX12_freezes_134 rfl ?_
          refine lv_iconst (v := 1) hx hb dX12_freezes_135 (by decide) (hp_n (n := 136) rfl ?_)
          refine lv_iadd hx hb dX12_freezes_136 (hp_n (n := 137) rfl ?_)
          obtain ⟨g23, hf⟩ := ms_gE hf
          refine m_ias (κ := 40) (φ := 650) (n := 1980) (pc' := 138) C Bh20 Mh20 (by decide) (by decide) rfl g23 dX12_freezes_137 rfl (fun αh24 Hh24 Lh24 σh24 eh24 Bh24 Mh24 => ?_)
          replace hf := ms_lE eh24 hf
          refine lv_aload_n hx hb dX12_freezes_138 rfl (lv_at hl 0 rfl) (hp_n (n := 139) rfl ?_)
          refine m_getr (κ := 40) (k := 0) (pc' := 142) C Bh24 Mh24 fl_X12_7 rfl (by decide) dX12_freezes_139 rfl ?_
          refine lv_iconst (v := 4) hx hb dX12_freezes_142 (by decide) (hp_n (n := 143) rfl ?_)
          refine lv_dup2_11 hx hb dX12_freezes_143 rfl rfl (hp_n (n := 144) rfl ?_)
          obtain ⟨g25, hf⟩ := ms_gE hf
          refine m_ial (κ := 40) (φ := 650) (n := 1980) (pc' := 145) C Bh24 Mh24 (by decide) (by decide) rfl g25 dX12_freezes_144 rfl ?_
          refine lv_iconst (v := 1) hx hb dX12_freezes_145 (by decide) (hp_n (n := 146) rfl ?_)
          refine lv_iadd hx hb dX12_freezes_146 (hp_n (n := 147) rfl ?_)
          obtain ⟨g26, hf⟩ := ms_gE hf
          refine m_ias (κ := 40) (φ := 650) (n := 1980) (pc' := 148) C Bh24 Mh24 (by decide) (by decide) rfl g26 dX12_freezes_147 rfl (fun αh27 Hh27 Lh27 σh27 eh27 Bh27 Mh27 => ?_)
          replace hf := ms_lE eh27 hf
          refine lv_aload_n hx hb dX12_freezes_148 rfl (lv_at hl 0 rfl) (hp_n (n := 149) rfl ?_)
          refine m_getr (κ := 40) (k := 0) (pc' := 152) C Bh27 Mh27 fl_X12_7 rfl (by decide) dX12_freezes_149 rfl ?_
          refine lv_iconst (v := 3) hx hb dX12_freezes_152 (by decide) (hp_n (n := 153) rfl ?_)
          obtain ⟨g28, hf⟩ := ms_gE hf
          refine m_ial (κ := 40) (φ := 650) (n := 1980) (pc' := 154) C Bh27 Mh27 (by decide) (by decide) rfl g28 dX12_freezes_153 rfl ?_
          refine lv_iconst (v := 1) hx hb dX12_freezes_154 (by decide) (hp_n (n := 155) rfl ?_)
          refine lv_isub hx hb dX12_freezes_155 (hp_n (n := 156) rfl ?_)
          cases hf
          exact q_iret C Bh27 hr hlk ⟨rfl, Bh27.2.2, Mh27⟩ dX12_freezes_156
        ·
          replace hf := ms_iF c21 hf
          refine lv_aload_n hx hb dX12_freezes_106 rfl (lv_at hl 0 rfl) (hp_n (n := 107) rfl ?_)
          refine m_getr (κ := 40) (k := 0) (pc' := 110) C Bh20 Mh20 fl_X12_7 rfl (by decide) dX12_freezes_107 rfl ?_
          refine lv_iload_n hx hb dX12_freezes_110 rfl (lv_at hl 1 rfl) (hp_n (n := 111) rfl ?_)
          refine lv_iconst (v := 4) hx hb dX12_freezes_111 (by decide) (hp_n (n := 112) rfl ?_)
          refine lv_iadd hx hb dX12_freezes_112 (hp_n (n := 113) rfl ?_)
          refine lv_iload_n hx hb dX12_freezes_113 rfl (lv_at hl 2 rfl) (hp_n (n := 114) rfl ?_)
          refine lv_iadd hx hb dX12_freezes_114 (hp_n (n := 115) rfl ?_)
          refine lv_aload_n hx hb dX12_freezes_115 rfl (lv_at hl 0 rfl) (hp_n (n := 116) rfl ?_)
          refine m_getr (κ := 44) (k := 6) (pc' := 119) C Bh20 Mh20 fl_X12_22 rfl (by decide) dX12_freezes_116 rfl ?_
          refine lv_iload_n hx hb dX12_freezes_119 rfl (lv_at hl 2 rfl) (hp_n (n := 120) rfl ?_)
          obtain ⟨g29, hf⟩ := ms_gE hf
          refine m_ial (κ := 44) (φ := 656) (n := 128) (pc' := 121) C Bh20 Mh20 (by decide) (by decide) rfl g29 dX12_freezes_120 rfl ?_
          obtain ⟨g30, hf⟩ := ms_gE hf
          refine m_ias (κ := 40) (φ := 650) (n := 1980) (pc' := 122) C Bh20 Mh20 (by decide) (by decide) rfl g30 dX12_freezes_121 rfl (fun αh31 Hh31 Lh31 σh31 eh31 Bh31 Mh31 => ?_)
          replace hf := ms_lE eh31 hf
          obtain ⟨x32, ex32⟩ : ∃ y : Int32, y = v3_h20 + 1 := ⟨_, rfl⟩
          replace hf := ms_lE ex32 hf
          refine lv_iinc (v := x32) (lv' := [(3, .int x32), (0, .ref a0), (2, .int v2_h20)]) hx hb dX12_freezes_122 hl (k := 2) rfl (by rw [ex32]; rfl) (by decide) rfl (fun ls hl => hp_n (n := 125) rfl ?_)
          refine lv_goto (tgt := 98) hx hb dX12_freezes_125 (by decide) ?_
          exact ih98 αh31 Hh31 Lh31 Bh31 σh31 Mh31 v2_h20 x32 ls (lv_sub hl [1, 2, 0] rfl) hf
    refine lv_istore_n (lv' := [(3, .int (0 : Int32)), (2, .int x4), (0, .ref a0), (1, .int a1)]) hx hb dX12_freezes_97 rfl hl (by decide) rfl (fun ls hl => hp_n (n := 98) rfl ?_)
    exact J98 n αh19 Hh19 Lh19 Bh19 σh19 Mh19 x4 (0 : Int32) ls (lv_sub hl [2, 1, 0] rfl) hf
  ·
    replace hf := ms_iT c2 hf
    refine lv_aload_n hx hb dX12_freezes_11 rfl (lv_at hl 0 rfl) (hp_n (n := 12) rfl ?_)
    refine lv_iconst (v := 3) hx hb dX12_freezes_12 (by decide) (hp_n (n := 13) rfl ?_)
    obtain ⟨rh33, σh33, qh33, hf⟩ := ms_cE hf
    refine m_ci (pc' := 16) (a := a0) (ρ := ρ) B (hp_runV (As := [.int (3 : Int32)]) (rest := []) C B (m_X12_refuse n Γ l α a0 ρ σ hM (3 : Int32) (rh33, σh33) qh33) lb_X12_refuse lv_X12_refuse lk_X12_212 hM.1 rfl (by decide) rfl hl.1 rfl (Nat.le_of_ble_eq_true rfl) dX12_freezes_13 ⟨Nat.le_refl _, Nat.le_refl _⟩) rfl (fun αh33 Hh33 Lh33 Bh33 Mh33 => ?_)
    cases hf
    exact q_iret C Bh33 hr hlk ⟨rfl, Bh33.2.2, Mh33⟩ dX12_freezes_16
def f_X12_trust (n : Nat) (σ : ms_T) (a1 : Int32) (a2 : Int32) : Option Int32 :=
  ms_g (((76 : Int32) + ((4 : Int32) * a1)) + a2) 1980 <|
  some (ms_E σ 40 ((((76 : Int32) + ((4 : Int32) * a1)) + a2)).toNatClampNeg)
set_option maxRecDepth 100000 in
set_option maxHeartbeats 4000000 in
theorem m_X12_trust (n : Nat) (Γ : hp_G) (l : Launch) (α : hp_T) (a0 : Nat) (ρ : Nat → Nat) (σ : ms_T) (hM : hm_M α a0 ρ σ) (a1 : Int32) (a2 : Int32) (res : Int32) (hf : f_X12_trust n σ a1 a2 = some res) : Met l yX12_trust (hp_ws yX12_trust cX12_trust 3 (some .int)) (hp_rm 0 0 0) (hp_Pc Γ α [.ref a0, .int a1, .int a2]) (hp_Qi Γ (fun r β => β = α ∧ r = res)) 0 0 (hp_A Γ) := by
  unfold f_X12_trust at hf
  refine hp_start (by decide) ?_
  intro p e s m below meth c C hr hlk B0 hnm
  have C : hp_C Γ p m c cX12_trust 3 s ([.ref a0, .int a1, .int a2] : List Value).toArray RX12 := C
  have hx := C.1.1
  have hb := C.1.2.1
  have hown := C.1.2.2.2.1
  have hts := C.1.2.2.2.2
  have B : hp_B Γ (fun _ _ => True) s α α s.heap [] := ⟨B0.1, B0.2.1, trivial⟩
  have hl := lv_entry ([.ref a0, .int a1, .int a2]) (n := 3) (Nat.le_of_ble_eq_true rfl)
  show W p l e (hp_rm 0 0 0) s m ([.ref a0, .int a1, .int a2] : List Value).toArray below meth c s.heap [] 0 0 (MQ below (hp_Qi Γ (fun r β => β = α ∧ r = res)) ([.ref a0, .int a1, .int a2] : List Value).toArray s 0 0 (hp_A Γ)) (entryFrame m ([.ref a0, .int a1, .int a2] : List Value).toArray 3)
  rw [lg_entry_eq]
  generalize (lg_sl ([.ref a0, .int a1, .int a2]) ++ List.replicate (3 - (lg_sl ([.ref a0, .int a1, .int a2])).length) Slot.unset).toArray = ls at hl ⊢
  have hl : lv_has ls 3 [(0, .ref a0), (1, .int a1), (2, .int a2)] := hl
  refine lv_aload_n hx hb dX12_trust_0 rfl (lv_at hl 0 rfl) (hp_n (n := 1) rfl ?_)
  refine m_getr (κ := 40) (k := 0) (pc' := 4) C B hM fl_X12_7 rfl (by decide) dX12_trust_1 rfl ?_
  refine lv_bipush (v := 76) hx hb dX12_trust_4 (by decide) (hp_n (n := 6) rfl ?_)
  refine lv_iconst (v := 4) hx hb dX12_trust_6 (by decide) (hp_n (n := 7) rfl ?_)
  refine lv_iload_n hx hb dX12_trust_7 rfl (lv_at hl 1 rfl) (hp_n (n := 8) rfl ?_)
  refine lv_imul hx hb dX12_trust_8 (hp_n (n := 9) rfl ?_)
  refine lv_iadd hx hb dX12_trust_9 (hp_n (n := 10) rfl ?_)
  refine lv_iload_n hx hb dX12_trust_10 rfl (lv_at hl 2 rfl) (hp_n (n := 11) rfl ?_)
  refine lv_iadd hx hb dX12_trust_11 (hp_n (n := 12) rfl ?_)
  obtain ⟨g1, hf⟩ := ms_gE hf
  refine m_ial (κ := 40) (φ := 650) (n := 1980) (pc' := 13) C B hM (by decide) (by decide) rfl g1 dX12_trust_12 rfl ?_
  cases hf
  exact q_iret C B hr hlk ⟨rfl, rfl⟩ dX12_trust_13
def f_X12_trusts (n : Nat) (σ : ms_T) (a1 : Int32) (a2 : Int32) (a3 : Int32) : Option ms_T :=
  ms_g ((76 : Int32) + ((4 : Int32) * a1)) 1980 <|
  ms_l (ms_sE σ 40 (((76 : Int32) + ((4 : Int32) * a1))).toNatClampNeg a2) fun σh2 =>
  ms_g (((76 : Int32) + ((4 : Int32) * a1)) + (1 : Int32)) 1980 <|
  ms_l (ms_sE σh2 40 ((((76 : Int32) + ((4 : Int32) * a1)) + (1 : Int32))).toNatClampNeg a3) fun σh4 =>
  some σh4
set_option maxRecDepth 100000 in
set_option maxHeartbeats 4000000 in
theorem m_X12_trusts (n : Nat) (Γ : hp_G) (l : Launch) (α : hp_T) (a0 : Nat) (ρ : Nat → Nat) (σ : ms_T) (hM : hm_M α a0 ρ σ) (a1 : Int32) (a2 : Int32) (a3 : Int32) (res : ms_T) (hf : f_X12_trusts n σ a1 a2 a3 = some res) : Met l yX12_trusts (hp_ws yX12_trusts cX12_trusts 4 none) (hp_rm 0 0 0) (hp_Pc Γ α [.ref a0, .int a1, .int a2, .int a3]) (hp_Qv Γ (fun β => mo α β ∧ hm_M β a0 ρ res)) 0 0 (hp_A Γ) := by
  unfold f_X12_trusts at hf
  refine hp_start (by decide) ?_
  intro p e s m below meth c C hr hlk B0 hnm
  have C : hp_C Γ p m c cX12_trusts 4 s ([.ref a0, .int a1, .int a2, .int a3] : List Value).toArray RX12 := C
  have hx := C.1.1
  have hb := C.1.2.1
  have hown := C.1.2.2.2.1
  have hts := C.1.2.2.2.2
  have B : hp_B Γ mo s α α s.heap [] := ⟨B0.1, B0.2.1, mo_rf⟩
  have hl := lv_entry ([.ref a0, .int a1, .int a2, .int a3]) (n := 4) (Nat.le_of_ble_eq_true rfl)
  show W p l e (hp_rm 0 0 0) s m ([.ref a0, .int a1, .int a2, .int a3] : List Value).toArray below meth c s.heap [] 0 0 (MQ below (hp_Qv Γ (fun β => mo α β ∧ hm_M β a0 ρ res)) ([.ref a0, .int a1, .int a2, .int a3] : List Value).toArray s 0 0 (hp_A Γ)) (entryFrame m ([.ref a0, .int a1, .int a2, .int a3] : List Value).toArray 4)
  rw [lg_entry_eq]
  generalize (lg_sl ([.ref a0, .int a1, .int a2, .int a3]) ++ List.replicate (4 - (lg_sl ([.ref a0, .int a1, .int a2, .int a3])).length) Slot.unset).toArray = ls at hl ⊢
  have hl : lv_has ls 4 [(0, .ref a0), (1, .int a1), (2, .int a2), (3, .int a3)] := hl
  refine lv_aload_n hx hb dX12_trusts_0 rfl (lv_at hl 0 rfl) (hp_n (n := 1) rfl ?_)
  refine m_getr (κ := 40) (k := 0) (pc' := 4) C B hM fl_X12_7 rfl (by decide) dX12_trusts_1 rfl ?_
  refine lv_bipush (v := 76) hx hb dX12_trusts_4 (by decide) (hp_n (n := 6) rfl ?_)
  refine lv_iconst (v := 4) hx hb dX12_trusts_6 (by decide) (hp_n (n := 7) rfl ?_)
  refine lv_iload_n hx hb dX12_trusts_7 rfl (lv_at hl 1 rfl) (hp_n (n := 8) rfl ?_)
  refine lv_imul hx hb dX12_trusts_8 (hp_n (n := 9) rfl ?_)
  refine lv_iadd hx hb dX12_trusts_9 (hp_n (n := 10) rfl ?_)
  refine lv_iload_n hx hb dX12_trusts_10 rfl (lv_at hl 2 rfl) (hp_n (n := 11) rfl ?_)
  obtain ⟨g1, hf⟩ := ms_gE hf
  refine m_ias (κ := 40) (φ := 650) (n := 1980) (pc' := 12) C B hM (by decide) (by decide) rfl g1 dX12_trusts_11 rfl (fun αh2 Hh2 Lh2 σh2 eh2 Bh2 Mh2 => ?_)
  replace hf := ms_lE eh2 hf
  refine lv_aload_n hx hb dX12_trusts_12 rfl (lv_at hl 0 rfl) (hp_n (n := 13) rfl ?_)
  refine m_getr (κ := 40) (k := 0) (pc' := 16) C Bh2 Mh2 fl_X12_7 rfl (by decide) dX12_trusts_13 rfl ?_
  refine lv_bipush (v := 76) hx hb dX12_trusts_16 (by decide) (hp_n (n := 18) rfl ?_)
  refine lv_iconst (v := 4) hx hb dX12_trusts_18 (by decide) (hp_n (n := 19) rfl ?_)
  refine lv_iload_n hx hb dX12_trusts_19 rfl (lv_at hl 1 rfl) (hp_n (n := 20) rfl ?_)
  refine lv_imul hx hb dX12_trusts_20 (hp_n (n := 21) rfl ?_)
  refine lv_iadd hx hb dX12_trusts_21 (hp_n (n := 22) rfl ?_)
  refine lv_iconst (v := 1) hx hb dX12_trusts_22 (by decide) (hp_n (n := 23) rfl ?_)
  refine lv_iadd hx hb dX12_trusts_23 (hp_n (n := 24) rfl ?_)
  refine lv_iload_n hx hb dX12_trusts_24 rfl (lv_at hl 3 rfl) (hp_n (n := 25) rfl ?_)
  obtain ⟨g3, hf⟩ := ms_gE hf
  refine m_ias (κ := 40) (φ := 650) (n := 1980) (pc' := 26) C Bh2 Mh2 (by decide) (by decide) rfl g3 dX12_trusts_25 rfl (fun αh4 Hh4 Lh4 σh4 eh4 Bh4 Mh4 => ?_)
  replace hf := ms_lE eh4 hf
  cases hf
  exact q_vret C Bh4 hr hlk ⟨Bh4.2.2, Mh4⟩ dX12_trusts_26
def f_X12_shows_J117 (n : Nat) (σh5 : ms_T) (v1_h5 : Int32) (v6_h5 : Int32) : Option (Int32 × ms_T) :=
  ms_l ((((76 : Int32) + ((4 : Int32) * v1_h5)) + (3 : Int32))) fun x6 =>
  ms_g x6 1980 <|
  ms_g x6 1980 <|
  ms_l (ms_sE σh5 40 (x6).toNatClampNeg ((ms_E σh5 40 (x6).toNatClampNeg) + (1 : Int32))) fun σh9 =>
  ms_g (4 : Int32) 1980 <|
  ms_g (4 : Int32) 1980 <|
  ms_l (ms_sE σh9 40 ((4 : Int32)).toNatClampNeg ((ms_E σh9 40 ((4 : Int32)).toNatClampNeg) + (1 : Int32))) fun σh12 =>
  some (v6_h5, σh12)
def f_X12_shows_J92 (n : Nat) (σh4 : ms_T) (v1_h4 : Int32) (v6_h4 : Int32) : Option (Int32 × ms_T) :=
  if v6_h4 ≤ 0 then
    f_X12_shows_J117 n σh4 v1_h4 v6_h4
  else
    if (5 : Int32) ≤ v6_h4 then
      f_X12_shows_J117 n σh4 v1_h4 v6_h4
    else
      ms_g (((76 : Int32) + ((4 : Int32) * v1_h4)) + (2 : Int32)) 1980 <|
      ms_l (ms_sE σh4 40 ((((76 : Int32) + ((4 : Int32) * v1_h4)) + (2 : Int32))).toNatClampNeg (1 : Int32)) fun σh16 =>
      f_X12_shows_J117 n σh16 v1_h4 v6_h4
def f_X12_shows_J71 (n : Nat) (σh3 : ms_T) (v1_h3 : Int32) (v3_h3 : Int32) (v4_h3 : Int32) (v5_h3 : Int32) (w0_h3 : Int32) : Option (Int32 × ms_T) :=
  if w0_h3 = 0 then
    if v3_h3 ≤ v4_h3 then
      f_X12_shows_J92 n σh3 v1_h3 w0_h3
    else
      ms_b (f_X12_trusts n σh3 v1_h3 v3_h3 v5_h3) fun σh19 =>
      f_X12_shows_J92 n σh19 v1_h3 w0_h3
  else
    f_X12_shows_J92 n σh3 v1_h3 w0_h3
def f_X12_shows (n : Nat) (σ : ms_T) (a1 : Int32) (a2 : Int32) (a3 : Int32) : Option (Int32 × ms_T) :=
  ms_b (f_X12_trust n σ a1 (0 : Int32)) fun rh1 =>
  ms_b (f_X12_headOf n σ a2 a3) fun rh2 =>
  if rh1 ≤ a3 then
    ms_b (f_X12_trust n σ a1 (1 : Int32)) fun rh21 =>
    ms_c (f_X12_whyByRecord n σ a2 rh1 rh21 a3 rh2) fun rh22 σh22 =>
    f_X12_shows_J71 n σh22 a1 a3 rh1 rh2 rh22
  else
    ms_b (f_X12_sizeOf n σ a2) fun rh23 =>
    if rh1 ≤ rh23 then
      ms_b (f_X12_trust n σ a1 (1 : Int32)) fun rh25 =>
      ms_c (f_X12_whyByRecord n σ a2 a3 rh2 rh1 rh25) fun rh26 σh26 =>
      f_X12_shows_J71 n σh26 a1 a3 rh1 rh2 rh26
    else
      f_X12_shows_J71 n σ a1 a3 rh1 rh2 (5 : Int32)
set_option maxRecDepth 100000 in
set_option maxHeartbeats 4000000 in
theorem m_X12_shows (n : Nat) (Γ : hp_G) (l : Launch) (α : hp_T) (a0 : Nat) (ρ : Nat → Nat) (σ : ms_T) (hM : hm_M α a0 ρ σ) (a1 : Int32) (a2 : Int32) (a3 : Int32) (res : (Int32 × ms_T)) (hf : f_X12_shows n σ a1 a2 a3 = some res) : Met l yX12_shows (hp_ws yX12_shows cX12_shows 7 (some .int)) (hp_rm 44 0 0) (hp_Pc Γ α [.ref a0, .int a1, .int a2, .int a3]) (hp_Qi Γ (fun r β => r = res.1 ∧ mo α β ∧ hm_M β a0 ρ res.2)) 0 0 (hp_A Γ) := by
  unfold f_X12_shows at hf
  refine hp_start (by decide) ?_
  intro p e s m below meth c C hr hlk B0 hnm
  have C : hp_C Γ p m c cX12_shows 7 s ([.ref a0, .int a1, .int a2, .int a3] : List Value).toArray RX12 := C
  have hx := C.1.1
  have hb := C.1.2.1
  have hown := C.1.2.2.2.1
  have hts := C.1.2.2.2.2
  have B : hp_B Γ mo s α α s.heap [] := ⟨B0.1, B0.2.1, mo_rf⟩
  have hl := lv_entry ([.ref a0, .int a1, .int a2, .int a3]) (n := 7) (Nat.le_of_ble_eq_true rfl)
  show W p l e (hp_rm 44 0 0) s m ([.ref a0, .int a1, .int a2, .int a3] : List Value).toArray below meth c s.heap [] 0 0 (MQ below (hp_Qi Γ (fun r β => r = res.1 ∧ mo α β ∧ hm_M β a0 ρ res.2)) ([.ref a0, .int a1, .int a2, .int a3] : List Value).toArray s 0 0 (hp_A Γ)) (entryFrame m ([.ref a0, .int a1, .int a2, .int a3] : List Value).toArray 7)
  rw [lg_entry_eq]
  generalize (lg_sl ([.ref a0, .int a1, .int a2, .int a3]) ++ List.replicate (7 - (lg_sl ([.ref a0, .int a1, .int a2, .int a3])).length) Slot.unset).toArray = ls at hl ⊢
  have hl : lv_has ls 7 [(0, .ref a0), (1, .int a1), (2, .int a2), (3, .int a3)] := hl
  refine lv_aload_n hx hb dX12_shows_0 rfl (lv_at hl 0 rfl) (hp_n (n := 1) rfl ?_)
  refine lv_iload_n hx hb dX12_shows_1 rfl (lv_at hl 1 rfl) (hp_n (n := 2) rfl ?_)
  refine lv_iconst (v := 0) hx hb dX12_shows_2 (by decide) (hp_n (n := 3) rfl ?_)
  obtain ⟨rh1, qh1, hf⟩ := ms_bE hf
  refine m_cp (pc' := 6) B (hp_runV (As := [.int a1, .int (0 : Int32)]) (rest := []) C B (m_X12_trust n Γ l α a0 ρ σ hM a1 (0 : Int32) rh1 qh1) lb_X12_trust lv_X12_trust lk_X12_221 hM.1 rfl (by decide) rfl hl.1 rfl (Nat.le_of_ble_eq_true rfl) dX12_shows_3 ⟨Nat.le_refl _, Nat.le_refl _⟩) rfl (fun Hh1 Lh1 Bh1 => ?_)
  refine lv_istore (lv' := [(4, .int rh1), (0, .ref a0), (1, .int a1), (2, .int a2), (3, .int a3)]) hx hb dX12_shows_6 hl (by decide) rfl (fun ls hl => hp_n (n := 8) rfl ?_)
  refine lv_aload_n hx hb dX12_shows_8 rfl (lv_at hl 1 rfl) (hp_n (n := 9) rfl ?_)
  refine lv_iload_n hx hb dX12_shows_9 rfl (lv_at hl 3 rfl) (hp_n (n := 10) rfl ?_)
  refine lv_iload_n hx hb dX12_shows_10 rfl (lv_at hl 4 rfl) (hp_n (n := 11) rfl ?_)
  obtain ⟨rh2, qh2, hf⟩ := ms_bE hf
  refine m_cp (pc' := 14) Bh1 (hp_runV (As := [.int a2, .int a3]) (rest := []) C Bh1 (m_X12_headOf n Γ l α a0 ρ σ hM a2 a3 rh2 qh2) lb_X12_headOf lv_X12_headOf lk_X12_215 hM.1 rfl (by decide) rfl hl.1 rfl (Nat.le_of_ble_eq_true rfl) dX12_shows_11 ⟨Nat.le_refl _, Nat.le_refl _⟩) rfl (fun Hh2 Lh2 Bh2 => ?_)
  refine lv_istore (lv' := [(5, .int rh2), (4, .int rh1), (0, .ref a0), (1, .int a1), (2, .int a2), (3, .int a3)]) hx hb dX12_shows_14 hl (by decide) rfl (fun ls hl => hp_n (n := 16) rfl ?_)
  refine lv_iload hx hb dX12_shows_16 (lv_at hl 1 rfl) (hp_n (n := 18) rfl ?_)
  refine lv_iload_n hx hb dX12_shows_18 rfl (lv_at hl 5 rfl) (hp_n (n := 19) rfl ?_)
  have J71 : ∀ (αh3 : hp_T) (Hh3 : Heap) (Lh3 : List Loc) (Bh3 : hp_B Γ mo s α αh3 Hh3 Lh3) (σh3 : ms_T) (Mh3 : hm_M αh3 a0 ρ σh3) (v1_h3 : Int32) (v3_h3 : Int32) (v4_h3 : Int32) (v5_h3 : Int32) (w0_h3 : Int32) (ls : Array Slot) (hl : lv_has ls 7 [(0, .ref a0), (1, .int v1_h3), (3, .int v3_h3), (4, .int v4_h3), (5, .int v5_h3)]) (hf : f_X12_shows_J71 n σh3 v1_h3 v3_h3 v4_h3 v5_h3 w0_h3 = some res), W p l e (hp_rm 44 0 0) s m ([.ref a0, .int a1, .int a2, .int a3] : List Value).toArray below meth c Hh3 Lh3 0 0 (MQ below (hp_Qi Γ (fun r β => r = res.1 ∧ mo α β ∧ hm_M β a0 ρ res.2)) ([.ref a0, .int a1, .int a2, .int a3] : List Value).toArray s 0 0 (hp_A Γ)) (F0 m 71 ls [.int w0_h3]) := by
    intro αh3 Hh3 Lh3 Bh3 σh3 Mh3 v1_h3 v3_h3 v4_h3 v5_h3 w0_h3 ls hl hf
    unfold f_X12_shows_J71 at hf
    refine lv_istore (lv' := [(6, .int w0_h3), (0, .ref a0), (1, .int v1_h3), (3, .int v3_h3), (4, .int v4_h3), (5, .int v5_h3)]) hx hb dX12_shows_71 hl (by decide) rfl (fun ls hl => hp_n (n := 73) rfl ?_)
    refine lv_iload hx hb dX12_shows_73 (lv_at hl 0 rfl) (hp_n (n := 75) rfl ?_)
    have J92 : ∀ (αh4 : hp_T) (Hh4 : Heap) (Lh4 : List Loc) (Bh4 : hp_B Γ mo s α αh4 Hh4 Lh4) (σh4 : ms_T) (Mh4 : hm_M αh4 a0 ρ σh4) (v1_h4 : Int32) (v6_h4 : Int32) (ls : Array Slot) (hl : lv_has ls 7 [(0, .ref a0), (1, .int v1_h4), (6, .int v6_h4)]) (hf : f_X12_shows_J92 n σh4 v1_h4 v6_h4 = some res), W p l e (hp_rm 44 0 0) s m ([.ref a0, .int a1, .int a2, .int a3] : List Value).toArray below meth c Hh4 Lh4 0 0 (MQ below (hp_Qi Γ (fun r β => r = res.1 ∧ mo α β ∧ hm_M β a0 ρ res.2)) ([.ref a0, .int a1, .int a2, .int a3] : List Value).toArray s 0 0 (hp_A Γ)) (F0 m 92 ls []) := by
      intro αh4 Hh4 Lh4 Bh4 σh4 Mh4 v1_h4 v6_h4 ls hl hf
      unfold f_X12_shows_J92 at hf
      refine lv_iload hx hb dX12_shows_92 (lv_at hl 2 rfl) (hp_n (n := 94) rfl ?_)
      have J117 : ∀ (αh5 : hp_T) (Hh5 : Heap) (Lh5 : List Loc) (Bh5 : hp_B Γ mo s α αh5 Hh5 Lh5) (σh5 : ms_T) (Mh5 : hm_M αh5 a0 ρ σh5) (v1_h5 : Int32) (v6_h5 : Int32) (ls : Array Slot) (hl : lv_has ls 7 [(0, .ref a0), (1, .int v1_h5), (6, .int v6_h5)]) (hf : f_X12_shows_J117 n σh5 v1_h5 v6_h5 = some res), W p l e (hp_rm 44 0 0) s m ([.ref a0, .int a1, .int a2, .int a3] : List Value).toArray below meth c Hh5 Lh5 0 0 (MQ below (hp_Qi Γ (fun r β => r = res.1 ∧ mo α β ∧ hm_M β a0 ρ res.2)) ([.ref a0, .int a1, .int a2, .int a3] : List Value).toArray s 0 0 (hp_A Γ)) (F0 m 117 ls []) := by
        intro αh5 Hh5 Lh5 Bh5 σh5 Mh5 v1_h5 v6_h5 ls hl hf
        unfold f_X12_shows_J117 at hf
        refine lv_aload_n hx hb dX12_shows_117 rfl (lv_at hl 0 rfl) (hp_n (n := 118) rfl ?_)
        refine m_getr (κ := 40) (k := 0) (pc' := 121) C Bh5 Mh5 fl_X12_7 rfl (by decide) dX12_shows_118 rfl ?_
        refine lv_bipush (v := 76) hx hb dX12_shows_121 (by decide) (hp_n (n := 123) rfl ?_)
        refine lv_iconst (v := 4) hx hb dX12_shows_123 (by decide) (hp_n (n := 124) rfl ?_)
        refine lv_iload_n hx hb dX12_shows_124 rfl (lv_at hl 1 rfl) (hp_n (n := 125) rfl ?_)
        refine lv_imul hx hb dX12_shows_125 (hp_n (n := 126) rfl ?_)
        refine lv_iadd hx hb dX12_shows_126 (hp_n (n := 127) rfl ?_)
        refine lv_iconst (v := 3) hx hb dX12_shows_127 (by decide) (hp_n (n := 128) rfl ?_)
        refine lv_iadd hx hb dX12_shows_128 (hp_n (n := 129) rfl ?_)
        refine lv_topi (fun x6 ex6 => ?_)
        replace hf := ms_lE ex6 hf
        refine lv_dup2_11 hx hb dX12_shows_129 rfl rfl (hp_n (n := 130) rfl ?_)
        obtain ⟨g7, hf⟩ := ms_gE hf
        refine m_ial (κ := 40) (φ := 650) (n := 1980) (pc' := 131) C Bh5 Mh5 (by decide) (by decide) rfl g7 dX12_shows_130 rfl ?_
        refine lv_iconst (v := 1) hx hb dX12_shows_131 (by decide) (hp_n (n := 132) rfl ?_)
        refine lv_iadd hx hb dX12_shows_132 (hp_n (n := 133) rfl ?_)
        obtain ⟨g8, hf⟩ := ms_gE hf
        refine m_ias (κ := 40) (φ := 650) (n := 1980) (pc' := 134) C Bh5 Mh5 (by decide) (by decide) rfl g8 dX12_shows_133 rfl (fun αh9 Hh9 Lh9 σh9 eh9 Bh9 Mh9 => ?_)
        replace hf := ms_lE eh9 hf
        refine lv_aload_n hx hb dX12_shows_134 rfl (lv_at hl 0 rfl) (hp_n (n := 135) rfl ?_)
        refine m_getr (κ := 40) (k := 0) (pc' := 138) C Bh9 Mh9 fl_X12_7 rfl (by decide) dX12_shows_135 rfl ?_
        refine lv_iconst (v := 4) hx hb dX12_shows_138 (by decide) (hp_n (n := 139) rfl ?_)
        refine lv_dup2_11 hx hb dX12_shows_139 rfl rfl (hp_n (n := 140) rfl ?_)
        obtain ⟨g10, hf⟩ := ms_gE hf
        refine m_ial (κ := 40) (φ := 650) (n := 1980) (pc' := 141) C Bh9 Mh9 (by decide) (by decide) rfl g10 dX12_shows_140 rfl ?_
        refine lv_iconst (v := 1) hx hb dX12_shows_141 (by decide) (hp_n (n := 142) rfl ?_)
        refine lv_iadd hx hb dX12_shows_142 (hp_n (n := 143) rfl ?_)
        obtain ⟨g11, hf⟩ := ms_gE hf
        refine m_ias (κ := 40) (φ := 650) (n := 1980) (pc' := 144) C Bh9 Mh9 (by decide) (by decide) rfl g11 dX12_shows_143 rfl (fun αh12 Hh12 Lh12 σh12 eh12 Bh12 Mh12 => ?_)
        replace hf := ms_lE eh12 hf
        refine lv_iload hx hb dX12_shows_144 (lv_at hl 2 rfl) (hp_n (n := 146) rfl ?_)
        cases hf
        exact q_iret C Bh12 hr hlk ⟨rfl, Bh12.2.2, Mh12⟩ dX12_shows_146
      refine lv_if_le (tgt := 117) hx hb dX12_shows_94 (by decide) (fun c13 => ?_) (fun c13 => hp_n (n := 97) rfl ?_)
      ·
        replace hf := ms_iT c13 hf
        exact J117 αh4 Hh4 Lh4 Bh4 σh4 Mh4 v1_h4 v6_h4 ls (lv_sub hl [0, 1, 2] rfl) hf
      ·
        replace hf := ms_iF c13 hf
        refine lv_iload hx hb dX12_shows_97 (lv_at hl 2 rfl) (hp_n (n := 99) rfl ?_)
        refine lv_iconst (v := 5) hx hb dX12_shows_99 (by decide) (hp_n (n := 100) rfl ?_)
        refine lv_icmp_ge (tgt := 117) hx hb dX12_shows_100 (by decide) (fun c14 => ?_) (fun c14 => hp_n (n := 103) rfl ?_)
        ·
          replace hf := ms_iT c14 hf
          exact J117 αh4 Hh4 Lh4 Bh4 σh4 Mh4 v1_h4 v6_h4 ls (lv_sub hl [0, 1, 2] rfl) hf
        ·
          replace hf := ms_iF c14 hf
          refine lv_aload_n hx hb dX12_shows_103 rfl (lv_at hl 0 rfl) (hp_n (n := 104) rfl ?_)
          refine m_getr (κ := 40) (k := 0) (pc' := 107) C Bh4 Mh4 fl_X12_7 rfl (by decide) dX12_shows_104 rfl ?_
          refine lv_bipush (v := 76) hx hb dX12_shows_107 (by decide) (hp_n (n := 109) rfl ?_)
          refine lv_iconst (v := 4) hx hb dX12_shows_109 (by decide) (hp_n (n := 110) rfl ?_)
          refine lv_iload_n hx hb dX12_shows_110 rfl (lv_at hl 1 rfl) (hp_n (n := 111) rfl ?_)
          refine lv_imul hx hb dX12_shows_111 (hp_n (n := 112) rfl ?_)
          refine lv_iadd hx hb dX12_shows_112 (hp_n (n := 113) rfl ?_)
          refine lv_iconst (v := 2) hx hb dX12_shows_113 (by decide) (hp_n (n := 114) rfl ?_)
          refine lv_iadd hx hb dX12_shows_114 (hp_n (n := 115) rfl ?_)
          refine lv_iconst (v := 1) hx hb dX12_shows_115 (by decide) (hp_n (n := 116) rfl ?_)
          obtain ⟨g15, hf⟩ := ms_gE hf
          refine m_ias (κ := 40) (φ := 650) (n := 1980) (pc' := 117) C Bh4 Mh4 (by decide) (by decide) rfl g15 dX12_shows_116 rfl (fun αh16 Hh16 Lh16 σh16 eh16 Bh16 Mh16 => ?_)
          replace hf := ms_lE eh16 hf
          exact J117 αh16 Hh16 Lh16 Bh16 σh16 Mh16 v1_h4 v6_h4 ls (lv_sub hl [0, 1, 2] rfl) hf
    refine lv_if_ne (tgt := 92) hx hb dX12_shows_75 (by decide) (fun c17 => ?_) (fun c17 => hp_n (n := 78) rfl ?_)
    ·
      replace hf := ms_iF c17 hf
      exact J92 αh3 Hh3 Lh3 Bh3 σh3 Mh3 v1_h3 w0_h3 ls (lv_sub hl [1, 2, 0] rfl) hf
    ·
      replace hf := ms_iT c17 hf
      refine lv_iload_n hx hb dX12_shows_78 rfl (lv_at hl 3 rfl) (hp_n (n := 79) rfl ?_)
      refine lv_iload hx hb dX12_shows_79 (lv_at hl 4 rfl) (hp_n (n := 81) rfl ?_)
      refine lv_icmp_le (tgt := 92) hx hb dX12_shows_81 (by decide) (fun c18 => ?_) (fun c18 => hp_n (n := 84) rfl ?_)
      ·
        replace hf := ms_iT c18 hf
        exact J92 αh3 Hh3 Lh3 Bh3 σh3 Mh3 v1_h3 w0_h3 ls (lv_sub hl [1, 2, 0] rfl) hf
      ·
        replace hf := ms_iF c18 hf
        refine lv_aload_n hx hb dX12_shows_84 rfl (lv_at hl 1 rfl) (hp_n (n := 85) rfl ?_)
        refine lv_iload_n hx hb dX12_shows_85 rfl (lv_at hl 2 rfl) (hp_n (n := 86) rfl ?_)
        refine lv_iload_n hx hb dX12_shows_86 rfl (lv_at hl 3 rfl) (hp_n (n := 87) rfl ?_)
        refine lv_iload hx hb dX12_shows_87 (lv_at hl 5 rfl) (hp_n (n := 89) rfl ?_)
        obtain ⟨σh19, qh19, hf⟩ := ms_bE hf
        refine m_cv (pc' := 92) (a := a0) (ρ := ρ) Bh3 (hp_runV (As := [.int v1_h3, .int v3_h3, .int v5_h3]) (rest := []) C Bh3 (m_X12_trusts n Γ l αh3 a0 ρ σh3 Mh3 v1_h3 v3_h3 v5_h3 σh19 qh19) lb_X12_trusts lv_X12_trusts lk_X12_227 Mh3.1 rfl (by decide) rfl hl.1 rfl (Nat.le_of_ble_eq_true rfl) dX12_shows_89 ⟨Nat.le_refl _, Nat.le_refl _⟩) rfl (fun αh19 Hh19 Lh19 Bh19 Mh19 => ?_)
        exact J92 αh19 Hh19 Lh19 Bh19 σh19 Mh19 v1_h3 w0_h3 ls (lv_sub hl [1, 2, 0] rfl) hf
  refine lv_icmp_le (tgt := 55) hx hb dX12_shows_19 (by decide) (fun c20 => ?_) (fun c20 => hp_n (n := 22) rfl ?_)
  ·
    replace hf := ms_iT c20 hf
    refine lv_aload_n hx hb dX12_shows_55 rfl (lv_at hl 2 rfl) (hp_n (n := 56) rfl ?_)
    refine lv_iload_n hx hb dX12_shows_56 rfl (lv_at hl 4 rfl) (hp_n (n := 57) rfl ?_)
    refine lv_iload hx hb dX12_shows_57 (lv_at hl 1 rfl) (hp_n (n := 59) rfl ?_)
    refine lv_aload_n hx hb dX12_shows_59 rfl (lv_at hl 2 rfl) (hp_n (n := 60) rfl ?_)
    refine lv_iload_n hx hb dX12_shows_60 rfl (lv_at hl 3 rfl) (hp_n (n := 61) rfl ?_)
    refine lv_iconst (v := 1) hx hb dX12_shows_61 (by decide) (hp_n (n := 62) rfl ?_)
    obtain ⟨rh21, qh21, hf⟩ := ms_bE hf
    refine m_cp (pc' := 65) Bh2 (hp_runV (As := [.int a1, .int (1 : Int32)]) (rest := [.int rh1, .int a2, .ref a0]) C Bh2 (m_X12_trust n Γ l α a0 ρ σ hM a1 (1 : Int32) rh21 qh21) lb_X12_trust lv_X12_trust lk_X12_221 hM.1 rfl (by decide) rfl hl.1 rfl (Nat.le_of_ble_eq_true rfl) dX12_shows_62 ⟨Nat.le_refl _, Nat.le_refl _⟩) rfl (fun Hh21 Lh21 Bh21 => ?_)
    refine lv_iload_n hx hb dX12_shows_65 rfl (lv_at hl 5 rfl) (hp_n (n := 66) rfl ?_)
    refine lv_iload hx hb dX12_shows_66 (lv_at hl 0 rfl) (hp_n (n := 68) rfl ?_)
    obtain ⟨rh22, σh22, qh22, hf⟩ := ms_cE hf
    refine m_ci (pc' := 71) (a := a0) (ρ := ρ) Bh21 (hp_runV (As := [.int a2, .int rh1, .int rh21, .int a3, .int rh2]) (rest := []) C Bh21 (m_X12_whyByRecord n Γ l α a0 ρ σ hM a2 rh1 rh21 a3 rh2 (rh22, σh22) qh22) lb_X12_whyByRecord lv_X12_whyByRecord lk_X12_224 hM.1 rfl (by decide) rfl hl.1 rfl (Nat.le_of_ble_eq_true rfl) dX12_shows_68 ⟨Nat.le_refl _, Nat.le_refl _⟩) rfl (fun αh22 Hh22 Lh22 Bh22 Mh22 => ?_)
    exact J71 αh22 Hh22 Lh22 Bh22 σh22 Mh22 a1 a3 rh1 rh2 rh22 ls (lv_sub hl [2, 3, 5, 1, 0] rfl) hf
  ·
    replace hf := ms_iF c20 hf
    refine lv_aload_n hx hb dX12_shows_22 rfl (lv_at hl 2 rfl) (hp_n (n := 23) rfl ?_)
    refine lv_iload_n hx hb dX12_shows_23 rfl (lv_at hl 4 rfl) (hp_n (n := 24) rfl ?_)
    obtain ⟨rh23, qh23, hf⟩ := ms_bE hf
    refine m_cp (pc' := 27) Bh2 (hp_runV (As := [.int a2]) (rest := []) C Bh2 (m_X12_sizeOf n Γ l α a0 ρ σ hM a2 rh23 qh23) lb_X12_sizeOf lv_X12_sizeOf lk_X12_209 hM.1 rfl (by decide) rfl hl.1 rfl (Nat.le_of_ble_eq_true rfl) dX12_shows_24 ⟨Nat.le_refl _, Nat.le_refl _⟩) rfl (fun Hh23 Lh23 Bh23 => ?_)
    refine lv_iload hx hb dX12_shows_27 (lv_at hl 1 rfl) (hp_n (n := 29) rfl ?_)
    refine lv_icmp_ge (tgt := 36) hx hb dX12_shows_29 (by decide) (fun c24 => ?_) (fun c24 => hp_n (n := 32) rfl ?_)
    ·
      replace hf := ms_iT c24 hf
      refine lv_aload_n hx hb dX12_shows_36 rfl (lv_at hl 2 rfl) (hp_n (n := 37) rfl ?_)
      refine lv_iload_n hx hb dX12_shows_37 rfl (lv_at hl 4 rfl) (hp_n (n := 38) rfl ?_)
      refine lv_iload_n hx hb dX12_shows_38 rfl (lv_at hl 5 rfl) (hp_n (n := 39) rfl ?_)
      refine lv_iload hx hb dX12_shows_39 (lv_at hl 0 rfl) (hp_n (n := 41) rfl ?_)
      refine lv_iload hx hb dX12_shows_41 (lv_at hl 1 rfl) (hp_n (n := 43) rfl ?_)
      refine lv_aload_n hx hb dX12_shows_43 rfl (lv_at hl 2 rfl) (hp_n (n := 44) rfl ?_)
      refine lv_iload_n hx hb dX12_shows_44 rfl (lv_at hl 3 rfl) (hp_n (n := 45) rfl ?_)
      refine lv_iconst (v := 1) hx hb dX12_shows_45 (by decide) (hp_n (n := 46) rfl ?_)
      obtain ⟨rh25, qh25, hf⟩ := ms_bE hf
      refine m_cp (pc' := 49) Bh23 (hp_runV (As := [.int a1, .int (1 : Int32)]) (rest := [.int rh1, .int rh2, .int a3, .int a2, .ref a0]) C Bh23 (m_X12_trust n Γ l α a0 ρ σ hM a1 (1 : Int32) rh25 qh25) lb_X12_trust lv_X12_trust lk_X12_221 hM.1 rfl (by decide) rfl hl.1 rfl (Nat.le_of_ble_eq_true rfl) dX12_shows_46 ⟨Nat.le_refl _, Nat.le_refl _⟩) rfl (fun Hh25 Lh25 Bh25 => ?_)
      obtain ⟨rh26, σh26, qh26, hf⟩ := ms_cE hf
      refine m_ci (pc' := 52) (a := a0) (ρ := ρ) Bh25 (hp_runV (As := [.int a2, .int a3, .int rh2, .int rh1, .int rh25]) (rest := []) C Bh25 (m_X12_whyByRecord n Γ l α a0 ρ σ hM a2 a3 rh2 rh1 rh25 (rh26, σh26) qh26) lb_X12_whyByRecord lv_X12_whyByRecord lk_X12_224 hM.1 rfl (by decide) rfl hl.1 rfl (Nat.le_of_ble_eq_true rfl) dX12_shows_49 ⟨Nat.le_refl _, Nat.le_refl _⟩) rfl (fun αh26 Hh26 Lh26 Bh26 Mh26 => ?_)
      refine lv_goto (tgt := 71) hx hb dX12_shows_52 (by decide) ?_
      exact J71 αh26 Hh26 Lh26 Bh26 σh26 Mh26 a1 a3 rh1 rh2 rh26 ls (lv_sub hl [2, 3, 5, 1, 0] rfl) hf
    ·
      replace hf := ms_iF c24 hf
      refine lv_iconst (v := 5) hx hb dX12_shows_32 (by decide) (hp_n (n := 33) rfl ?_)
      refine lv_goto (tgt := 71) hx hb dX12_shows_33 (by decide) ?_
      exact J71 α Hh23 Lh23 Bh23 σ hM a1 a3 rh1 rh2 (5 : Int32) ls (lv_sub hl [2, 3, 5, 1, 0] rfl) hf
def f_X12_puts_L3 (n : Nat) : Nat → ms_T → Int32 → Int32 → Option ms_T
  | 0, _, _, _ => none
  | k3 + 1, σh1, v1_h1, v2_h1 =>
    if v2_h1 < 0 then
      some σh1
    else
      ms_g (ms_I σh1 667) 900 <|
      ms_l (ms_sE σh1 47 ((ms_I σh1 667)).toNatClampNeg (((v1_h1 >>> (v2_h1 &&& 31))).toInt8.toInt32).toInt8.toInt32) fun σh4 =>
      ms_l (ms_sI σh4 667 ((ms_I σh4 667) + (1 : Int32))) fun σh5 =>
      ms_l (v2_h1 + (-8)) fun x6 =>
      (f_X12_puts_L3 n k3) σh5 v1_h1 x6
def f_X12_puts (n : Nat) (σ : ms_T) (a1 : Int32) : Option ms_T :=
  f_X12_puts_L3 n n σ a1 (24 : Int32)
set_option maxRecDepth 100000 in
set_option maxHeartbeats 4000000 in
theorem m_X12_puts (n : Nat) (Γ : hp_G) (l : Launch) (α : hp_T) (a0 : Nat) (ρ : Nat → Nat) (σ : ms_T) (hM : hm_M α a0 ρ σ) (a1 : Int32) (res : ms_T) (hf : f_X12_puts n σ a1 = some res) : Met l yX12_puts (hp_ws yX12_puts cX12_puts 3 none) (hp_rm 0 0 0) (hp_Pc Γ α [.ref a0, .int a1]) (hp_Qv Γ (fun β => mo α β ∧ hm_M β a0 ρ res)) 0 0 (hp_A Γ) := by
  unfold f_X12_puts at hf
  refine hp_start (by decide) ?_
  intro p e s m below meth c C hr hlk B0 hnm
  have C : hp_C Γ p m c cX12_puts 3 s ([.ref a0, .int a1] : List Value).toArray RX12 := C
  have hx := C.1.1
  have hb := C.1.2.1
  have hown := C.1.2.2.2.1
  have hts := C.1.2.2.2.2
  have B : hp_B Γ mo s α α s.heap [] := ⟨B0.1, B0.2.1, mo_rf⟩
  have hl := lv_entry ([.ref a0, .int a1]) (n := 3) (Nat.le_of_ble_eq_true rfl)
  show W p l e (hp_rm 0 0 0) s m ([.ref a0, .int a1] : List Value).toArray below meth c s.heap [] 0 0 (MQ below (hp_Qv Γ (fun β => mo α β ∧ hm_M β a0 ρ res)) ([.ref a0, .int a1] : List Value).toArray s 0 0 (hp_A Γ)) (entryFrame m ([.ref a0, .int a1] : List Value).toArray 3)
  rw [lg_entry_eq]
  generalize (lg_sl ([.ref a0, .int a1]) ++ List.replicate (3 - (lg_sl ([.ref a0, .int a1])).length) Slot.unset).toArray = ls at hl ⊢
  have hl : lv_has ls 3 [(0, .ref a0), (1, .int a1)] := hl
  refine lv_bipush (v := 24) hx hb dX12_puts_0 (by decide) (hp_n (n := 2) rfl ?_)
  have J3 : ∀ (k3 : Nat) (αh1 : hp_T) (Hh1 : Heap) (Lh1 : List Loc) (Bh1 : hp_B Γ mo s α αh1 Hh1 Lh1) (σh1 : ms_T) (Mh1 : hm_M αh1 a0 ρ σh1) (v1_h1 : Int32) (v2_h1 : Int32) (ls : Array Slot) (hl : lv_has ls 3 [(0, .ref a0), (1, .int v1_h1), (2, .int v2_h1)]) (hf : f_X12_puts_L3 n k3 σh1 v1_h1 v2_h1 = some res), W p l e (hp_rm 0 0 0) s m ([.ref a0, .int a1] : List Value).toArray below meth c Hh1 Lh1 0 0 (MQ below (hp_Qv Γ (fun β => mo α β ∧ hm_M β a0 ρ res)) ([.ref a0, .int a1] : List Value).toArray s 0 0 (hp_A Γ)) (F0 m 3 ls []) := by
    intro k3
    induction k3 with
    | zero => intro αh1 Hh1 Lh1 Bh1 σh1 Mh1 v1_h1 v2_h1 ls hl hf; rw [f_X12_puts_L3.eq_1] at hf; cases hf
    | succ k3 ih3 =>
      intro αh1 Hh1 Lh1 Bh1 σh1 Mh1 v1_h1 v2_h1 ls hl hf
      rw [f_X12_puts_L3.eq_2] at hf
      refine lv_iload_n hx hb dX12_puts_3 rfl (lv_at hl 2 rfl) (hp_n (n := 4) rfl ?_)
      refine lv_if_lt (tgt := 36) hx hb dX12_puts_4 (by decide) (fun c2 => ?_) (fun c2 => hp_n (n := 7) rfl ?_)
      ·
        replace hf := ms_iT c2 hf
        cases hf
        exact q_vret C Bh1 hr hlk ⟨Bh1.2.2, Mh1⟩ dX12_puts_36
      ·
        replace hf := ms_iF c2 hf
        refine lv_aload_n hx hb dX12_puts_7 rfl (lv_at hl 0 rfl) (hp_n (n := 8) rfl ?_)
        refine m_getr (κ := 47) (k := 16) (pc' := 11) C Bh1 Mh1 fl_X12_31 rfl (by decide) dX12_puts_8 rfl ?_
        refine lv_aload_n hx hb dX12_puts_11 rfl (lv_at hl 0 rfl) (hp_n (n := 12) rfl ?_)
        refine m_geti (k := 17) (φ := 667) (pc' := 15) C Bh1 Mh1 fl_X12_230 rfl rfl dX12_puts_12 rfl ?_
        refine lv_iload_n hx hb dX12_puts_15 rfl (lv_at hl 1 rfl) (hp_n (n := 16) rfl ?_)
        refine lv_iload_n hx hb dX12_puts_16 rfl (lv_at hl 2 rfl) (hp_n (n := 17) rfl ?_)
        refine lv_ishr hx hb dX12_puts_17 (hp_n (n := 18) rfl ?_)
        refine lv_i2b hx hb dX12_puts_18 rfl (hp_n (n := 19) rfl ?_)
        obtain ⟨g3, hf⟩ := ms_gE hf
        refine m_bas (κ := 47) (φ := 666) (n := 900) (pc' := 20) C Bh1 Mh1 (by decide) (by decide) rfl g3 dX12_puts_19 rfl (fun αh4 Hh4 Lh4 σh4 eh4 Bh4 Mh4 => ?_)
        replace hf := ms_lE eh4 hf
        refine lv_aload_n hx hb dX12_puts_20 rfl (lv_at hl 0 rfl) (hp_n (n := 21) rfl ?_)
        refine lv_dup hx hb dX12_puts_21 rfl (hp_n (n := 22) rfl ?_)
        refine m_geti (k := 17) (φ := 667) (pc' := 25) C Bh4 Mh4 fl_X12_230 rfl rfl dX12_puts_22 rfl ?_
        refine lv_iconst (v := 1) hx hb dX12_puts_25 (by decide) (hp_n (n := 26) rfl ?_)
        refine lv_iadd hx hb dX12_puts_26 (hp_n (n := 27) rfl ?_)
        refine m_puti (k := 17) (φ := 667) (pc' := 30) C Bh4 Mh4 fl_X12_230 rfl rfl rfl rfl rfl dX12_puts_27 rfl (fun αh5 Hh5 Lh5 σh5 eh5 Bh5 Mh5 => ?_)
        replace hf := ms_lE eh5 hf
        obtain ⟨x6, ex6⟩ : ∃ y : Int32, y = v2_h1 + (-8) := ⟨_, rfl⟩
        replace hf := ms_lE ex6 hf
        refine lv_iinc (v := x6) (lv' := [(2, .int x6), (0, .ref a0), (1, .int v1_h1)]) hx hb dX12_puts_30 hl (k := 2) rfl (by rw [ex6]; rfl) (by decide) rfl (fun ls hl => hp_n (n := 33) rfl ?_)
        refine lv_goto (tgt := 3) hx hb dX12_puts_33 (by decide) ?_
        exact ih3 αh5 Hh5 Lh5 Bh5 σh5 Mh5 v1_h1 x6 ls (lv_sub hl [1, 2, 0] rfl) hf
  refine lv_istore_n (lv' := [(2, .int (24 : Int32)), (0, .ref a0), (1, .int a1)]) hx hb dX12_puts_2 rfl hl (by decide) rfl (fun ls hl => hp_n (n := 3) rfl ?_)
  exact J3 n α s.heap [] B σ hM a1 (24 : Int32) ls (lv_sub hl [1, 2, 0] rfl) hf
def f_X12_feed (n : Nat) (σ : ms_T) (a1 : Int32) (a2 : Int32) (a3 : Int32) (a4 : Int32) (a5 : Int32) : Option (Int32 × ms_T) :=
  ms_l (ms_sI σ 653 (0 : Int32)) fun σh1 =>
  if ((ms_I σh1 667) + (20 : Int32)) ≤ (900 : Int32) then
    ms_b (f_X12_puts n σh1 a1) fun σh3 =>
    ms_b (f_X12_puts n σh3 a2) fun σh4 =>
    ms_b (f_X12_puts n σh4 a3) fun σh5 =>
    ms_b (f_X12_puts n σh5 a4) fun σh6 =>
    ms_b (f_X12_puts n σh6 a5) fun σh7 =>
    some ((ms_I σh7 667), σh7)
  else
    some ((-1 : Int32), σh1)
set_option maxRecDepth 100000 in
set_option maxHeartbeats 4000000 in
theorem m_X12_feed (n : Nat) (Γ : hp_G) (l : Launch) (α : hp_T) (a0 : Nat) (ρ : Nat → Nat) (σ : ms_T) (hM : hm_M α a0 ρ σ) (a1 : Int32) (a2 : Int32) (a3 : Int32) (a4 : Int32) (a5 : Int32) (res : (Int32 × ms_T)) (hf : f_X12_feed n σ a1 a2 a3 a4 a5 = some res) : Met l yX12_feed (hp_ws yX12_feed cX12_feed 6 (some .int)) (hp_rm 1 0 0) (hp_Pc Γ α [.ref a0, .int a1, .int a2, .int a3, .int a4, .int a5]) (hp_Qi Γ (fun r β => r = res.1 ∧ mo α β ∧ hm_M β a0 ρ res.2)) 0 0 (hp_A Γ) := by
  unfold f_X12_feed at hf
  refine hp_start (by decide) ?_
  intro p e s m below meth c C hr hlk B0 hnm
  have C : hp_C Γ p m c cX12_feed 6 s ([.ref a0, .int a1, .int a2, .int a3, .int a4, .int a5] : List Value).toArray RX12 := C
  have hx := C.1.1
  have hb := C.1.2.1
  have hown := C.1.2.2.2.1
  have hts := C.1.2.2.2.2
  have B : hp_B Γ mo s α α s.heap [] := ⟨B0.1, B0.2.1, mo_rf⟩
  have hl := lv_entry ([.ref a0, .int a1, .int a2, .int a3, .int a4, .int a5]) (n := 6) (Nat.le_of_ble_eq_true rfl)
  show W p l e (hp_rm 1 0 0) s m ([.ref a0, .int a1, .int a2, .int a3, .int a4, .int a5] : List Value).toArray below meth c s.heap [] 0 0 (MQ below (hp_Qi Γ (fun r β => r = res.1 ∧ mo α β ∧ hm_M β a0 ρ res.2)) ([.ref a0, .int a1, .int a2, .int a3, .int a4, .int a5] : List Value).toArray s 0 0 (hp_A Γ)) (entryFrame m ([.ref a0, .int a1, .int a2, .int a3, .int a4, .int a5] : List Value).toArray 6)
  rw [lg_entry_eq]
  generalize (lg_sl ([.ref a0, .int a1, .int a2, .int a3, .int a4, .int a5]) ++ List.replicate (6 - (lg_sl ([.ref a0, .int a1, .int a2, .int a3, .int a4, .int a5])).length) Slot.unset).toArray = ls at hl ⊢
  have hl : lv_has ls 6 [(0, .ref a0), (1, .int a1), (2, .int a2), (3, .int a3), (4, .int a4), (5, .int a5)] := hl
  refine lv_aload_n hx hb dX12_feed_0 rfl (lv_at hl 0 rfl) (hp_n (n := 1) rfl ?_)
  refine lv_iconst (v := 0) hx hb dX12_feed_1 (by decide) (hp_n (n := 2) rfl ?_)
  refine m_puti (k := 3) (φ := 653) (pc' := 5) C B hM fl_X12_106 rfl rfl rfl rfl rfl dX12_feed_2 rfl (fun αh1 Hh1 Lh1 σh1 eh1 Bh1 Mh1 => ?_)
  replace hf := ms_lE eh1 hf
  refine lv_aload_n hx hb dX12_feed_5 rfl (lv_at hl 0 rfl) (hp_n (n := 6) rfl ?_)
  refine m_geti (k := 17) (φ := 667) (pc' := 9) C Bh1 Mh1 fl_X12_230 rfl rfl dX12_feed_6 rfl ?_
  refine lv_bipush (v := 20) hx hb dX12_feed_9 (by decide) (hp_n (n := 11) rfl ?_)
  refine lv_iadd hx hb dX12_feed_11 (hp_n (n := 12) rfl ?_)
  refine lv_sipush (v := 900) hx hb dX12_feed_12 (by decide) (hp_n (n := 15) rfl ?_)
  refine lv_icmp_le (tgt := 20) hx hb dX12_feed_15 (by decide) (fun c2 => ?_) (fun c2 => hp_n (n := 18) rfl ?_)
  ·
    replace hf := ms_iT c2 hf
    refine lv_aload_n hx hb dX12_feed_20 rfl (lv_at hl 0 rfl) (hp_n (n := 21) rfl ?_)
    refine lv_iload_n hx hb dX12_feed_21 rfl (lv_at hl 1 rfl) (hp_n (n := 22) rfl ?_)
    obtain ⟨σh3, qh3, hf⟩ := ms_bE hf
    refine m_cv (pc' := 25) (a := a0) (ρ := ρ) Bh1 (hp_runV (As := [.int a1]) (rest := []) C Bh1 (m_X12_puts n Γ l αh1 a0 ρ σh1 Mh1 a1 σh3 qh3) lb_X12_puts lv_X12_puts lk_X12_233 Mh1.1 rfl (by decide) rfl hl.1 rfl (Nat.le_of_ble_eq_true rfl) dX12_feed_22 ⟨Nat.le_refl _, Nat.le_refl _⟩) rfl (fun αh3 Hh3 Lh3 Bh3 Mh3 => ?_)
    refine lv_aload_n hx hb dX12_feed_25 rfl (lv_at hl 0 rfl) (hp_n (n := 26) rfl ?_)
    refine lv_iload_n hx hb dX12_feed_26 rfl (lv_at hl 2 rfl) (hp_n (n := 27) rfl ?_)
    obtain ⟨σh4, qh4, hf⟩ := ms_bE hf
    refine m_cv (pc' := 30) (a := a0) (ρ := ρ) Bh3 (hp_runV (As := [.int a2]) (rest := []) C Bh3 (m_X12_puts n Γ l αh3 a0 ρ σh3 Mh3 a2 σh4 qh4) lb_X12_puts lv_X12_puts lk_X12_233 Mh3.1 rfl (by decide) rfl hl.1 rfl (Nat.le_of_ble_eq_true rfl) dX12_feed_27 ⟨Nat.le_refl _, Nat.le_refl _⟩) rfl (fun αh4 Hh4 Lh4 Bh4 Mh4 => ?_)
    refine lv_aload_n hx hb dX12_feed_30 rfl (lv_at hl 0 rfl) (hp_n (n := 31) rfl ?_)
    refine lv_iload_n hx hb dX12_feed_31 rfl (lv_at hl 3 rfl) (hp_n (n := 32) rfl ?_)
    obtain ⟨σh5, qh5, hf⟩ := ms_bE hf
    refine m_cv (pc' := 35) (a := a0) (ρ := ρ) Bh4 (hp_runV (As := [.int a3]) (rest := []) C Bh4 (m_X12_puts n Γ l αh4 a0 ρ σh4 Mh4 a3 σh5 qh5) lb_X12_puts lv_X12_puts lk_X12_233 Mh4.1 rfl (by decide) rfl hl.1 rfl (Nat.le_of_ble_eq_true rfl) dX12_feed_32 ⟨Nat.le_refl _, Nat.le_refl _⟩) rfl (fun αh5 Hh5 Lh5 Bh5 Mh5 => ?_)
    refine lv_aload_n hx hb dX12_feed_35 rfl (lv_at hl 0 rfl) (hp_n (n := 36) rfl ?_)
    refine lv_iload hx hb dX12_feed_36 (lv_at hl 4 rfl) (hp_n (n := 38) rfl ?_)
    obtain ⟨σh6, qh6, hf⟩ := ms_bE hf
    refine m_cv (pc' := 41) (a := a0) (ρ := ρ) Bh5 (hp_runV (As := [.int a4]) (rest := []) C Bh5 (m_X12_puts n Γ l αh5 a0 ρ σh5 Mh5 a4 σh6 qh6) lb_X12_puts lv_X12_puts lk_X12_233 Mh5.1 rfl (by decide) rfl hl.1 rfl (Nat.le_of_ble_eq_true rfl) dX12_feed_38 ⟨Nat.le_refl _, Nat.le_refl _⟩) rfl (fun αh6 Hh6 Lh6 Bh6 Mh6 => ?_)
    refine lv_aload_n hx hb dX12_feed_41 rfl (lv_at hl 0 rfl) (hp_n (n := 42) rfl ?_)
    refine lv_iload hx hb dX12_feed_42 (lv_at hl 5 rfl) (hp_n (n := 44) rfl ?_)
    obtain ⟨σh7, qh7, hf⟩ := ms_bE hf
    refine m_cv (pc' := 47) (a := a0) (ρ := ρ) Bh6 (hp_runV (As := [.int a5]) (rest := []) C Bh6 (m_X12_puts n Γ l αh6 a0 ρ σh6 Mh6 a5 σh7 qh7) lb_X12_puts lv_X12_puts lk_X12_233 Mh6.1 rfl (by decide) rfl hl.1 rfl (Nat.le_of_ble_eq_true rfl) dX12_feed_44 ⟨Nat.le_refl _, Nat.le_refl _⟩) rfl (fun αh7 Hh7 Lh7 Bh7 Mh7 => ?_)
    refine lv_aload_n hx hb dX12_feed_47 rfl (lv_at hl 0 rfl) (hp_n (n := 48) rfl ?_)
    refine m_geti (k := 17) (φ := 667) (pc' := 51) C Bh7 Mh7 fl_X12_230 rfl rfl dX12_feed_48 rfl ?_
    cases hf
    exact q_iret C Bh7 hr hlk ⟨rfl, Bh7.2.2, Mh7⟩ dX12_feed_51
  ·
    replace hf := ms_iF c2 hf
    refine lv_iconst (v := (-1)) hx hb dX12_feed_18 (by decide) (hp_n (n := 19) rfl ?_)
    cases hf
    exact q_iret C Bh1 hr hlk ⟨rfl, Bh1.2.2, Mh1⟩ dX12_feed_19
def f_X12_isOf (n : Nat) (σ : ms_T) (a1 : Int32) (a2 : Int32) (a3 : Int32) : Option Int32 :=
  if (ms_I σ 676) ≤ a1 then
    some (0 : Int32)
  else
    ms_g a1 900 <|
    ms_b (f_X12_isIn n (ms_E σ 47 (a1).toNatClampNeg) a2 a3) fun rh3 =>
    if rh3 = 0 then
      some (0 : Int32)
    else
      some (1 : Int32)
set_option maxRecDepth 100000 in
set_option maxHeartbeats 4000000 in
theorem m_X12_isOf (n : Nat) (Γ : hp_G) (l : Launch) (α : hp_T) (a0 : Nat) (ρ : Nat → Nat) (σ : ms_T) (hM : hm_M α a0 ρ σ) (a1 : Int32) (a2 : Int32) (a3 : Int32) (res : Int32) (hf : f_X12_isOf n σ a1 a2 a3 = some res) : Met l yX12_isOf (hp_ws yX12_isOf cX12_isOf 4 (some .boolean)) (hp_rm 1 0 0) (hp_Pc Γ α [.ref a0, .int a1, .int a2, .int a3]) (hp_Qi Γ (fun r β => β = α ∧ r = res)) 0 0 (hp_A Γ) := by
  unfold f_X12_isOf at hf
  refine hp_start (by decide) ?_
  intro p e s m below meth c C hr hlk B0 hnm
  have C : hp_C Γ p m c cX12_isOf 4 s ([.ref a0, .int a1, .int a2, .int a3] : List Value).toArray RX12 := C
  have hx := C.1.1
  have hb := C.1.2.1
  have hown := C.1.2.2.2.1
  have hts := C.1.2.2.2.2
  have B : hp_B Γ (fun _ _ => True) s α α s.heap [] := ⟨B0.1, B0.2.1, trivial⟩
  have hl := lv_entry ([.ref a0, .int a1, .int a2, .int a3]) (n := 4) (Nat.le_of_ble_eq_true rfl)
  show W p l e (hp_rm 1 0 0) s m ([.ref a0, .int a1, .int a2, .int a3] : List Value).toArray below meth c s.heap [] 0 0 (MQ below (hp_Qi Γ (fun r β => β = α ∧ r = res)) ([.ref a0, .int a1, .int a2, .int a3] : List Value).toArray s 0 0 (hp_A Γ)) (entryFrame m ([.ref a0, .int a1, .int a2, .int a3] : List Value).toArray 4)
  rw [lg_entry_eq]
  generalize (lg_sl ([.ref a0, .int a1, .int a2, .int a3]) ++ List.replicate (4 - (lg_sl ([.ref a0, .int a1, .int a2, .int a3])).length) Slot.unset).toArray = ls at hl ⊢
  have hl : lv_has ls 4 [(0, .ref a0), (1, .int a1), (2, .int a2), (3, .int a3)] := hl
  refine lv_iload_n hx hb dX12_isOf_0 rfl (lv_at hl 1 rfl) (hp_n (n := 1) rfl ?_)
  refine lv_aload_n hx hb dX12_isOf_1 rfl (lv_at hl 0 rfl) (hp_n (n := 2) rfl ?_)
  refine m_geti (k := 26) (φ := 676) (pc' := 5) C B hM fl_X12_236 rfl rfl dX12_isOf_2 rfl ?_
  refine lv_icmp_ge (tgt := 26) hx hb dX12_isOf_5 (by decide) (fun c1 => ?_) (fun c1 => hp_n (n := 8) rfl ?_)
  ·
    replace hf := ms_iT c1 hf
    refine lv_iconst (v := 0) hx hb dX12_isOf_26 (by decide) (hp_n (n := 27) rfl ?_)
    cases hf
    exact q_zret C B hr hlk (by decide) ⟨rfl, rfl⟩ dX12_isOf_27
  ·
    replace hf := ms_iF c1 hf
    refine lv_aload_n hx hb dX12_isOf_8 rfl (lv_at hl 0 rfl) (hp_n (n := 9) rfl ?_)
    refine m_getr (κ := 47) (k := 16) (pc' := 12) C B hM fl_X12_31 rfl (by decide) dX12_isOf_9 rfl ?_
    refine lv_iload_n hx hb dX12_isOf_12 rfl (lv_at hl 1 rfl) (hp_n (n := 13) rfl ?_)
    obtain ⟨g2, hf⟩ := ms_gE hf
    refine m_bal (κ := 47) (φ := 666) (n := 900) (pc' := 14) C B hM (by decide) (by decide) rfl g2 dX12_isOf_13 rfl ?_
    refine lv_iload_n hx hb dX12_isOf_14 rfl (lv_at hl 2 rfl) (hp_n (n := 15) rfl ?_)
    refine lv_iload_n hx hb dX12_isOf_15 rfl (lv_at hl 3 rfl) (hp_n (n := 16) rfl ?_)
    obtain ⟨rh3, qh3, hf⟩ := ms_bE hf
    refine m_cp (pc' := 19) B (hp_runS (As := [.int (ms_E σ 47 (a1).toNatClampNeg), .int a2, .int a3]) (rest := []) C B (m_X12_isIn n Γ l α (ms_E σ 47 (a1).toNatClampNeg) a2 a3 rh3 qh3) lb_X12_isIn ls_X12_isIn lk_X12_113 rfl (by decide) rfl hl.1 rfl (Nat.le_of_ble_eq_true rfl) dX12_isOf_16 ⟨Nat.le_refl _, Nat.le_refl _⟩) rfl (fun Hh3 Lh3 Bh3 => ?_)
    refine lv_if_eq (tgt := 26) hx hb dX12_isOf_19 (by decide) (fun c4 => ?_) (fun c4 => hp_n (n := 22) rfl ?_)
    ·
      replace hf := ms_iT c4 hf
      refine lv_iconst (v := 0) hx hb dX12_isOf_26 (by decide) (hp_n (n := 27) rfl ?_)
      cases hf
      exact q_zret C Bh3 hr hlk (by decide) ⟨rfl, rfl⟩ dX12_isOf_27
    ·
      replace hf := ms_iF c4 hf
      refine lv_iconst (v := 1) hx hb dX12_isOf_22 (by decide) (hp_n (n := 23) rfl ?_)
      refine lv_goto (tgt := 27) hx hb dX12_isOf_23 (by decide) ?_
      cases hf
      exact q_zret C Bh3 hr hlk (by decide) ⟨rfl, rfl⟩ dX12_isOf_27
end JN4_3
