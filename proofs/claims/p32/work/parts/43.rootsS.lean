abbrev w_X11_preparedRoots_S : cw_W := ([252], [], [34, 35], [])
set_option maxRecDepth 100000 in
set_option maxHeartbeats 4000000 in
theorem t_X11_preparedRoots_S (Γ : hp_G) (l : Launch) (α : hp_T) (g : GC α) (a0 : Nat) (k0 : hp_K α a0 = 12) (b0 : Nat) (hN : hp_N α 618 a0 = some b0) : Met l yX11_preparedRoots (hp_ws yX11_preparedRoots cX11_preparedRoots 1 (some (.object "ProvenRecord$Roots"))) (hp_rm 3 0 0) (hp_Pc Γ α [.ref a0]) (hp_Qq Γ (fun r β => cw w_X11_preparedRoots_S α β ∧ r = some b0)) 0 0 (hp_A Γ) := by
  refine hp_start (by decide) ?_
  intro p e s m below meth c C hr hlk B0 hnm
  have C : hp_C Γ p m c cX11_preparedRoots 1 s ([.ref a0] : List Value).toArray RX11 := C
  have hx := C.1.1
  have hb := C.1.2.1
  have hown := C.1.2.2.2.1
  have hts := C.1.2.2.2.2
  have B : hp_B Γ (cw w_X11_preparedRoots_S) s α α s.heap [] := ⟨B0.1, B0.2.1, cw_rf g⟩
  have kb0 : hp_K α b0 = 5 := g.2.2.1 a0 b0 k0 hN
  have hl := lv_entry ([.ref a0]) (n := 1) (Nat.le_of_ble_eq_true rfl)
  show W p l e (hp_rm 3 0 0) s m ([.ref a0] : List Value).toArray below meth c s.heap [] 0 0 (MQ below (hp_Qq Γ (fun r β => cw w_X11_preparedRoots_S α β ∧ r = some b0)) ([.ref a0] : List Value).toArray s 0 0 (hp_A Γ)) (entryFrame m ([.ref a0] : List Value).toArray 1)
  rw [lg_entry_eq]
  generalize (lg_sl ([.ref a0]) ++ List.replicate (1 - (lg_sl ([.ref a0])).length) Slot.unset).toArray = ls at hl ⊢
  have hl : lv_has ls 1 [(0, .ref a0)] := hl
  refine lv_aload_n hx hb dX11_preparedRoots_0 rfl (lv_at hl 0 rfl) (hp_n (n := 1) rfl ?_)
  refine q_get (v := va_rf (some b0)) (κ := 12) (k := 18) (pc' := 4) C B (cw_k B.2.2 k0) fl_X11_90 rfl rfl (by show va_rf (hp_N α 618 a0) = _; rw [B.2.2.2.2.1, hN]) dX11_preparedRoots_1 rfl ?_
  refine lv_ifnonnull (tgt := 18) hx hb dX11_preparedRoots_4 (by decide) ?_
  refine lv_aload_n hx hb dX11_preparedRoots_18 rfl (lv_at hl 0 rfl) (hp_n (n := 19) rfl ?_)
  refine q_get (v := va_rf (some b0)) (κ := 12) (k := 18) (pc' := 22) C B (cw_k B.2.2 k0) fl_X11_90 rfl rfl (by show va_rf (hp_N α 618 a0) = _; rw [B.2.2.2.2.1, hN]) dX11_preparedRoots_19 rfl ?_
  refine lv_aload_n hx hb dX11_preparedRoots_22 rfl (lv_at hl 0 rfl) (hp_n (n := 23) rfl ?_)
  refine q_getr (κ := 12) (k := 1) (φ := 601) (pc' := 26) C B (cw_k B.2.2 k0) fl_X11_16 rfl rfl rfl (cw_r B.2.2 k0 rfl rfl (by decide) (by decide)) dX11_preparedRoots_23 rfl (fun b_3 eb_3 kb_3 => ?_)
  refine q_geti (κ := 11) (k := 0) (φ := 550) (pc' := 29) C B (cw_k B.2.2 kb_3) fl_X11_122 rfl rfl rfl dX11_preparedRoots_26 rfl (fun x_4 ex_4 => ?_)
  refine q_cv (pc' := 32) B (hp_runV (As := [.int x_4]) (rest := []) C B (t_X4_prepare Γ l α B.2.2.1 b0 (cw_k B.2.2 kb0) x_4) lb_X4_prepare lv_X4_prepare lk_X11_475 (cw_k B.2.2 kb0) rfl (by decide) rfl hl.1 rfl (Nat.le_of_ble_eq_true rfl) dX11_preparedRoots_29 ⟨Nat.le_refl _, Nat.le_refl _⟩) (fun _ h => cw_tr B.2.2 h (by decide)) rfl (fun αh_5 Hh_5 Lh_5 ph_5 Bh_5 => ?_)
  refine lv_aload_n hx hb dX11_preparedRoots_32 rfl (lv_at hl 0 rfl) (hp_n (n := 33) rfl ?_)
  refine q_get (v := va_rf (some b0)) (κ := 12) (k := 18) (pc' := 36) C Bh_5 (cw_k Bh_5.2.2 k0) fl_X11_90 rfl rfl (by show va_rf (hp_N αh_5 618 a0) = _; rw [Bh_5.2.2.2.2.1, hN]) dX11_preparedRoots_33 rfl ?_
  exact q_aret (x := (some b0)) C Bh_5 hr hlk ⟨Bh_5.2.2, rfl⟩ dX11_preparedRoots_36
abbrev w_X11_weak_S : cw_W := ([252, 255, 256, 258, 259, 260, 301, 453, 454, 600], [253, 254], [20, 21, 22, 23, 33, 34, 35], [])
abbrev w_X11_forge_S : cw_W := ([252, 255, 256, 257, 258, 259, 260, 453, 454, 600], [253, 254], [21, 22, 23, 34, 35], [])
set_option maxRecDepth 100000 in
set_option maxHeartbeats 4000000 in
theorem t_X11_forge_S (Γ : hp_G) (l : Launch) (α : hp_T) (g : GC α) (a0 : Nat) (k0 : hp_K α a0 = 12) (a1 : Int32) (a2 : Int32) (a3 : Int32) (a4 : Int32) (a5 : Int32) (b0 : Nat) (hN : hp_N α 618 a0 = some b0) : Met l yX11_forge (hp_ws yX11_forge cX11_forge 7 (some .int)) (hp_rm 72 0 0) (hp_Pc Γ α [.ref a0, .int a1, .int a2, .int a3, .int a4, .int a5]) (hp_Qi Γ (fun r β => cw w_X11_forge_S α β)) 0 0 (hp_A Γ) := by
  refine hp_start (by decide) ?_
  intro p e s m below meth c C hr hlk B0 hnm
  have C : hp_C Γ p m c cX11_forge 7 s ([.ref a0, .int a1, .int a2, .int a3, .int a4, .int a5] : List Value).toArray RX11 := C
  have hx := C.1.1
  have hb := C.1.2.1
  have hown := C.1.2.2.2.1
  have hts := C.1.2.2.2.2
  have B : hp_B Γ (cw w_X11_forge_S) s α α s.heap [] := ⟨B0.1, B0.2.1, cw_rf g⟩
  have kb0 : hp_K α b0 = 5 := g.2.2.1 a0 b0 k0 hN
  have lit0 : (0 : Int32).toInt = 0 := by decide
  have lit1 : (1 : Int32).toInt = 1 := by decide
  have lit5 : (5 : Int32).toInt = 5 := by decide
  have hl := lv_entry ([.ref a0, .int a1, .int a2, .int a3, .int a4, .int a5]) (n := 7) (Nat.le_of_ble_eq_true rfl)
  show W p l e (hp_rm 72 0 0) s m ([.ref a0, .int a1, .int a2, .int a3, .int a4, .int a5] : List Value).toArray below meth c s.heap [] 0 0 (MQ below (hp_Qi Γ (fun r β => cw w_X11_forge_S α β)) ([.ref a0, .int a1, .int a2, .int a3, .int a4, .int a5] : List Value).toArray s 0 0 (hp_A Γ)) (entryFrame m ([.ref a0, .int a1, .int a2, .int a3, .int a4, .int a5] : List Value).toArray 7)
  rw [lg_entry_eq]
  generalize (lg_sl ([.ref a0, .int a1, .int a2, .int a3, .int a4, .int a5]) ++ List.replicate (7 - (lg_sl ([.ref a0, .int a1, .int a2, .int a3, .int a4, .int a5])).length) Slot.unset).toArray = ls at hl ⊢
  have hl : lv_has ls 7 [(0, .ref a0), (1, .int a1), (2, .int a2), (3, .int a3), (4, .int a4), (5, .int a5)] := hl
  refine lv_iload_n hx hb dX11_forge_0 rfl (lv_at hl 2 rfl) (hp_n (n := 1) rfl ?_)
  refine lv_iload_n hx hb dX11_forge_1 rfl (lv_at hl 3 rfl) (hp_n (n := 2) rfl ?_)
  refine q_ci (pc' := 5) B (hp_runS (As := [.int a2, .int a3]) (rest := []) C B (t_X11_isThing Γ l α B.2.2.1 a2 a3) lb_X11_isThing ls_X11_isThing lk_X11_301 rfl (by decide) rfl hl.1 rfl (Nat.le_of_ble_eq_true rfl) dX11_forge_2 ⟨Nat.le_refl _, Nat.le_refl _⟩) (fun _ _ h => by rw [h.1]; exact B.2.2) rfl (fun rh_1 αh_1 Hh_1 Lh_1 ph_1 Bh_1 => ?_)
  rw [ph_1.1] at Bh_1
  have zh_1 := ph_1.2
  have J30 : ∀ (Hh_2 : Heap) (Lh_2 : List Loc) (Bh_2 : hp_B Γ (cw w_X11_forge_S) s α α Hh_2 Lh_2) (ls : Array Slot) (hl : lv_has ls 7 [(0, .ref a0)]), W p l e (hp_rm 72 0 0) s m ([.ref a0, .int a1, .int a2, .int a3, .int a4, .int a5] : List Value).toArray below meth c Hh_2 Lh_2 0 0 (MQ below (hp_Qi Γ (fun r β => cw w_X11_forge_S α β)) ([.ref a0, .int a1, .int a2, .int a3, .int a4, .int a5] : List Value).toArray s 0 0 (hp_A Γ)) (F0 m 30 ls []) := by
    intro Hh_2 Lh_2 Bh_2 ls hl
    refine lv_aload_n hx hb dX11_forge_30 rfl (lv_at hl 0 rfl) (hp_n (n := 31) rfl ?_)
    refine lv_iconst (v := 1) hx hb dX11_forge_31 (by decide) (hp_n (n := 32) rfl ?_)
    refine q_ci (pc' := 35) Bh_2 (hp_runV (As := [.int 1]) (rest := []) C Bh_2 (t_X11_refuse Γ l α Bh_2.2.2.1 a0 (cw_k Bh_2.2.2 k0) 1) lb_X11_refuse lv_X11_refuse lk_X11_98 (cw_k Bh_2.2.2 k0) rfl (by decide) rfl hl.1 rfl (Nat.le_of_ble_eq_true rfl) dX11_forge_32 ⟨Nat.le_refl _, Nat.le_refl _⟩) (fun _ _ h => cw_tr Bh_2.2.2 h (by decide)) rfl (fun rh_3 αh_3 Hh_3 Lh_3 ph_3 Bh_3 => ?_)
    exact q_iret C Bh_3 hr hlk Bh_3.2.2 dX11_forge_35
  refine lv_if_eq (tgt := 30) hx hb dX11_forge_5 (by decide) (fun c_4 => ?_) (fun c_4 => hp_n (n := 8) rfl ?_)
  ·
    have jc_4 := il_eq c_4
    exact J30 Hh_1 Lh_1 Bh_1 ls (lv_sub hl [0] rfl)
  ·
    have jc_4 := il_ne c_4
    refine lv_iload hx hb dX11_forge_8 (lv_at hl 5 rfl) (hp_n (n := 10) rfl ?_)
    refine lv_if_lt (tgt := 30) hx hb dX11_forge_10 (by decide) (fun c_5 => ?_) (fun c_5 => hp_n (n := 13) rfl ?_)
    ·
      have jc_5 := il_lt c_5
      exact J30 Hh_1 Lh_1 Bh_1 ls (lv_sub hl [0] rfl)
    ·
      have jc_5 := il_nlt c_5
      refine lv_aload_n hx hb dX11_forge_13 rfl (lv_at hl 0 rfl) (hp_n (n := 14) rfl ?_)
      refine lv_iload_n hx hb dX11_forge_14 rfl (lv_at hl 1 rfl) (hp_n (n := 15) rfl ?_)
      refine q_ci (pc' := 18) Bh_1 (hp_runV (As := [.int a1]) (rest := []) C Bh_1 (t_X11_isMark Γ l α Bh_1.2.2.1 a0 (cw_k Bh_1.2.2 k0) a1) lb_X11_isMark lv_X11_isMark lk_X11_188 (cw_k Bh_1.2.2 k0) rfl (by decide) rfl hl.1 rfl (Nat.le_of_ble_eq_true rfl) dX11_forge_15 ⟨Nat.le_refl _, Nat.le_refl _⟩) (fun _ _ h => by rw [h.1]; exact Bh_1.2.2) rfl (fun rh_6 αh_6 Hh_6 Lh_6 ph_6 Bh_6 => ?_)
      rw [ph_6.1] at Bh_6
      have zh_6 := ph_6.2
      refine lv_if_eq (tgt := 30) hx hb dX11_forge_18 (by decide) (fun c_7 => ?_) (fun c_7 => hp_n (n := 21) rfl ?_)
      ·
        have jc_7 := il_eq c_7
        exact J30 Hh_6 Lh_6 Bh_6 ls (lv_sub hl [0] rfl)
      ·
        have jc_7 := il_ne c_7
        refine lv_aload_n hx hb dX11_forge_21 rfl (lv_at hl 0 rfl) (hp_n (n := 22) rfl ?_)
        refine lv_iload hx hb dX11_forge_22 (lv_at hl 4 rfl) (hp_n (n := 24) rfl ?_)
        refine q_ci (pc' := 27) Bh_6 (hp_runV (As := [.int a4]) (rest := []) C Bh_6 (t_X11_isMark Γ l α Bh_6.2.2.1 a0 (cw_k Bh_6.2.2 k0) a4) lb_X11_isMark lv_X11_isMark lk_X11_188 (cw_k Bh_6.2.2 k0) rfl (by decide) rfl hl.1 rfl (Nat.le_of_ble_eq_true rfl) dX11_forge_24 ⟨Nat.le_refl _, Nat.le_refl _⟩) (fun _ _ h => by rw [h.1]; exact Bh_6.2.2) rfl (fun rh_8 αh_8 Hh_8 Lh_8 ph_8 Bh_8 => ?_)
        rw [ph_8.1] at Bh_8
        have zh_8 := ph_8.2
        refine lv_if_ne (tgt := 36) hx hb dX11_forge_27 (by decide) (fun c_9 => ?_) (fun c_9 => hp_n (n := 30) rfl ?_)
        ·
          have jc_9 := il_ne c_9
          refine lv_aload_n hx hb dX11_forge_36 rfl (lv_at hl 0 rfl) (hp_n (n := 37) rfl ?_)
          refine q_getr (κ := 12) (k := 12) (φ := 612) (pc' := 40) C Bh_8 (cw_k Bh_8.2.2 k0) fl_X11_62 rfl rfl rfl (cw_r Bh_8.2.2 k0 rfl rfl (by decide) (by decide)) dX11_forge_37 rfl (fun b_10 eb_10 kb_10 => ?_)
          refine lv_iload_n hx hb dX11_forge_40 rfl (lv_at hl 2 rfl) (hp_n (n := 41) rfl ?_)
          refine lv_iload_n hx hb dX11_forge_41 rfl (lv_at hl 3 rfl) (hp_n (n := 42) rfl ?_)
          refine q_cv (pc' := 45) Bh_8 (hp_runV (As := [.int a2, .int a3]) (rest := []) C Bh_8 (t_X8_toThing Γ l α Bh_8.2.2.1 b_10 (cw_k Bh_8.2.2 kb_10) a2 a3) lb_X8_toThing lv_X8_toThing lk_X11_267 (cw_k Bh_8.2.2 kb_10) rfl (by decide) rfl hl.1 rfl (Nat.le_of_ble_eq_true rfl) dX11_forge_42 ⟨Nat.le_refl _, Nat.le_refl _⟩) (fun _ h => cw_tr Bh_8.2.2 h (by decide)) rfl (fun αh_11 Hh_11 Lh_11 ph_11 Bh_11 => ?_)
          refine lv_aload_n hx hb dX11_forge_45 rfl (lv_at hl 0 rfl) (hp_n (n := 46) rfl ?_)
          refine q_getr (κ := 12) (k := 3) (φ := 603) (pc' := 49) C Bh_11 (cw_k Bh_11.2.2 k0) fl_X11_26 rfl rfl rfl (cw_r Bh_11.2.2 k0 rfl rfl (by decide) (by decide)) dX11_forge_46 rfl (fun b_12 eb_12 kb_12 => ?_)
          refine q_geti (κ := 6) (k := 1) (φ := 301) (pc' := 52) C Bh_11 (cw_k Bh_11.2.2 kb_12) fl_X11_132 rfl rfl rfl dX11_forge_49 rfl (fun x_13 ex_13 => ?_)
          refine lv_aload_n hx hb dX11_forge_52 rfl (lv_at hl 0 rfl) (hp_n (n := 53) rfl ?_)
          have t_14 : b_10 = hp_R αh_11 612 a0 := by rw [cw_R ph_11 a0 (by decide)]; exact eb_10
          refine q_gets (κ := 12) (k := 12) (φ := 612) (pc' := 56) C Bh_11 (cw_k Bh_11.2.2 k0) fl_X11_62 rfl rfl rfl t_14 dX11_forge_53 rfl ?_
          refine q_geti (κ := 9) (k := 3) (φ := 453) (pc' := 59) C Bh_11 (cw_k Bh_11.2.2 kb_10) fl_X11_312 rfl rfl rfl dX11_forge_56 rfl (fun x_15 ex_15 => ?_)
          obtain ⟨gx_15a, gx_15b⟩ : 0 ≤ x_15.toInt ∧ x_15.toInt ≤ 64 := by rw [ex_15]; exact Bh_11.2.2.1.1 453 b_10 rfl
          have J74 : ∀ (Hh_16 : Heap) (Lh_16 : List Loc) (Bh_16 : hp_B Γ (cw w_X11_forge_S) s α αh_11 Hh_16 Lh_16) (ls : Array Slot) (hl : lv_has ls 7 [(0, .ref a0)]), W p l e (hp_rm 72 0 0) s m ([.ref a0, .int a1, .int a2, .int a3, .int a4, .int a5] : List Value).toArray below meth c Hh_16 Lh_16 0 0 (MQ below (hp_Qi Γ (fun r β => cw w_X11_forge_S α β)) ([.ref a0, .int a1, .int a2, .int a3, .int a4, .int a5] : List Value).toArray s 0 0 (hp_A Γ)) (F0 m 74 ls []) := by
            intro Hh_16 Lh_16 Bh_16 ls hl
            refine lv_aload_n hx hb dX11_forge_74 rfl (lv_at hl 0 rfl) (hp_n (n := 75) rfl ?_)
            refine lv_iconst (v := 5) hx hb dX11_forge_75 (by decide) (hp_n (n := 76) rfl ?_)
            refine q_ci (pc' := 79) Bh_16 (hp_runV (As := [.int 5]) (rest := []) C Bh_16 (t_X11_refuse Γ l αh_11 Bh_16.2.2.1 a0 (cw_k Bh_16.2.2 k0) 5) lb_X11_refuse lv_X11_refuse lk_X11_98 (cw_k Bh_16.2.2 k0) rfl (by decide) rfl hl.1 rfl (Nat.le_of_ble_eq_true rfl) dX11_forge_76 ⟨Nat.le_refl _, Nat.le_refl _⟩) (fun _ _ h => cw_tr Bh_16.2.2 h (by decide)) rfl (fun rh_17 αh_17 Hh_17 Lh_17 ph_17 Bh_17 => ?_)
            exact q_iret C Bh_17 hr hlk Bh_17.2.2 dX11_forge_79
          refine lv_icmp_ne (tgt := 74) hx hb dX11_forge_59 (by decide) (fun c_18 => ?_) (fun c_18 => hp_n (n := 62) rfl ?_)
          ·
            have jc_18 := il_ne c_18
            exact J74 Hh_11 Lh_11 Bh_11 ls (lv_sub hl [0] rfl)
          ·
            have jc_18 := il_eq c_18
            refine lv_iload hx hb dX11_forge_62 (lv_at hl 5 rfl) (hp_n (n := 64) rfl ?_)
            refine lv_aload_n hx hb dX11_forge_64 rfl (lv_at hl 0 rfl) (hp_n (n := 65) rfl ?_)
            refine q_gets (κ := 12) (k := 3) (φ := 603) (pc' := 68) C Bh_11 (cw_k Bh_11.2.2 k0) fl_X11_26 rfl rfl rfl eb_12 dX11_forge_65 rfl ?_
            refine q_getj (κ := 6) (k := 1) (φ := 301) (pc' := 71) C Bh_11 (cw_k Bh_11.2.2 kb_12) fl_X11_132 rfl rfl rfl ex_13 dX11_forge_68 rfl ?_
            refine lv_icmp_lt (tgt := 80) hx hb dX11_forge_71 (by decide) (fun c_19 => ?_) (fun c_19 => hp_n (n := 74) rfl ?_)
            ·
              have jc_19 := il_lt c_19
              refine lv_aload_n hx hb dX11_forge_80 rfl (lv_at hl 0 rfl) (hp_n (n := 81) rfl ?_)
              refine q_cq (pc' := 84) Bh_11 (hp_runV (As := []) (rest := []) C Bh_11 (t_X11_preparedRoots_S Γ l αh_11 Bh_11.2.2.1 a0 (cw_k Bh_11.2.2 k0) b0 (by rw [Bh_11.2.2.2.2.1, hN])) lb_X11_preparedRoots lv_X11_preparedRoots lk_X11_363 (cw_k Bh_11.2.2 k0) rfl (by decide) rfl hl.1 rfl (Nat.le_of_ble_eq_true rfl) dX11_forge_81 ⟨Nat.le_refl _, Nat.le_refl _⟩) (fun _ _ h => cw_tr Bh_11.2.2 h.1 (by decide)) rfl (fun rh_20 αh_20 Hh_20 Lh_20 ph_20 Bh_20 => ?_)
              have prh_20 := ph_20.2
              subst prh_20
              refine lv_astore (lv' := [(6, .ref b0), (0, .ref a0), (1, .int a1), (2, .int a2), (3, .int a3), (4, .int a4), (5, .int a5)]) hx hb dX11_forge_84 hl (by decide) rfl (fun ls hl => hp_n (n := 86) rfl ?_)
              refine lv_aload hx hb dX11_forge_86 (lv_at hl 0 rfl) (hp_n (n := 88) rfl ?_)
              refine lv_aload_n hx hb dX11_forge_88 rfl (lv_at hl 1 rfl) (hp_n (n := 89) rfl ?_)
              have t_21 : b_10 = hp_R αh_20 612 a0 := by rw [cw_R ph_20.1 a0 (by decide)]; exact t_14
              refine q_gets (κ := 12) (k := 12) (φ := 612) (pc' := 92) C Bh_20 (cw_k Bh_20.2.2 k0) fl_X11_62 rfl rfl rfl t_21 dX11_forge_89 rfl ?_
              refine lv_aload_n hx hb dX11_forge_92 rfl (lv_at hl 1 rfl) (hp_n (n := 93) rfl ?_)
              have t_22 : b_12 = hp_R αh_20 603 a0 := by rw [cw_R ph_20.1 a0 (by decide)]; exact eb_12
              refine q_gets (κ := 12) (k := 3) (φ := 603) (pc' := 96) C Bh_20 (cw_k Bh_20.2.2 k0) fl_X11_26 rfl rfl rfl t_22 dX11_forge_93 rfl ?_
              refine lv_aload_n hx hb dX11_forge_96 rfl (lv_at hl 1 rfl) (hp_n (n := 97) rfl ?_)
              refine q_gets (κ := 12) (k := 12) (φ := 612) (pc' := 100) C Bh_20 (cw_k Bh_20.2.2 k0) fl_X11_62 rfl rfl rfl t_21 dX11_forge_97 rfl ?_
              refine lv_aload_n hx hb dX11_forge_100 rfl (lv_at hl 1 rfl) (hp_n (n := 101) rfl ?_)
              refine q_getr (κ := 12) (k := 1) (φ := 601) (pc' := 104) C Bh_20 (cw_k Bh_20.2.2 k0) fl_X11_16 rfl rfl rfl (cw_r Bh_20.2.2 k0 rfl rfl (by decide) (by decide)) dX11_forge_101 rfl (fun b_23 eb_23 kb_23 => ?_)
              refine q_geti (κ := 11) (k := 0) (φ := 550) (pc' := 107) C Bh_20 (cw_k Bh_20.2.2 kb_23) fl_X11_122 rfl rfl rfl dX11_forge_104 rfl (fun x_24 ex_24 => ?_)
              refine lv_aload_n hx hb dX11_forge_107 rfl (lv_at hl 1 rfl) (hp_n (n := 108) rfl ?_)
              refine q_gets (κ := 12) (k := 3) (φ := 603) (pc' := 111) C Bh_20 (cw_k Bh_20.2.2 k0) fl_X11_26 rfl rfl rfl t_22 dX11_forge_108 rfl ?_
              refine lv_iload_n hx hb dX11_forge_111 rfl (lv_at hl 2 rfl) (hp_n (n := 112) rfl ?_)
              refine lv_iload hx hb dX11_forge_112 (lv_at hl 6 rfl) (hp_n (n := 114) rfl ?_)
              refine q_ci (pc' := 117) Bh_20 (hp_runV (As := [.int x_24, .ref b_12, .int a1, .int a5]) (rest := [.ref b_12, .ref b_10, .ref b0]) C Bh_20 (t_X8_folded Γ l αh_20 Bh_20.2.2.1 b_10 (cw_k Bh_20.2.2 kb_10) x_24 b_12 (cw_k Bh_20.2.2 kb_12) a1 a5) lb_X8_folded lv_X8_folded lk_X11_382 (cw_k Bh_20.2.2 kb_10) rfl (by decide) rfl hl.1 rfl (Nat.le_of_ble_eq_true rfl) dX11_forge_114 ⟨Nat.le_refl _, Nat.le_refl _⟩) (fun _ _ h => by rw [h]; exact Bh_20.2.2) rfl (fun rh_25 αh_25 Hh_25 Lh_25 ph_25 Bh_25 => ?_)
              rw [ph_25] at Bh_25
              refine lv_iload hx hb dX11_forge_117 (lv_at hl 5 rfl) (hp_n (n := 119) rfl ?_)
              refine lv_iload hx hb dX11_forge_119 (lv_at hl 6 rfl) (hp_n (n := 121) rfl ?_)
              refine q_cv (pc' := 124) Bh_25 (hp_runV (As := [.ref b_10, .ref b_12, .int rh_25, .int a4, .int a5]) (rest := []) C Bh_25 (t_X4_seekStep Γ l αh_20 Bh_25.2.2.1 b0 (cw_k Bh_25.2.2 kb0) b_10 (cw_k Bh_25.2.2 kb_10) b_12 (cw_k Bh_25.2.2 kb_12) rh_25 a4 a5) lb_X4_seekStep lv_X4_seekStep lk_X11_388 (cw_k Bh_25.2.2 kb0) rfl (by decide) rfl hl.1 rfl (Nat.le_of_ble_eq_true rfl) dX11_forge_121 ⟨Nat.le_refl _, Nat.le_refl _⟩) (fun _ h => cw_tr Bh_25.2.2 h (by decide)) rfl (fun αh_26 Hh_26 Lh_26 ph_26 Bh_26 => ?_)
              refine lv_aload hx hb dX11_forge_124 (lv_at hl 0 rfl) (hp_n (n := 126) rfl ?_)
              refine q_geti (κ := 5) (k := 9) (φ := 259) (pc' := 129) C Bh_26 (cw_k Bh_26.2.2 kb0) fl_X11_373 rfl rfl rfl dX11_forge_126 rfl (fun x_27 ex_27 => ?_)
              refine lv_if_ne (tgt := 140) hx hb dX11_forge_129 (by decide) (fun c_28 => ?_) (fun c_28 => hp_n (n := 132) rfl ?_)
              ·
                have jc_28 := il_ne c_28
                refine lv_aload_n hx hb dX11_forge_140 rfl (lv_at hl 1 rfl) (hp_n (n := 141) rfl ?_)
                refine lv_aload hx hb dX11_forge_141 (lv_at hl 0 rfl) (hp_n (n := 143) rfl ?_)
                refine q_geti (κ := 5) (k := 10) (φ := 260) (pc' := 146) C Bh_26 (cw_k Bh_26.2.2 kb0) fl_X11_376 rfl rfl rfl dX11_forge_143 rfl (fun x_29 ex_29 => ?_)
                refine q_ci (pc' := 149) Bh_26 (hp_runV (As := [.int x_29]) (rest := []) C Bh_26 (t_X11_answer Γ l αh_26 Bh_26.2.2.1 a0 (cw_k Bh_26.2.2 k0) x_29) lb_X11_answer lv_X11_answer lk_X11_115 (cw_k Bh_26.2.2 k0) rfl (by decide) rfl hl.1 rfl (Nat.le_of_ble_eq_true rfl) dX11_forge_146 ⟨Nat.le_refl _, Nat.le_refl _⟩) (fun _ _ h => cw_tr Bh_26.2.2 h (by decide)) rfl (fun rh_30 αh_30 Hh_30 Lh_30 ph_30 Bh_30 => ?_)
                exact q_iret C Bh_30 hr hlk Bh_30.2.2 dX11_forge_149
              ·
                have jc_28 := il_eq c_28
                refine lv_aload_n hx hb dX11_forge_132 rfl (lv_at hl 1 rfl) (hp_n (n := 133) rfl ?_)
                refine lv_iconst (v := 5) hx hb dX11_forge_133 (by decide) (hp_n (n := 134) rfl ?_)
                refine q_ci (pc' := 137) Bh_26 (hp_runV (As := [.int 5]) (rest := []) C Bh_26 (t_X11_refuse Γ l αh_26 Bh_26.2.2.1 a0 (cw_k Bh_26.2.2 k0) 5) lb_X11_refuse lv_X11_refuse lk_X11_98 (cw_k Bh_26.2.2 k0) rfl (by decide) rfl hl.1 rfl (Nat.le_of_ble_eq_true rfl) dX11_forge_134 ⟨Nat.le_refl _, Nat.le_refl _⟩) (fun _ _ h => cw_tr Bh_26.2.2 h (by decide)) rfl (fun rh_31 αh_31 Hh_31 Lh_31 ph_31 Bh_31 => ?_)
                refine lv_goto (tgt := 149) hx hb dX11_forge_137 (by decide) ?_
                exact q_iret C Bh_31 hr hlk Bh_31.2.2 dX11_forge_149
            ·
              have jc_19 := il_nlt c_19
              exact J74 Hh_11 Lh_11 Bh_11 ls (lv_sub hl [0] rfl)
        ·
          have jc_9 := il_eq c_9
          exact J30 Hh_8 Lh_8 Bh_8 ls (lv_sub hl [0] rfl)
