section JN5_0
abbrev w_X11_preparedRoots_S : cw_W := ([252], [], [34, 35], [])
set_option maxRecDepth 100000 in
set_option maxHeartbeats 4000000 in
theorem t_X11_preparedRoots_S (Γ : hp_G) (l : Launch) (α : hp_T) (g : GC α) (a0 : Nat) (k0 : hp_K α a0 = 12) (b0 : Nat) (hN : hp_N α 618 a0 = some b0) : Met l yX11_preparedRoots (hp_ws yX11_preparedRoots cX11_preparedRoots 1 (some (.object "ProvenRecord$Roots"))) (hp_rm 3 0 0) (hp_Pc Γ α [.ref a0]) (hp_Qq Γ (fun r β => cw w_X11_preparedRoots_S α β ∧ r = some b0)) 0 0 (hp_A Γ) := by
  refine hp_start (by decide) ?_
  intro p e s m below meth c C hr hlk B0 hnm
  have C : hp_C Γ p m c cX11_preparedRoots 1 s ([.ref a0] : List Value).toArray RX11 := C
  have hx := C.1.1
  have hb := C.1.2.1
  have hown := C.1.2.2.2.1
  have hts := C.1.2.2.2.2
  have B : hp_B Γ (cw w_X11_preparedRoots_S) s α α s.heap [] := ⟨B0.1, B0.2.1, cw_rf g⟩
  have kb0 : hp_K α b0 = 5 := g.2.2.1 a0 b0 k0 hN
  have hl := lv_entry ([.ref a0]) (n := 1) (Nat.le_of_ble_eq_true rfl)
  show W p l e (hp_rm 3 0 0) s m ([.ref a0] : List Value).toArray below meth c s.heap [] 0 0 (MQ below (hp_Qq Γ (fun r β => cw w_X11_preparedRoots_S α β ∧ r = some b0)) ([.ref a0] : List Value).toArray s 0 0 (hp_A Γ)) (entryFrame m ([.ref a0] : List Value).toArray 1)
  rw [lg_entry_eq]
  generalize (lg_sl ([.ref a0]) ++ List.replicate (1 - (lg_sl ([.ref a0])).length) Slot.unset).toArray = ls at hl ⊢
  have hl : lv_has ls 1 [(0, .ref a0)] := hl
  refine lv_aload_n hx hb dX11_preparedRoots_0 rfl (lv_at hl 0 rfl) (hp_n (n := 1) rfl ?_)
  refine q_get (v := va_rf (some b0)) (κ := 12) (k := 18) (pc' := 4) C B (cw_k B.2.2 k0) fl_X11_90 rfl rfl (by show va_rf (hp_N α 618 a0) = _; rw [B.2.2.2.2.1, hN]) dX11_preparedRoots_1 rfl ?_
  refine lv_ifnonnull (tgt := 18) hx hb dX11_preparedRoots_4 (by decide) ?_
  refine lv_aload_n hx hb dX11_preparedRoots_18 rfl (lv_at hl 0 rfl) (hp_n (n := 19) rfl ?_)
  refine q_get (v := va_rf (some b0)) (κ := 12) (k := 18) (pc' := 22) C B (cw_k B.2.2 k0) fl_X11_90 rfl rfl (by show va_rf (hp_N α 618 a0) = _; rw [B.2.2.2.2.1, hN]) dX11_preparedRoots_19 rfl ?_
  refine lv_aload_n hx hb dX11_preparedRoots_22 rfl (lv_at hl 0 rfl) (hp_n (n := 23) rfl ?_)
  refine q_getr (κ := 12) (k := 1) (φ := 601) (pc' := 26) C B (cw_k B.2.2 k0) fl_X11_16 rfl rfl rfl (cw_r B.2.2 k0 rfl rfl (by decide) (by decide)) dX11_preparedRoots_23 rfl (fun b_3 eb_3 kb_3 => ?_)
  refine q_geti (κ := 11) (k := 0) (φ := 550) (pc' := 29) C B (cw_k B.2.2 kb_3) fl_X11_122 rfl rfl rfl dX11_preparedRoots_26 rfl (fun x_4 ex_4 => ?_)
  refine q_cv (pc' := 32) B (hp_runV (As := [.int x_4]) (rest := []) C B (t_X4_prepare Γ l α B.2.2.1 b0 (cw_k B.2.2 kb0) x_4) lb_X4_prepare lv_X4_prepare lk_X11_475 (cw_k B.2.2 kb0) rfl (by decide) rfl hl.1 rfl (Nat.le_of_ble_eq_true rfl) dX11_preparedRoots_29 ⟨Nat.le_refl _, Nat.le_refl _⟩) (fun _ h => cw_tr B.2.2 h (by decide)) rfl (fun αh_5 Hh_5 Lh_5 ph_5 Bh_5 => ?_)
  refine lv_aload_n hx hb dX11_preparedRoots_32 rfl (lv_at hl 0 rfl) (hp_n (n := 33) rfl ?_)
  refine q_get (v := va_rf (some b0)) (κ := 12) (k := 18) (pc' := 36) C Bh_5 (cw_k Bh_5.2.2 k0) fl_X11_90 rfl rfl (by show va_rf (hp_N αh_5 618 a0) = _; rw [Bh_5.2.2.2.2.1, hN]) dX11_preparedRoots_33 rfl ?_
  exact q_aret (x := (some b0)) C Bh_5 hr hlk ⟨Bh_5.2.2, rfl⟩ dX11_preparedRoots_36
abbrev w_X11_weak_S : cw_W := ([252, 255, 256, 258, 259, 260, 301, 453, 454, 600], [253, 254], [20, 21, 22, 23, 33, 34, 35], [])
abbrev w_X11_forge_S : cw_W := ([252, 255, 256, 257, 258, 259, 260, 453, 454, 600], [253, 254], [21, 22, 23, 34, 35], [])
set_option maxRecDepth 100000 in
set_option maxHeartbeats 4000000 in
theorem t_X11_forge_S (Γ : hp_G) (l : Launch) (α : hp_T) (g : GC α) (a0 : Nat) (k0 : hp_K α a0 = 12) (a1 : Int32) (a2 : Int32) (a3 : Int32) (a4 : Int32) (a5 : Int32) (b0 : Nat) (hN : hp_N α 618 a0 = some b0) : Met l yX11_forge (hp_ws yX11_forge cX11_forge 7 (some .int)) (hp_rm 72 0 0) (hp_Pc Γ α [.ref a0, .int a1, .int a2, .int a3, .int a4, .int a5]) (hp_Qi Γ (fun r β => cw w_X11_forge_S α β)) 0 0 (hp_A Γ) := by
  refine hp_start (by decide) ?_
  intro p e s m below meth c C hr hlk B0 hnm
  have C : hp_C Γ p m c cX11_forge 7 s ([.ref a0, .int a1, .int a2, .int a3, .int a4, .int a5] : List Value).toArray RX11 := C
  have hx := C.1.1
  have hb := C.1.2.1
  have hown := C.1.2.2.2.1
  have hts := C.1.2.2.2.2
  have B : hp_B Γ (cw w_X11_forge_S) s α α s.heap [] := ⟨B0.1, B0.2.1, cw_rf g⟩
  have kb0 : hp_K α b0 = 5 := g.2.2.1 a0 b0 k0 hN
  have lit0 : (0 : Int32).toInt = 0 := by decide
  have lit1 : (1 : Int32).toInt = 1 := by decide
  have lit5 : (5 : Int32).toInt = 5 := by decide
  have hl := lv_entry ([.ref a0, .int a1, .int a2, .int a3, .int a4, .int a5]) (n := 7) (Nat.le_of_ble_eq_true rfl)
  show W p l e (hp_rm 72 0 0) s m ([.ref a0, .int a1, .int a2, .int a3, .int a4, .int a5] : List Value).toArray below meth c s.heap [] 0 0 (MQ below (hp_Qi Γ (fun r β => cw w_X11_forge_S α β)) ([.ref a0, .int a1, .int a2, .int a3, .int a4, .int a5] : List Value).toArray s 0 0 (hp_A Γ)) (entryFrame m ([.ref a0, .int a1, .int a2, .int a3, .int a4, .int a5] : List Value).toArray 7)
  rw [lg_entry_eq]
  generalize (lg_sl ([.ref a0, .int a1, .int a2, .int a3, .int a4, .int a5]) ++ List.replicate (7 - (lg_sl ([.ref a0, .int a1, .int a2, .int a3, .int a4, .int a5])).length) Slot.unset).toArray = ls at hl ⊢
  have hl : lv_has ls 7 [(0, .ref a0), (1, .int a1), (2, .int a2), (3, .int a3), (4, .int a4), (5, .int a5)] := hl
  refine lv_iload_n hx hb dX11_forge_0 rfl (lv_at hl 2 rfl) (hp_n (n := 1) rfl ?_)
  refine lv_iload_n hx hb dX11_forge_1 rfl (lv_at hl 3 rfl) (hp_n (n := 2) rfl ?_)
  refine q_ci (pc' := 5) B (hp_runS (As := [.int a2, .int a3]) (rest := []) C B (t_X11_isThing Γ l α B.2.2.1 a2 a3) lb_X11_isThing ls_X11_isThing lk_X11_301 rfl (by decide) rfl hl.1 rfl (Nat.le_of_ble_eq_true rfl) dX11_forge_2 ⟨Nat.le_refl _, Nat.le_refl _⟩) (fun _ _ h => by rw [h.1]; exact B.2.2) rfl (fun rh_1 αh_1 Hh_1 Lh_1 ph_1 Bh_1 => ?_)
  rw [ph_1.1] at Bh_1
  have zh_1 := ph_1.2
  have J30 : ∀ (Hh_2 : Heap) (Lh_2 : List Loc) (Bh_2 : hp_B Γ (cw w_X11_forge_S) s α α Hh_2 Lh_2) (ls : Array Slot) (hl : lv_has ls 7 [(0, .ref a0)]), W p l e (hp_rm 72 0 0) s m ([.ref a0, .int a1, .int a2, .int a3, .int a4, .int a5] : List Value).toArray below meth c Hh_2 Lh_2 0 0 (MQ below (hp_Qi Γ (fun r β => cw w_X11_forge_S α β)) ([.ref a0, .int a1, .int a2, .int a3, .int a4, .int a5] : List Value).toArray s 0 0 (hp_A Γ)) (F0 m 30 ls []) := by
    intro Hh_2 Lh_2 Bh_2 ls hl
    refine lv_aload_n hx hb dX11_forge_30 rfl (lv_at hl 0 rfl) (hp_n (n := 31) rfl ?_)
    refine lv_iconst (v := 1) hx hb dX11_forge_31 (by decide) (hp_n (n := 32) rfl ?_)
    refine q_ci (pc' := 35) Bh_2 (hp_runV (As := [.int 1]) (rest := []) C Bh_2 (t_X11_refuse Γ l α Bh_2.2.2.1 a0 (cw_k Bh_2.2.2 k0) 1) lb_X11_refuse lv_X11_refuse lk_X11_98 (cw_k Bh_2.2.2 k0) rfl (by decide) rfl hl.1 rfl (Nat.le_of_ble_eq_true rfl) dX11_forge_32 ⟨Nat.le_refl _, Nat.le_refl _⟩) (fun _ _ h => cw_tr Bh_2.2.2 h (by decide)) rfl (fun rh_3 αh_3 Hh_3 Lh_3 ph_3 Bh_3 => ?_)
    exact q_iret C Bh_3 hr hlk Bh_3.2.2 dX11_forge_35
  refine lv_if_eq (tgt := 30) hx hb dX11_forge_5 (by decide) (fun c_4 => ?_) (fun c_4 => hp_n (n := 8) rfl ?_)
  ·
    have jc_4 := il_eq c_4
    exact J30 Hh_1 Lh_1 Bh_1 ls (lv_sub hl [0] rfl)
  ·
    have jc_4 := il_ne c_4
    refine lv_iload hx hb dX11_forge_8 (lv_at hl 5 rfl) (hp_n (n := 10) rfl ?_)
    refine lv_if_lt (tgt := 30) hx hb dX11_forge_10 (by decide) (fun c_5 => ?_) (fun c_5 => hp_n (n := 13) rfl ?_)
    ·
      have jc_5 := il_lt c_5
      exact J30 Hh_1 Lh_1 Bh_1 ls (lv_sub hl [0] rfl)
    ·
      have jc_5 := il_nlt c_5
      refine lv_aload_n hx hb dX11_forge_13 rfl (lv_at hl 0 rfl) (hp_n (n := 14) rfl ?_)
      refine lv_iload_n hx hb dX11_forge_14 rfl (lv_at hl 1 rfl) (hp_n (n := 15) rfl ?_)
      refine q_ci (pc' := 18) Bh_1 (hp_runV (As := [.int a1]) (rest := []) C Bh_1 (t_X11_isMark Γ l α Bh_1.2.2.1 a0 (cw_k Bh_1.2.2 k0) a1) lb_X11_isMark lv_X11_isMark lk_X11_188 (cw_k Bh_1.2.2 k0) rfl (by decide) rfl hl.1 rfl (Nat.le_of_ble_eq_true rfl) dX11_forge_15 ⟨Nat.le_refl _, Nat.le_refl _⟩) (fun _ _ h => by rw [h.1]; exact Bh_1.2.2) rfl (fun rh_6 αh_6 Hh_6 Lh_6 ph_6 Bh_6 => ?_)
      rw [ph_6.1] at Bh_6
      have zh_6 := ph_6.2
      refine lv_if_eq (tgt := 30) hx hb dX11_forge_18 (by decide) (fun c_7 => ?_) (fun c_7 => hp_n (n := 21) rfl ?_)
      ·
        have jc_7 := il_eq c_7
        exact J30 Hh_6 Lh_6 Bh_6 ls (lv_sub hl [0] rfl)
      ·
        have jc_7 := il_ne c_7
        refine lv_aload_n hx hb dX11_forge_21 rfl (lv_at hl 0 rfl) (hp_n (n := 22) rfl ?_)
        refine lv_iload hx hb dX11_forge_22 (lv_at hl 4 rfl) (hp_n (n := 24) rfl ?_)
        refine q_ci (pc' := 27) Bh_6 (hp_runV (As := [.int a4]) (rest := []) C Bh_6 (t_X11_isMark Γ l α Bh_6.2.2.1 a0 (cw_k Bh_6.2.2 k0) a4) lb_X11_isMark lv_X11_isMark lk_X11_188 (cw_k Bh_6.2.2 k0) rfl (by decide) rfl hl.1 rfl (Nat.le_of_ble_eq_true rfl) dX11_forge_24 ⟨Nat.le_refl _, Nat.le_refl _⟩) (fun _ _ h => by rw [h.1]; exact Bh_6.2.2) rfl (fun rh_8 αh_8 Hh_8 Lh_8 ph_8 Bh_8 => ?_)
        rw [ph_8.1] at Bh_8
        have zh_8 := ph_8.2
        refine lv_if_ne (tgt := 36) hx hb dX11_forge_27 (by decide) (fun c_9 => ?_) (fun c_9 => hp_n (n := 30) rfl ?_)
        ·
          have jc_9 := il_ne c_9
          refine lv_aload_n hx hb dX11_forge_36 rfl (lv_at hl 0 rfl) (hp_n (n := 37) rfl ?_)
          refine q_getr (κ := 12) (k := 12) (φ := 612) (pc' := 40) C Bh_8 (cw_k Bh_8.2.2 k0) fl_X11_62 rfl rfl rfl (cw_r Bh_8.2.2 k0 rfl rfl (by decide) (by decide)) dX11_forge_37 rfl (fun b_10 eb_10 kb_10 => ?_)
          refine lv_iload_n hx hb dX11_forge_40 rfl (lv_at hl 2 rfl) (hp_n (n := 41) rfl ?_)
          refine lv_iload_n hx hb dX11_forge_41 rfl (lv_at hl 3 rfl) (hp_n (n := 42) rfl ?_)
          refine q_cv (pc' := 45) Bh_8 (hp_runV (As := [.int a2, .int a3]) (rest := []) C Bh_8 (t_X8_toThing Γ l α Bh_8.2.2.1 b_10 (cw_k Bh_8.2.2 kb_10) a2 a3) lb_X8_toThing lv_X8_toThing lk_X11_267 (cw_k Bh_8.2.2 kb_10) rfl (by decide) rfl hl.1 rfl (Nat.le_of_ble_eq_true rfl) dX11_forge_42 ⟨Nat.le_refl _, Nat.le_refl _⟩) (fun _ h => cw_tr Bh_8.2.2 h (by decide)) rfl (fun αh_11 Hh_11 Lh_11 ph_11 Bh_11 => ?_)
          refine lv_aload_n hx hb dX11_forge_45 rfl (lv_at hl 0 rfl) (hp_n (n := 46) rfl ?_)
          refine q_getr (κ := 12) (k := 3) (φ := 603) (pc' := 49) C Bh_11 (cw_k Bh_11.2.2 k0) fl_X11_26 rfl rfl rfl (cw_r Bh_11.2.2 k0 rfl rfl (by decide) (by decide)) dX11_forge_46 rfl (fun b_12 eb_12 kb_12 => ?_)
          refine q_geti (κ := 6) (k := 1) (φ := 301) (pc' := 52) C Bh_11 (cw_k Bh_11.2.2 kb_12) fl_X11_132 rfl rfl rfl dX11_forge_49 rfl (fun x_13 ex_13 => ?_)
          refine lv_aload_n hx hb dX11_forge_52 rfl (lv_at hl 0 rfl) (hp_n (n := 53) rfl ?_)
          have t_14 : b_10 = hp_R αh_11 612 a0 := by rw [cw_R ph_11 a0 (by decide)]; exact eb_10
          refine q_gets (κ := 12) (k := 12) (φ := 612) (pc' := 56) C Bh_11 (cw_k Bh_11.2.2 k0) fl_X11_62 rfl rfl rfl t_14 dX11_forge_53 rfl ?_
          refine q_geti (κ := 9) (k := 3) (φ := 453) (pc' := 59) C Bh_11 (cw_k Bh_11.2.2 kb_10) fl_X11_312 rfl rfl rfl dX11_forge_56 rfl (fun x_15 ex_15 => ?_)
          obtain ⟨gx_15a, gx_15b⟩ : 0 ≤ x_15.toInt ∧ x_15.toInt ≤ 64 := by rw [ex_15]; exact Bh_11.2.2.1.1 453 b_10 rfl
          have J74 : ∀ (Hh_16 : Heap) (Lh_16 : List Loc) (Bh_16 : hp_B Γ (cw w_X11_forge_S) s α αh_11 Hh_16 Lh_16) (ls : Array Slot) (hl : lv_has ls 7 [(0, .ref a0)]), W p l e (hp_rm 72 0 0) s m ([.ref a0, .int a1, .int a2, .int a3, .int a4, .int a5] : List Value).toArray below meth c Hh_16 Lh_16 0 0 (MQ below (hp_Qi Γ (fun r β => cw w_X11_forge_S α β)) ([.ref a0, .int a1, .int a2, .int a3, .int a4, .int a5] : List Value).toArray s 0 0 (hp_A Γ)) (F0 m 74 ls []) := by
            intro Hh_16 Lh_16 Bh_16 ls hl
            refine lv_aload_n hx hb dX11_forge_74 rfl (lv_at hl 0 rfl) (hp_n (n := 75) rfl ?_)
            refine lv_iconst (v := 5) hx hb dX11_forge_75 (by decide) (hp_n (n := 76) rfl ?_)
            refine q_ci (pc' := 79) Bh_16 (hp_runV (As := [.int 5]) (rest := []) C Bh_16 (t_X11_refuse Γ l αh_11 Bh_16.2.2.1 a0 (cw_k Bh_16.2.2 k0) 5) lb_X11_refuse lv_X11_refuse lk_X11_98 (cw_k Bh_16.2.2 k0) rfl (by decide) rfl hl.1 rfl (Nat.le_of_ble_eq_true rfl) dX11_forge_76 ⟨Nat.le_refl _, Nat.le_refl _⟩) (fun _ _ h => cw_tr Bh_16.2.2 h (by decide)) rfl (fun rh_17 αh_17 Hh_17 Lh_17 ph_17 Bh_17 => ?_)
            exact q_iret C Bh_17 hr hlk Bh_17.2.2 dX11_forge_79
          refine lv_icmp_ne (tgt := 74) hx hb dX11_forge_59 (by decide) (fun c_18 => ?_) (fun c_18 => hp_n (n := 62) rfl ?_)
          ·
            have jc_18 := il_ne c_18
            exact J74 Hh_11 Lh_11 Bh_11 ls (lv_sub hl [0] rfl)
          ·
            have jc_18 := il_eq c_18
            refine lv_iload hx hb dX11_forge_62 (lv_at hl 5 rfl) (hp_n (n := 64) rfl ?_)
            refine lv_aload_n hx hb dX11_forge_64 rfl (lv_at hl 0 rfl) (hp_n (n := 65) rfl ?_)
            refine q_gets (κ := 12) (k := 3) (φ := 603) (pc' := 68) C Bh_11 (cw_k Bh_11.2.2 k0) fl_X11_26 rfl rfl rfl eb_12 dX11_forge_65 rfl ?_
            refine q_getj (κ := 6) (k := 1) (φ := 301) (pc' := 71) C Bh_11 (cw_k Bh_11.2.2 kb_12) fl_X11_132 rfl rfl rfl ex_13 dX11_forge_68 rfl ?_
            refine lv_icmp_lt (tgt := 80) hx hb dX11_forge_71 (by decide) (fun c_19 => ?_) (fun c_19 => hp_n (n := 74) rfl ?_)
            ·
              have jc_19 := il_lt c_19
              refine lv_aload_n hx hb dX11_forge_80 rfl (lv_at hl 0 rfl) (hp_n (n := 81) rfl ?_)
              refine q_cq (pc' := 84) Bh_11 (hp_runV (As := []) (rest := []) C Bh_11 (t_X11_preparedRoots_S Γ l αh_11 Bh_11.2.2.1 a0 (cw_k Bh_11.2.2 k0) b0 (by rw [Bh_11.2.2.2.2.1, hN])) lb_X11_preparedRoots lv_X11_preparedRoots lk_X11_363 (cw_k Bh_11.2.2 k0) rfl (by decide) rfl hl.1 rfl (Nat.le_of_ble_eq_true rfl) dX11_forge_81 ⟨Nat.le_refl _, Nat.le_refl _⟩) (fun _ _ h => cw_tr Bh_11.2.2 h.1 (by decide)) rfl (fun rh_20 αh_20 Hh_20 Lh_20 ph_20 Bh_20 => ?_)
              have prh_20 := ph_20.2
              subst prh_20
              refine lv_astore (lv' := [(6, .ref b0), (0, .ref a0), (1, .int a1), (2, .int a2), (3, .int a3), (4, .int a4), (5, .int a5)]) hx hb dX11_forge_84 hl (by decide) rfl (fun ls hl => hp_n (n := 86) rfl ?_)
              refine lv_aload hx hb dX11_forge_86 (lv_at hl 0 rfl) (hp_n (n := 88) rfl ?_)
              refine lv_aload_n hx hb dX11_forge_88 rfl (lv_at hl 1 rfl) (hp_n (n := 89) rfl ?_)
              have t_21 : b_10 = hp_R αh_20 612 a0 := by rw [cw_R ph_20.1 a0 (by decide)]; exact t_14
              refine q_gets (κ := 12) (k := 12) (φ := 612) (pc' := 92) C Bh_20 (cw_k Bh_20.2.2 k0) fl_X11_62 rfl rfl rfl t_21 dX11_forge_89 rfl ?_
              refine lv_aload_n hx hb dX11_forge_92 rfl (lv_at hl 1 rfl) (hp_n (n := 93) rfl ?_)
              have t_22 : b_12 = hp_R αh_20 603 a0 := by rw [cw_R ph_20.1 a0 (by decide)]; exact eb_12
              refine q_gets (κ := 12) (k := 3) (φ := 603) (pc' := 96) C Bh_20 (cw_k Bh_20.2.2 k0) fl_X11_26 rfl rfl rfl t_22 dX11_forge_93 rfl ?_
              refine lv_aload_n hx hb dX11_forge_96 rfl (lv_at hl 1 rfl) (hp_n (n := 97) rfl ?_)
              refine q_gets (κ := 12) (k := 12) (φ := 612) (pc' := 100) C Bh_20 (cw_k Bh_20.2.2 k0) fl_X11_62 rfl rfl rfl t_21 dX11_forge_97 rfl ?_
              refine lv_aload_n hx hb dX11_forge_100 rfl (lv_at hl 1 rfl) (hp_n (n := 101) rfl ?_)
              refine q_getr (κ := 12) (k := 1) (φ := 601) (pc' := 104) C Bh_20 (cw_k Bh_20.2.2 k0) fl_X11_16 rfl rfl rfl (cw_r Bh_20.2.2 k0 rfl rfl (by decide) (by decide)) dX11_forge_101 rfl (fun b_23 eb_23 kb_23 => ?_)
              refine q_geti (κ := 11) (k := 0) (φ := 550) (pc' := 107) C Bh_20 (cw_k Bh_20.2.2 kb_23) fl_X11_122 rfl rfl rfl dX11_forge_104 rfl (fun x_24 ex_24 => ?_)
              refine lv_aload_n hx hb dX11_forge_107 rfl (lv_at hl 1 rfl) (hp_n (n := 108) rfl ?_)
              refine q_gets (κ := 12) (k := 3) (φ := 603) (pc' := 111) C Bh_20 (cw_k Bh_20.2.2 k0) fl_X11_26 rfl rfl rfl t_22 dX11_forge_108 rfl ?_
              refine lv_iload_n hx hb dX11_forge_111 rfl (lv_at hl 2 rfl) (hp_n (n := 112) rfl ?_)
              refine lv_iload hx hb dX11_forge_112 (lv_at hl 6 rfl) (hp_n (n := 114) rfl ?_)
              refine q_ci (pc' := 117) Bh_20 (hp_runV (As := [.int x_24, .ref b_12, .int a1, .int a5]) (rest := [.ref b_12, .ref b_10, .ref b0]) C Bh_20 (t_X8_folded Γ l αh_20 Bh_20.2.2.1 b_10 (cw_k Bh_20.2.2 kb_10) x_24 b_12 (cw_k Bh_20.2.2 kb_12) a1 a5) lb_X8_folded lv_X8_folded lk_X11_382 (cw_k Bh_20.2.2 kb_10) rfl (by decide) rfl hl.1 rfl (Nat.le_of_ble_eq_true rfl) dX11_forge_114 ⟨Nat.le_refl _, Nat.le_refl _⟩) (fun _ _ h => by rw [h]; exact Bh_20.2.2) rfl (fun rh_25 αh_25 Hh_25 Lh_25 ph_25 Bh_25 => ?_)
              rw [ph_25] at Bh_25
              refine lv_iload hx hb dX11_forge_117 (lv_at hl 5 rfl) (hp_n (n := 119) rfl ?_)
              refine lv_iload hx hb dX11_forge_119 (lv_at hl 6 rfl) (hp_n (n := 121) rfl ?_)
              refine q_cv (pc' := 124) Bh_25 (hp_runV (As := [.ref b_10, .ref b_12, .int rh_25, .int a4, .int a5]) (rest := []) C Bh_25 (t_X4_seekStep Γ l αh_20 Bh_25.2.2.1 b0 (cw_k Bh_25.2.2 kb0) b_10 (cw_k Bh_25.2.2 kb_10) b_12 (cw_k Bh_25.2.2 kb_12) rh_25 a4 a5) lb_X4_seekStep lv_X4_seekStep lk_X11_388 (cw_k Bh_25.2.2 kb0) rfl (by decide) rfl hl.1 rfl (Nat.le_of_ble_eq_true rfl) dX11_forge_121 ⟨Nat.le_refl _, Nat.le_refl _⟩) (fun _ h => cw_tr Bh_25.2.2 h (by decide)) rfl (fun αh_26 Hh_26 Lh_26 ph_26 Bh_26 => ?_)
              refine lv_aload hx hb dX11_forge_124 (lv_at hl 0 rfl) (hp_n (n := 126) rfl ?_)
              refine q_geti (κ := 5) (k := 9) (φ := 259) (pc' := 129) C Bh_26 (cw_k Bh_26.2.2 kb0) fl_X11_373 rfl rfl rfl dX11_forge_126 rfl (fun x_27 ex_27 => ?_)
              refine lv_if_ne (tgt := 140) hx hb dX11_forge_129 (by decide) (fun c_28 => ?_) (fun c_28 => hp_n (n := 132) rfl ?_)
              ·
                have jc_28 := il_ne c_28
                refine lv_aload_n hx hb dX11_forge_140 rfl (lv_at hl 1 rfl) (hp_n (n := 141) rfl ?_)
                refine lv_aload hx hb dX11_forge_141 (lv_at hl 0 rfl) (hp_n (n := 143) rfl ?_)
                refine q_geti (κ := 5) (k := 10) (φ := 260) (pc' := 146) C Bh_26 (cw_k Bh_26.2.2 kb0) fl_X11_376 rfl rfl rfl dX11_forge_143 rfl (fun x_29 ex_29 => ?_)
                refine q_ci (pc' := 149) Bh_26 (hp_runV (As := [.int x_29]) (rest := []) C Bh_26 (t_X11_answer Γ l αh_26 Bh_26.2.2.1 a0 (cw_k Bh_26.2.2 k0) x_29) lb_X11_answer lv_X11_answer lk_X11_115 (cw_k Bh_26.2.2 k0) rfl (by decide) rfl hl.1 rfl (Nat.le_of_ble_eq_true rfl) dX11_forge_146 ⟨Nat.le_refl _, Nat.le_refl _⟩) (fun _ _ h => cw_tr Bh_26.2.2 h (by decide)) rfl (fun rh_30 αh_30 Hh_30 Lh_30 ph_30 Bh_30 => ?_)
                exact q_iret C Bh_30 hr hlk Bh_30.2.2 dX11_forge_149
              ·
                have jc_28 := il_eq c_28
                refine lv_aload_n hx hb dX11_forge_132 rfl (lv_at hl 1 rfl) (hp_n (n := 133) rfl ?_)
                refine lv_iconst (v := 5) hx hb dX11_forge_133 (by decide) (hp_n (n := 134) rfl ?_)
                refine q_ci (pc' := 137) Bh_26 (hp_runV (As := [.int 5]) (rest := []) C Bh_26 (t_X11_refuse Γ l αh_26 Bh_26.2.2.1 a0 (cw_k Bh_26.2.2 k0) 5) lb_X11_refuse lv_X11_refuse lk_X11_98 (cw_k Bh_26.2.2 k0) rfl (by decide) rfl hl.1 rfl (Nat.le_of_ble_eq_true rfl) dX11_forge_134 ⟨Nat.le_refl _, Nat.le_refl _⟩) (fun _ _ h => cw_tr Bh_26.2.2 h (by decide)) rfl (fun rh_31 αh_31 Hh_31 Lh_31 ph_31 Bh_31 => ?_)
                refine lv_goto (tgt := 149) hx hb dX11_forge_137 (by decide) ?_
                exact q_iret C Bh_31 hr hlk Bh_31.2.2 dX11_forge_149
            ·
              have jc_19 := il_nlt c_19
              exact J74 Hh_11 Lh_11 Bh_11 ls (lv_sub hl [0] rfl)
        ·
          have jc_9 := il_eq c_9
          exact J30 Hh_8 Lh_8 Bh_8 ls (lv_sub hl [0] rfl)
end JN5_0
section JN5_1
/-! ===== Roots, made at the first call ===== -/
def cg (w : cw_W) (α β : hp_T) : Prop := GC β ∧ (∀ b, hp_K α b ≠ 0 → hp_K β b = hp_K α b) ∧ (∀ φ b, hp_K α b ≠ 0 → φ ∉ w.1 → hp_I β φ b = hp_I α φ b) ∧ (∀ φ b, hp_K α b ≠ 0 → φ ∉ w.2.1 → hp_R β φ b = hp_R α φ b) ∧ (∀ κ b j, hp_K α b ≠ 0 → κ ∉ w.2.2.1 → hp_E β κ b j = hp_E α κ b j) ∧ (∀ κ b j, hp_K α b ≠ 0 → hp_L β κ b j = hp_L α κ b j) ∧ (∀ φ b, hp_K α b ≠ 0 → φ ∉ w.2.2.2 → hp_J β φ b = hp_J α φ b) ∧ ∀ κ b j, hp_K α b ≠ 0 → hp_Q β κ b j = hp_Q α κ b j
theorem cg_cw {w : cw_W} {α β : hp_T} (h : cw w α β) : cg w α β := by
  obtain ⟨h0, h1, h2, h3, h4, h5, h6, h7, h8⟩ := h
  exact ⟨h0, fun b _ => by rw [h1], fun φ b _ hφ => by rw [h5 φ hφ], fun φ b _ hφ => by rw [h6 φ hφ], fun κ b j _ hκ => by rw [h7 κ hκ], fun κ b j _ => by rw [h4], fun φ b _ hφ => by rw [h8 φ hφ], fun κ b j _ => by rw [h3]⟩
theorem cg_tr {v w : cw_W} {α β γ : hp_T} (h : cg w α β) (g : cg v β γ) (hs : cw_sub v w = true) : cg w α γ := by
  simp only [cw_sub, Bool.and_eq_true] at hs
  obtain ⟨⟨⟨s1, s2⟩, s3⟩, s4⟩ := hs
  obtain ⟨h0, h1, h2, h3, h4, h5, h6, h7⟩ := h
  obtain ⟨g0, g1, g2, g3, g4, g5, g6, g7⟩ := g
  have hk : ∀ b, hp_K α b ≠ 0 → hp_K β b ≠ 0 := fun b hb => by rw [h1 b hb]; exact hb
  exact ⟨g0, fun b hb => (g1 b (hk b hb)).trans (h1 b hb), fun φ b hb hφ => (g2 φ b (hk b hb) (cw_in s1 hφ)).trans (h2 φ b hb hφ), fun φ b hb hφ => (g3 φ b (hk b hb) (cw_in s2 hφ)).trans (h3 φ b hb hφ), fun κ b j hb hκ => (g4 κ b j (hk b hb) (cw_in s3 hκ)).trans (h4 κ b j hb hκ), fun κ b j hb => (g5 κ b j (hk b hb)).trans (h5 κ b j hb), fun φ b hb hφ => (g6 φ b (hk b hb) (cw_in s4 hφ)).trans (h6 φ b hb hφ), fun κ b j hb => (g7 κ b j (hk b hb)).trans (h7 κ b j hb)⟩
theorem cg_sa {w : cw_W} {α β : hp_T} (g : GC β) (h : ∀ b, hp_K α b ≠ 0 → sa α β b) : cg w α β :=
  ⟨g, fun b hb => (h b hb).1, fun φ b hb _ => (h b hb).2.1 φ, fun φ b hb _ => (h b hb).2.2.2.1 φ, fun κ b j hb _ => (h b hb).2.2.2.2.2.1 κ j, fun κ b j hb => (h b hb).2.2.2.2.2.2.1 κ j, fun φ b hb _ => (h b hb).2.2.1 φ, fun κ b j hb => (h b hb).2.2.2.2.2.2.2 κ j⟩
theorem cg_sN {w : cw_W} {α : hp_T} {φ a : Nat} {x : Option Nat} (g : GC (hp_sN α φ a x)) : cg w α (hp_sN α φ a x) :=
  ⟨g, fun b _ => rfl, fun _ b _ _ => rfl, fun _ b _ _ => rfl, fun κ b j _ _ => rfl, fun κ b j _ => rfl, fun _ b _ _ => rfl, fun κ b j _ => rfl⟩
theorem gc_sN5 {α : hp_T} {a x : Nat} (g : GC α) (hx : hp_K α x = 5) : GC (hp_sN α 618 a (some x)) := by
  refine ⟨g.1, g.2.1, fun b c hb hc => ?_, g.2.2.2⟩
  by_cases e : b = a
  · subst e
    rw [sN_at] at hc
    cases hc
    exact hx
  · rw [show hp_N (hp_sN α 618 a (some x)) 618 b = hp_N α 618 b by simp [hp_N, hp_sN, hp_up, e]] at hc
    exact g.2.2.1 b c hb hc
set_option maxRecDepth 100000 in
set_option maxHeartbeats 4000000 in
theorem t_X11_preparedRoots_N (Γ : hp_G) (l : Launch) (α : hp_T) (g : GC α) (a0 : Nat) (k0 : hp_K α a0 = 12) (hN : hp_N α 618 a0 = none) : Met l yX11_preparedRoots (hp_ws yX11_preparedRoots cX11_preparedRoots 1 (some (.object "ProvenRecord$Roots"))) (hp_rm 3 9 131316) (hp_Pc Γ α [.ref a0]) (hp_Qq Γ (fun r β => ∃ b0, r = some b0 ∧ cg w_X4_prepare α β ∧ hp_K β b0 = 5 ∧ hp_N β 618 a0 = some b0)) 9 131316 (hp_A Γ) := by
  refine hp_start (by decide) ?_
  intro p e s m below meth c C hr hlk B hnm
  have C : hp_C Γ p m c cX11_preparedRoots 1 s ([.ref a0] : List Value).toArray RX11 := C
  have hx := C.1.1
  have hb := C.1.2.1
  have hown := C.1.2.2.2.1
  have hts := C.1.2.2.2.2
  have hl := lv_entry ([.ref a0]) (n := 1) (Nat.le_of_ble_eq_true rfl)
  rw [lg_entry_eq]
  generalize (lg_sl ([.ref a0]) ++ List.replicate (1 - (lg_sl ([.ref a0])).length) Slot.unset).toArray = ls at hl ⊢
  have hl : lv_has ls 1 [(0, .ref a0)] := hl
  refine lv_aload_n hx hb dX11_preparedRoots_0 rfl (lv_at hl 0 rfl) (hp_n (n := 1) rfl ?_)
  refine q_get (v := .null) (κ := 12) (k := 18) (t := 3) (pc' := 4) C B k0 fl_X11_90 rfl rfl (by show va_rf (hp_N α 618 a0) = _; rw [hN]; rfl) dX11_preparedRoots_1 rfl ?_
  refine lv_ifnonnullN hx hb dX11_preparedRoots_4 (hp_n (n := 7) rfl ?_)
  refine lv_aload_n hx hb dX11_preparedRoots_7 rfl (lv_at hl 0 rfl) (hp_n (n := 8) rfl ?_)
  refine q_new (κ := 5) (N := 11) (pc' := 11) C B cl_X11_368 it_X4 iz_X4 rfl in_5 tyX4_ok df_5 (by decide) rfl rfl rfl (by omega) (by omega) dX11_preparedRoots_8 rfl (fun _ _ => trivial) (fun β1 h H1 f1 e1 B1 => ?_)
  have g1 : GC β1 := by rw [e1]; exact gc_nw g f1 (by decide)
  have k1 : hp_K β1 h = 105 := by rw [e1]; exact nw_k
  have z1 : ∀ φ, hp_I β1 φ h = 0 := fun φ => by rw [e1]; exact nw_i
  have s1 : ∀ b, hp_K α b ≠ 0 → b ≠ h ∧ sa α β1 b := fun b hb => by
    have hne : b ≠ h := fun q => hb (by rw [q]; exact f1)
    exact ⟨hne, by rw [e1]; exact sa_nw hne⟩
  refine lv_dup hx hb dX11_preparedRoots_11 rfl (hp_n (n := 12) rfl ?_)
  refine q_cv (pc' := 15) B1 (hp_runI (As := []) (rest := [.ref h, .ref a0]) C B1 (t_X4_init Γ l β1 g1 h k1 z1) lb_X4_init rfl li_X4_init lk_X11_474 rfl (by decide) rfl hl.1 rfl (Nat.le_of_ble_eq_true rfl) dX11_preparedRoots_12 ⟨by omega, by omega⟩) (fun _ _ => trivial) rfl (fun β2 H2 L2 p2 B2 => ?_)
  have s2 : ∀ b, hp_K α b ≠ 0 → sa α β2 b := fun b hb => by
    obtain ⟨h1, h2⟩ := s1 b hb
    exact sa_tr h2 (p2.1.2 b h1 (by rw [h2.1]; exact hb))
  have ka2 : hp_K β2 a0 = 12 := (s2 a0 (by rw [k0]; decide)).1.trans k0
  refine q_putn (κ := 12) (k := 18) (φ := 618) (pc' := 18) C B2 ka2 fl_X11_90 rfl rfl rfl rfl rfl rfl trivial dX11_preparedRoots_15 rfl (fun β3 H3 L3 e3 B3 => ?_)
  have g3 : GC β3 := by rw [e3]; exact gc_sN5 p2.1.1 p2.2.1
  have n3 : hp_N β3 618 a0 = some h := by rw [e3]; exact sN_at
  have ka3 : hp_K β3 a0 = 12 := by rw [e3]; exact ka2
  have kh3 : hp_K β3 h = 5 := by rw [e3]; exact p2.2.1
  have c3 : cg w_X4_prepare α β3 := cg_tr (v := w_X4_prepare) (cg_sa p2.1.1 s2) (by rw [e3]; exact cg_sN (by rw [← e3]; exact g3)) (by decide)
  refine lv_aload_n hx hb dX11_preparedRoots_18 rfl (lv_at hl 0 rfl) (hp_n (n := 19) rfl ?_)
  refine q_get (v := .ref h) (κ := 12) (k := 18) (t := 3) (pc' := 22) C B3 ka3 fl_X11_90 rfl rfl (by show va_rf (hp_N β3 618 a0) = _; rw [n3]; rfl) dX11_preparedRoots_19 rfl ?_
  refine lv_aload_n hx hb dX11_preparedRoots_22 rfl (lv_at hl 0 rfl) (hp_n (n := 23) rfl ?_)
  have kw : hp_K β3 (hp_R β3 601 a0) = 11 := by
    rcases g3.2.1 601 a0 (by rw [ka3]) (by decide) with q | q
    · exact q
    · exact absurd q.1 (by decide)
  refine q_get (v := .ref (hp_R β3 601 a0)) (κ := 12) (k := 1) (t := 1) (pc' := 26) C B3 ka3 fl_X11_16 rfl rfl rfl dX11_preparedRoots_23 rfl ?_
  refine q_geti (κ := 11) (k := 0) (φ := 550) (pc' := 29) C B3 kw fl_X11_122 rfl rfl rfl dX11_preparedRoots_26 rfl (fun x ex => ?_)
  refine q_cv (pc' := 32) B3 (hp_runV (As := [.int x]) (rest := []) C B3 (t_X4_prepare Γ l β3 g3 h kh3 x) lb_X4_prepare lv_X4_prepare lk_X11_475 kh3 rfl (by decide) rfl hl.1 rfl (Nat.le_of_ble_eq_true rfl) dX11_preparedRoots_29 ⟨by omega, by omega⟩) (fun _ _ => trivial) rfl (fun β4 H4 L4 p4 B4 => ?_)
  have n4 : hp_N β4 618 a0 = some h := by rw [p4.2.2.1]; exact n3
  have ka4 : hp_K β4 a0 = 12 := by rw [p4.2.1]; exact ka3
  refine lv_aload_n hx hb dX11_preparedRoots_32 rfl (lv_at hl 0 rfl) (hp_n (n := 33) rfl ?_)
  refine q_get (v := .ref h) (κ := 12) (k := 18) (t := 3) (pc' := 36) C B4 ka4 fl_X11_90 rfl rfl (by show va_rf (hp_N β4 618 a0) = _; rw [n4]; rfl) dX11_preparedRoots_33 rfl ?_
  refine W.widen (k := 9) (n := 131316) (by omega) (by omega) ?_
  exact q_aret (x := some h) C B4 hr hlk ⟨h, rfl, cg_tr c3 (cg_cw p4) (by decide), by rw [p4.2.1]; exact kh3, n4⟩ dX11_preparedRoots_36
end JN5_1
section JN5_2
/-! ===== what a call made, told by the heap itself ===== -/
def zs (H H1 : Heap) : Prop := H1.toList.map (fun c => c.slots.size) = H.toList.map (fun c => c.slots.size)
def hp_PcH (Γ : hp_G) (α : hp_T) (Hs : Heap) (av : List Value) : Array Value → State → Prop := va_Pc av (fun U => U.heap = Hs ∧ hp_Rep Γ α U.heap ∧ hp_KK Γ U)
/-- behind it: nothing was made, or Roots are there -/
def hp_Bz (Γ : hp_G) (Hs : Heap) (a0 : Nat) (β : hp_T) (t : State) : Prop := hp_Rep Γ β t.heap ∧ (hp_N β 618 a0 = none → zs Hs t.heap)
theorem hp_blindH (Γ : hp_G) (α : hp_T) (Hs : Heap) (av : List Value) : FrameBlind (hp_PcH Γ α Hs av) := fun a U g mk q => by
  obtain ⟨q0, qz, qR, qK, qN, qT⟩ := q
  exact ⟨q0, qz, qR, va_K.moved (u := U) (U := U.calling g mk a) (Vm.Alike.refl U.vm) qK, fun w hw => hp_Nw.same (s := U) (U := U.calling g mk a) (List.mem_filter.mp hw).2 rfl (qN w hw), hp_TX.same (s := U) (U := U.calling g mk a) rfl qT⟩
theorem hp_startH {l : Launch} {Γ : hp_G} {α : hp_T} {Hs : Heap} {bytes : ByteArray} {maxL d mc ms : Nat} {ret : Option FieldType} {y : MethodName} {Qc : Array Value → State → Outcome → State → Prop} {av : List Value} (hy : plainName y.cls = true)
    (body : ∀ p e s m below meth c, hp_C Γ p m c bytes maxL s av.toArray y.cls → meth.sig.returnType = ret → meth.locks = false → hp_B Γ (fun _ _ => True) s α α s.heap [] → s.heap = Hs →
      W p l e (hp_rm d mc ms) s m av.toArray below meth c s.heap [] 0 0 (MQ below Qc av.toArray s mc ms (hp_A Γ)) (entryFrame m av.toArray maxL)) : Met l y (hp_ws y bytes maxL ret) (hp_rm d mc ms) (hp_PcH Γ α Hs av) Qc mc ms (hp_A Γ) := by
  refine Met.ofW (cc := bytes) (maxL := maxL) (ret := ret) hy rfl ?_
  intro p e s m args below meth c s₁ B hml hv
  obtain ⟨rfl, hz, hR, hK⟩ := hv
  have hts := atoms_spec (ws := hp_ws y bytes maxL ret) B.pre
  exact body p e s m below meth c ⟨⟨B.exec, B.bytes, hml, findClass_of_methodNamed B.named, fun w hw => hts w (List.mem_cons_of_mem _ hw)⟩, hK⟩ B.returns B.notSynchronized ⟨hR, va_S.rf, trivial⟩ hz
section HPZ
variable {p : Program} {l : Launch} {e : Env} {R : Room} {s : State} {m : MethodId} {args : Array Value} {below : List Frame} {meth : Method} {c : Code} {H : Heap} {locs : List Loc} {cells slots : Nat} {Q : State → Prop} {cc : ByteArray} {nL : Nat} {own : String} {Γ : hp_G} {α0 α : hp_T} {Iv : hp_T → hp_T → Prop} {pc pc' : Nat} {ls : Array Slot} {rest st : List Value} {mc ms : Nat} {x : Int32} {Hs : Heap} {a0 : Nat}
theorem zs_of {T : State} (X : Stand p l e R s m args below meth c T locs 0 0) : zs s.heap T.heap := by
  obtain ⟨-, h1, h2, -, -, h3⟩ := X.same
  have h1' : s.heap.size ≤ T.heap.size := h1
  have h2' : T.heap.size ≤ s.heap.size + 0 := h2
  unfold zs
  apply List.ext_getElem?
  intro i
  rw [List.getElem?_map, List.getElem?_map, Array.getElem?_toList, Array.getElem?_toList]
  cases hc : s.heap[i]? with
  | none =>
    have : s.heap.size ≤ i := by simpa using hc
    rw [show T.heap[i]? = none by simp; omega]
  | some c0 =>
    obtain ⟨c', k1, -, k3, -⟩ := h3 i c0 hc
    have k1' : T.heap[i]? = some c' := k1
    rw [k1']
    simp [k3]
theorem q_iretZ {post : Int32 → hp_T → Prop} (C : hp_C Γ p m c cc nL s args own) (B : hp_B Γ Iv s α0 α H locs) (hr : meth.sig.returnType = some .int) (hl : meth.locks = false) (hH : s.heap = Hs) (hp : post x α) (hdg : decode cc pc = .ok (.ireturn, 1)) : W p l e R s m args below meth c H locs 0 0 (MQ below (va_Qi post (hp_Bz Γ Hs a0) (hp_A Γ)) args s mc ms (hp_A Γ)) (F0 m pc ls [.int x]) := by
  intro T hT X
  have hz := zs_of X
  rw [hT, hH] at hz
  exact (W.widen (k := mc) (n := ms) (Nat.zero_le _) (Nat.zero_le _) (W.iret C.1.1 C.1.2.1 hr (fun _ ht _ => ⟨⟨x, α, rfl, hp, by dsimp only [hp_Bz]; rw [ht]; exact ⟨B.1, fun _ => hz⟩⟩, B.2.1.F ht⟩) B.2.1.2.2 hdg hl)) T hT X
theorem q_iretQ {post : Int32 → hp_T → Prop} {Bq : hp_T → State → Prop} (C : hp_C Γ p m c cc nL s args own) (B : hp_B Γ Iv s α0 α H locs) (hr : meth.sig.returnType = some .int) (hl : meth.locks = false) (hp : post x α) (hq : ∀ t : State, hp_Rep Γ α t.heap → Bq α t) (hdg : decode cc pc = .ok (.ireturn, 1)) : W p l e R s m args below meth c H locs cells slots (MQ below (va_Qi post Bq (hp_A Γ)) args s cells slots (hp_A Γ)) (F0 m pc ls [.int x]) :=
  W.iret C.1.1 C.1.2.1 hr (fun t ht _ => ⟨⟨x, α, rfl, hp, hq _ (by rw [ht]; exact B.1)⟩, B.2.1.F ht⟩) B.2.1.2.2 hdg hl
/-- fewer cells than were allowed, where the heap says so -/
theorem zs_narrow {T T' : State} {L : List Loc} (X : Stand p l e R s m args below meth c T locs cells slots) (X' : Stand p l e R s m args below meth c T' L (cells + mc) (slots + ms)) (hz : zs T.heap T'.heap) : Stand p l e R s m args below meth c T' L cells slots := by
  obtain ⟨-, a1, a2, -, a4, -⟩ := X.same
  obtain ⟨b0, b1, b2, b3, b4, b5⟩ := X'.same
  have a2' : T.heap.size ≤ s.heap.size + cells := a2
  have a4' : ((T.heap.toList.drop s.heap.size).map (·.slots.size)).sum ≤ slots := a4
  have hsz : T'.heap.size = T.heap.size := by
    have := congrArg List.length hz
    simpa using this
  have hsum : ((T'.heap.toList.drop s.heap.size).map (·.slots.size)) = ((T.heap.toList.drop s.heap.size).map (·.slots.size)) := by
    rw [List.map_drop, List.map_drop]
    unfold zs at hz
    rw [hz]
  refine { X' with same := ⟨b0, b1, ?_, b3, ?_, b5⟩ }
  · show T'.heap.size ≤ s.heap.size + cells
    omega
  · show ((T'.heap.toList.drop s.heap.size).map (·.slots.size)).sum ≤ slots
    rw [hsum]; exact a4'
end HPZ
end JN5_2
section JN5_3
abbrev w_X11_weak_N : cw_W := ([252, 255, 256, 258, 259, 260, 301, 453, 454, 600], [253, 254], [20, 21, 22, 23, 33, 34, 35], [])
set_option maxRecDepth 100000 in
set_option maxHeartbeats 4000000 in
theorem u_X11_forge (Γ : hp_G) (l : Launch) (α : hp_T) (g : GC α) (a0 : Nat) (k0 : hp_K α a0 = 12) (a1 : Int32) (a4 : Int32) (a5 : Int32) (b0 : Nat) (kb0 : hp_K α b0 = 5) {p : Program} {e : Env} {s : State} {m : MethodId} {below : List Frame} {meth : Method} {c : Code} {args0 : Array Value} (C : hp_C Γ p m c cX11_forge 7 s args0 RX11) (hr : meth.sig.returnType = (some .int)) (hlk : meth.locks = false) (H0 : Heap) (L0 : List Loc) (B : hp_B Γ (cw w_X11_forge_S) s α α H0 L0) (Pst : Int32 → hp_T → Prop) (Bq : hp_T → State → Prop) (hP : ∀ r β, cw w_X11_forge_S α β → Pst r β) (hq : ∀ β (t : State), cw w_X11_forge_S α β → hp_Rep Γ β t.heap → Bq β t) (ls : Array Slot) (hl : lv_has ls 7 [(0, .ref a0), (1, .int a1), (4, .int a4), (5, .int a5)]) : W p l e (hp_rm 72 9 131316) s m args0 below meth c H0 L0 9 131316 (MQ below (va_Qi Pst Bq (hp_A Γ)) args0 s 9 131316 (hp_A Γ)) (F0 m 84 ls [.ref b0]) := by
  have hx := C.1.1
  have hb := C.1.2.1
  have hown := C.1.2.2.2.1
  have hts := C.1.2.2.2.2
  have lit0 : (0 : Int32).toInt = 0 := by decide
  have lit5 : (5 : Int32).toInt = 5 := by decide
  refine lv_astore (lv' := [(6, .ref b0), (0, .ref a0), (1, .int a1), (4, .int a4), (5, .int a5)]) hx hb dX11_forge_84 hl (by decide) rfl (fun ls hl => hp_n (n := 86) rfl ?_)
  refine lv_aload hx hb dX11_forge_86 (lv_at hl 0 rfl) (hp_n (n := 88) rfl ?_)
  refine lv_aload_n hx hb dX11_forge_88 rfl (lv_at hl 1 rfl) (hp_n (n := 89) rfl ?_)
  refine q_getr (κ := 12) (k := 12) (φ := 612) (pc' := 92) C B (cw_k B.2.2 k0) fl_X11_62 rfl rfl rfl (cw_r B.2.2 k0 rfl rfl (by decide) (by decide)) dX11_forge_89 rfl (fun b_1 eb_1 kb_1 => ?_)
  refine lv_aload_n hx hb dX11_forge_92 rfl (lv_at hl 1 rfl) (hp_n (n := 93) rfl ?_)
  refine q_getr (κ := 12) (k := 3) (φ := 603) (pc' := 96) C B (cw_k B.2.2 k0) fl_X11_26 rfl rfl rfl (cw_r B.2.2 k0 rfl rfl (by decide) (by decide)) dX11_forge_93 rfl (fun b_2 eb_2 kb_2 => ?_)
  refine lv_aload_n hx hb dX11_forge_96 rfl (lv_at hl 1 rfl) (hp_n (n := 97) rfl ?_)
  refine q_gets (κ := 12) (k := 12) (φ := 612) (pc' := 100) C B (cw_k B.2.2 k0) fl_X11_62 rfl rfl rfl eb_1 dX11_forge_97 rfl ?_
  refine lv_aload_n hx hb dX11_forge_100 rfl (lv_at hl 1 rfl) (hp_n (n := 101) rfl ?_)
  refine q_getr (κ := 12) (k := 1) (φ := 601) (pc' := 104) C B (cw_k B.2.2 k0) fl_X11_16 rfl rfl rfl (cw_r B.2.2 k0 rfl rfl (by decide) (by decide)) dX11_forge_101 rfl (fun b_3 eb_3 kb_3 => ?_)
  refine q_geti (κ := 11) (k := 0) (φ := 550) (pc' := 107) C B (cw_k B.2.2 kb_3) fl_X11_122 rfl rfl rfl dX11_forge_104 rfl (fun x_4 ex_4 => ?_)
  refine lv_aload_n hx hb dX11_forge_107 rfl (lv_at hl 1 rfl) (hp_n (n := 108) rfl ?_)
  refine q_gets (κ := 12) (k := 3) (φ := 603) (pc' := 111) C B (cw_k B.2.2 k0) fl_X11_26 rfl rfl rfl eb_2 dX11_forge_108 rfl ?_
  refine lv_iload_n hx hb dX11_forge_111 rfl (lv_at hl 2 rfl) (hp_n (n := 112) rfl ?_)
  refine lv_iload hx hb dX11_forge_112 (lv_at hl 4 rfl) (hp_n (n := 114) rfl ?_)
  refine q_ci (pc' := 117) B (hp_runV (As := [.int x_4, .ref b_2, .int a1, .int a5]) (rest := [.ref b_2, .ref b_1, .ref b0]) C B (t_X8_folded Γ l α B.2.2.1 b_1 (cw_k B.2.2 kb_1) x_4 b_2 (cw_k B.2.2 kb_2) a1 a5) lb_X8_folded lv_X8_folded lk_X11_382 (cw_k B.2.2 kb_1) rfl (by decide) rfl hl.1 rfl (Nat.le_of_ble_eq_true rfl) dX11_forge_114 ⟨Nat.le_refl _, Nat.le_refl _⟩) (fun _ _ h => by rw [h]; exact B.2.2) rfl (fun rh_5 αh_5 Hh_5 Lh_5 ph_5 Bh_5 => ?_)
  rw [ph_5] at Bh_5
  refine lv_iload hx hb dX11_forge_117 (lv_at hl 3 rfl) (hp_n (n := 119) rfl ?_)
  refine lv_iload hx hb dX11_forge_119 (lv_at hl 4 rfl) (hp_n (n := 121) rfl ?_)
  refine q_cv (pc' := 124) Bh_5 (hp_runV (As := [.ref b_1, .ref b_2, .int rh_5, .int a4, .int a5]) (rest := []) C Bh_5 (t_X4_seekStep Γ l α Bh_5.2.2.1 b0 (cw_k Bh_5.2.2 kb0) b_1 (cw_k Bh_5.2.2 kb_1) b_2 (cw_k Bh_5.2.2 kb_2) rh_5 a4 a5) lb_X4_seekStep lv_X4_seekStep lk_X11_388 (cw_k Bh_5.2.2 kb0) rfl (by decide) rfl hl.1 rfl (Nat.le_of_ble_eq_true rfl) dX11_forge_121 ⟨Nat.le_refl _, Nat.le_refl _⟩) (fun _ h => cw_tr Bh_5.2.2 h (by decide)) rfl (fun αh_6 Hh_6 Lh_6 ph_6 Bh_6 => ?_)
  refine lv_aload hx hb dX11_forge_124 (lv_at hl 0 rfl) (hp_n (n := 126) rfl ?_)
  refine q_geti (κ := 5) (k := 9) (φ := 259) (pc' := 129) C Bh_6 (cw_k Bh_6.2.2 kb0) fl_X11_373 rfl rfl rfl dX11_forge_126 rfl (fun x_7 ex_7 => ?_)
  refine lv_if_ne (tgt := 140) hx hb dX11_forge_129 (by decide) (fun c_8 => ?_) (fun c_8 => hp_n (n := 132) rfl ?_)
  ·
    have jc_8 := il_ne c_8
    refine lv_aload_n hx hb dX11_forge_140 rfl (lv_at hl 1 rfl) (hp_n (n := 141) rfl ?_)
    refine lv_aload hx hb dX11_forge_141 (lv_at hl 0 rfl) (hp_n (n := 143) rfl ?_)
    refine q_geti (κ := 5) (k := 10) (φ := 260) (pc' := 146) C Bh_6 (cw_k Bh_6.2.2 kb0) fl_X11_376 rfl rfl rfl dX11_forge_143 rfl (fun x_9 ex_9 => ?_)
    refine q_ci (pc' := 149) Bh_6 (hp_runV (As := [.int x_9]) (rest := []) C Bh_6 (t_X11_answer Γ l αh_6 Bh_6.2.2.1 a0 (cw_k Bh_6.2.2 k0) x_9) lb_X11_answer lv_X11_answer lk_X11_115 (cw_k Bh_6.2.2 k0) rfl (by decide) rfl hl.1 rfl (Nat.le_of_ble_eq_true rfl) dX11_forge_146 ⟨Nat.le_refl _, Nat.le_refl _⟩) (fun _ _ h => cw_tr Bh_6.2.2 h (by decide)) rfl (fun rh_10 αh_10 Hh_10 Lh_10 ph_10 Bh_10 => ?_)
    exact q_iretQ C Bh_10 hr hlk (hP _ _ Bh_10.2.2) (fun t ht => hq _ t Bh_10.2.2 ht) dX11_forge_149
  ·
    have jc_8 := il_eq c_8
    refine lv_aload_n hx hb dX11_forge_132 rfl (lv_at hl 1 rfl) (hp_n (n := 133) rfl ?_)
    refine lv_iconst (v := 5) hx hb dX11_forge_133 (by decide) (hp_n (n := 134) rfl ?_)
    refine q_ci (pc' := 137) Bh_6 (hp_runV (As := [.int 5]) (rest := []) C Bh_6 (t_X11_refuse Γ l αh_6 Bh_6.2.2.1 a0 (cw_k Bh_6.2.2 k0) 5) lb_X11_refuse lv_X11_refuse lk_X11_98 (cw_k Bh_6.2.2 k0) rfl (by decide) rfl hl.1 rfl (Nat.le_of_ble_eq_true rfl) dX11_forge_134 ⟨Nat.le_refl _, Nat.le_refl _⟩) (fun _ _ h => cw_tr Bh_6.2.2 h (by decide)) rfl (fun rh_11 αh_11 Hh_11 Lh_11 ph_11 Bh_11 => ?_)
    refine lv_goto (tgt := 149) hx hb dX11_forge_137 (by decide) ?_
    exact q_iretQ C Bh_11 hr hlk (hP _ _ Bh_11.2.2) (fun t ht => hq _ t Bh_11.2.2 ht) dX11_forge_149
abbrev w_X11_forge_N : cw_W := ([252, 255, 256, 257, 258, 259, 260, 453, 454, 600], [253, 254], [21, 22, 23, 34, 35], [])
set_option maxRecDepth 100000 in
set_option maxHeartbeats 4000000 in
theorem t_X11_forge_N (Γ : hp_G) (l : Launch) (α : hp_T) (g : GC α) (Hs : Heap) (a0 : Nat) (k0 : hp_K α a0 = 12) (a1 : Int32) (a2 : Int32) (a3 : Int32) (a4 : Int32) (a5 : Int32) (hN : hp_N α 618 a0 = none) : Met l yX11_forge (hp_ws yX11_forge cX11_forge 7 (some .int)) (hp_rm 72 9 131316) (hp_PcH Γ α Hs [.ref a0, .int a1, .int a2, .int a3, .int a4, .int a5]) (va_Qi (fun r β => cg w_X11_forge_S α β) (hp_Bz Γ Hs a0) (hp_A Γ)) 9 131316 (hp_A Γ) := by
  refine hp_startH (by decide) ?_
  intro p e s m below meth c C hr hlk B0 hHs
  have C : hp_C Γ p m c cX11_forge 7 s ([.ref a0, .int a1, .int a2, .int a3, .int a4, .int a5] : List Value).toArray RX11 := C
  have hx := C.1.1
  have hb := C.1.2.1
  have hown := C.1.2.2.2.1
  have hts := C.1.2.2.2.2
  have B : hp_B Γ (cw w_X11_forge_N) s α α s.heap [] := ⟨B0.1, B0.2.1, cw_rf g⟩
  have lit0 : (0 : Int32).toInt = 0 := by decide
  have lit1 : (1 : Int32).toInt = 1 := by decide
  have lit5 : (5 : Int32).toInt = 5 := by decide
  have hl := lv_entry ([.ref a0, .int a1, .int a2, .int a3, .int a4, .int a5]) (n := 7) (Nat.le_of_ble_eq_true rfl)
  show W p l e (hp_rm 72 9 131316) s m ([.ref a0, .int a1, .int a2, .int a3, .int a4, .int a5] : List Value).toArray below meth c s.heap [] 0 0 (MQ below (va_Qi (fun r β => cg w_X11_forge_S α β) (hp_Bz Γ Hs a0) (hp_A Γ)) ([.ref a0, .int a1, .int a2, .int a3, .int a4, .int a5] : List Value).toArray s 9 131316 (hp_A Γ)) (entryFrame m ([.ref a0, .int a1, .int a2, .int a3, .int a4, .int a5] : List Value).toArray 7)
  rw [lg_entry_eq]
  generalize (lg_sl ([.ref a0, .int a1, .int a2, .int a3, .int a4, .int a5]) ++ List.replicate (7 - (lg_sl ([.ref a0, .int a1, .int a2, .int a3, .int a4, .int a5])).length) Slot.unset).toArray = ls at hl ⊢
  have hl : lv_has ls 7 [(0, .ref a0), (1, .int a1), (2, .int a2), (3, .int a3), (4, .int a4), (5, .int a5)] := hl
  refine lv_iload_n hx hb dX11_forge_0 rfl (lv_at hl 2 rfl) (hp_n (n := 1) rfl ?_)
  refine lv_iload_n hx hb dX11_forge_1 rfl (lv_at hl 3 rfl) (hp_n (n := 2) rfl ?_)
  refine q_ci (pc' := 5) B (hp_runS (As := [.int a2, .int a3]) (rest := []) C B (t_X11_isThing Γ l α B.2.2.1 a2 a3) lb_X11_isThing ls_X11_isThing lk_X11_301 rfl (by decide) rfl hl.1 rfl (Nat.le_of_ble_eq_true rfl) dX11_forge_2 ⟨Nat.zero_le _, Nat.zero_le _⟩) (fun _ _ h => by rw [h.1]; exact B.2.2) rfl (fun rh_1 αh_1 Hh_1 Lh_1 ph_1 Bh_1 => ?_)
  rw [ph_1.1] at Bh_1
  have zh_1 := ph_1.2
  have J30 : ∀ (Hh_2 : Heap) (Lh_2 : List Loc) (Bh_2 : hp_B Γ (cw w_X11_forge_N) s α α Hh_2 Lh_2) (ls : Array Slot) (hl : lv_has ls 7 [(0, .ref a0)]), W p l e (hp_rm 72 9 131316) s m ([.ref a0, .int a1, .int a2, .int a3, .int a4, .int a5] : List Value).toArray below meth c Hh_2 Lh_2 0 0 (MQ below (va_Qi (fun r β => cg w_X11_forge_S α β) (hp_Bz Γ Hs a0) (hp_A Γ)) ([.ref a0, .int a1, .int a2, .int a3, .int a4, .int a5] : List Value).toArray s 9 131316 (hp_A Γ)) (F0 m 30 ls []) := by
    intro Hh_2 Lh_2 Bh_2 ls hl
    refine lv_aload_n hx hb dX11_forge_30 rfl (lv_at hl 0 rfl) (hp_n (n := 31) rfl ?_)
    refine lv_iconst (v := 1) hx hb dX11_forge_31 (by decide) (hp_n (n := 32) rfl ?_)
    refine q_ci (pc' := 35) Bh_2 (hp_runV (As := [.int 1]) (rest := []) C Bh_2 (t_X11_refuse Γ l α Bh_2.2.2.1 a0 (cw_k Bh_2.2.2 k0) 1) lb_X11_refuse lv_X11_refuse lk_X11_98 (cw_k Bh_2.2.2 k0) rfl (by decide) rfl hl.1 rfl (Nat.le_of_ble_eq_true rfl) dX11_forge_32 ⟨Nat.zero_le _, Nat.zero_le _⟩) (fun _ _ h => cw_tr Bh_2.2.2 h (by decide)) rfl (fun rh_3 αh_3 Hh_3 Lh_3 ph_3 Bh_3 => ?_)
    exact q_iretZ C Bh_3 hr hlk hHs (cg_cw Bh_3.2.2) dX11_forge_35
  refine lv_if_eq (tgt := 30) hx hb dX11_forge_5 (by decide) (fun c_4 => ?_) (fun c_4 => hp_n (n := 8) rfl ?_)
  ·
    have jc_4 := il_eq c_4
    exact J30 Hh_1 Lh_1 Bh_1 ls (lv_sub hl [0] rfl)
  ·
    have jc_4 := il_ne c_4
    refine lv_iload hx hb dX11_forge_8 (lv_at hl 5 rfl) (hp_n (n := 10) rfl ?_)
    refine lv_if_lt (tgt := 30) hx hb dX11_forge_10 (by decide) (fun c_5 => ?_) (fun c_5 => hp_n (n := 13) rfl ?_)
    ·
      have jc_5 := il_lt c_5
      exact J30 Hh_1 Lh_1 Bh_1 ls (lv_sub hl [0] rfl)
    ·
      have jc_5 := il_nlt c_5
      refine lv_aload_n hx hb dX11_forge_13 rfl (lv_at hl 0 rfl) (hp_n (n := 14) rfl ?_)
      refine lv_iload_n hx hb dX11_forge_14 rfl (lv_at hl 1 rfl) (hp_n (n := 15) rfl ?_)
      refine q_ci (pc' := 18) Bh_1 (hp_runV (As := [.int a1]) (rest := []) C Bh_1 (t_X11_isMark Γ l α Bh_1.2.2.1 a0 (cw_k Bh_1.2.2 k0) a1) lb_X11_isMark lv_X11_isMark lk_X11_188 (cw_k Bh_1.2.2 k0) rfl (by decide) rfl hl.1 rfl (Nat.le_of_ble_eq_true rfl) dX11_forge_15 ⟨Nat.zero_le _, Nat.zero_le _⟩) (fun _ _ h => by rw [h.1]; exact Bh_1.2.2) rfl (fun rh_6 αh_6 Hh_6 Lh_6 ph_6 Bh_6 => ?_)
      rw [ph_6.1] at Bh_6
      have zh_6 := ph_6.2
      refine lv_if_eq (tgt := 30) hx hb dX11_forge_18 (by decide) (fun c_7 => ?_) (fun c_7 => hp_n (n := 21) rfl ?_)
      ·
        have jc_7 := il_eq c_7
        exact J30 Hh_6 Lh_6 Bh_6 ls (lv_sub hl [0] rfl)
      ·
        have jc_7 := il_ne c_7
        refine lv_aload_n hx hb dX11_forge_21 rfl (lv_at hl 0 rfl) (hp_n (n := 22) rfl ?_)
        refine lv_iload hx hb dX11_forge_22 (lv_at hl 4 rfl) (hp_n (n := 24) rfl ?_)
        refine q_ci (pc' := 27) Bh_6 (hp_runV (As := [.int a4]) (rest := []) C Bh_6 (t_X11_isMark Γ l α Bh_6.2.2.1 a0 (cw_k Bh_6.2.2 k0) a4) lb_X11_isMark lv_X11_isMark lk_X11_188 (cw_k Bh_6.2.2 k0) rfl (by decide) rfl hl.1 rfl (Nat.le_of_ble_eq_true rfl) dX11_forge_24 ⟨Nat.zero_le _, Nat.zero_le _⟩) (fun _ _ h => by rw [h.1]; exact Bh_6.2.2) rfl (fun rh_8 αh_8 Hh_8 Lh_8 ph_8 Bh_8 => ?_)
        rw [ph_8.1] at Bh_8
        have zh_8 := ph_8.2
        refine lv_if_ne (tgt := 36) hx hb dX11_forge_27 (by decide) (fun c_9 => ?_) (fun c_9 => hp_n (n := 30) rfl ?_)
        ·
          have jc_9 := il_ne c_9
          refine lv_aload_n hx hb dX11_forge_36 rfl (lv_at hl 0 rfl) (hp_n (n := 37) rfl ?_)
          refine q_getr (κ := 12) (k := 12) (φ := 612) (pc' := 40) C Bh_8 (cw_k Bh_8.2.2 k0) fl_X11_62 rfl rfl rfl (cw_r Bh_8.2.2 k0 rfl rfl (by decide) (by decide)) dX11_forge_37 rfl (fun b_10 eb_10 kb_10 => ?_)
          refine lv_iload_n hx hb dX11_forge_40 rfl (lv_at hl 2 rfl) (hp_n (n := 41) rfl ?_)
          refine lv_iload_n hx hb dX11_forge_41 rfl (lv_at hl 3 rfl) (hp_n (n := 42) rfl ?_)
          refine q_cv (pc' := 45) Bh_8 (hp_runV (As := [.int a2, .int a3]) (rest := []) C Bh_8 (t_X8_toThing Γ l α Bh_8.2.2.1 b_10 (cw_k Bh_8.2.2 kb_10) a2 a3) lb_X8_toThing lv_X8_toThing lk_X11_267 (cw_k Bh_8.2.2 kb_10) rfl (by decide) rfl hl.1 rfl (Nat.le_of_ble_eq_true rfl) dX11_forge_42 ⟨Nat.zero_le _, Nat.zero_le _⟩) (fun _ h => cw_tr Bh_8.2.2 h (by decide)) rfl (fun αh_11 Hh_11 Lh_11 ph_11 Bh_11 => ?_)
          refine lv_aload_n hx hb dX11_forge_45 rfl (lv_at hl 0 rfl) (hp_n (n := 46) rfl ?_)
          refine q_getr (κ := 12) (k := 3) (φ := 603) (pc' := 49) C Bh_11 (cw_k Bh_11.2.2 k0) fl_X11_26 rfl rfl rfl (cw_r Bh_11.2.2 k0 rfl rfl (by decide) (by decide)) dX11_forge_46 rfl (fun b_12 eb_12 kb_12 => ?_)
          refine q_geti (κ := 6) (k := 1) (φ := 301) (pc' := 52) C Bh_11 (cw_k Bh_11.2.2 kb_12) fl_X11_132 rfl rfl rfl dX11_forge_49 rfl (fun x_13 ex_13 => ?_)
          refine lv_aload_n hx hb dX11_forge_52 rfl (lv_at hl 0 rfl) (hp_n (n := 53) rfl ?_)
          have t_14 : b_10 = hp_R αh_11 612 a0 := by rw [cw_R ph_11 a0 (by decide)]; exact eb_10
          refine q_gets (κ := 12) (k := 12) (φ := 612) (pc' := 56) C Bh_11 (cw_k Bh_11.2.2 k0) fl_X11_62 rfl rfl rfl t_14 dX11_forge_53 rfl ?_
          refine q_geti (κ := 9) (k := 3) (φ := 453) (pc' := 59) C Bh_11 (cw_k Bh_11.2.2 kb_10) fl_X11_312 rfl rfl rfl dX11_forge_56 rfl (fun x_15 ex_15 => ?_)
          obtain ⟨gx_15a, gx_15b⟩ : 0 ≤ x_15.toInt ∧ x_15.toInt ≤ 64 := by rw [ex_15]; exact Bh_11.2.2.1.1 453 b_10 rfl
          have J74 : ∀ (Hh_16 : Heap) (Lh_16 : List Loc) (Bh_16 : hp_B Γ (cw w_X11_forge_N) s α αh_11 Hh_16 Lh_16) (ls : Array Slot) (hl : lv_has ls 7 [(0, .ref a0)]), W p l e (hp_rm 72 9 131316) s m ([.ref a0, .int a1, .int a2, .int a3, .int a4, .int a5] : List Value).toArray below meth c Hh_16 Lh_16 0 0 (MQ below (va_Qi (fun r β => cg w_X11_forge_S α β) (hp_Bz Γ Hs a0) (hp_A Γ)) ([.ref a0, .int a1, .int a2, .int a3, .int a4, .int a5] : List Value).toArray s 9 131316 (hp_A Γ)) (F0 m 74 ls []) := by
            intro Hh_16 Lh_16 Bh_16 ls hl
            refine lv_aload_n hx hb dX11_forge_74 rfl (lv_at hl 0 rfl) (hp_n (n := 75) rfl ?_)
            refine lv_iconst (v := 5) hx hb dX11_forge_75 (by decide) (hp_n (n := 76) rfl ?_)
            refine q_ci (pc' := 79) Bh_16 (hp_runV (As := [.int 5]) (rest := []) C Bh_16 (t_X11_refuse Γ l αh_11 Bh_16.2.2.1 a0 (cw_k Bh_16.2.2 k0) 5) lb_X11_refuse lv_X11_refuse lk_X11_98 (cw_k Bh_16.2.2 k0) rfl (by decide) rfl hl.1 rfl (Nat.le_of_ble_eq_true rfl) dX11_forge_76 ⟨Nat.zero_le _, Nat.zero_le _⟩) (fun _ _ h => cw_tr Bh_16.2.2 h (by decide)) rfl (fun rh_17 αh_17 Hh_17 Lh_17 ph_17 Bh_17 => ?_)
            exact q_iretZ C Bh_17 hr hlk hHs (cg_cw Bh_17.2.2) dX11_forge_79
          refine lv_icmp_ne (tgt := 74) hx hb dX11_forge_59 (by decide) (fun c_18 => ?_) (fun c_18 => hp_n (n := 62) rfl ?_)
          ·
            have jc_18 := il_ne c_18
            exact J74 Hh_11 Lh_11 Bh_11 ls (lv_sub hl [0] rfl)
          ·
            have jc_18 := il_eq c_18
            refine lv_iload hx hb dX11_forge_62 (lv_at hl 5 rfl) (hp_n (n := 64) rfl ?_)
            refine lv_aload_n hx hb dX11_forge_64 rfl (lv_at hl 0 rfl) (hp_n (n := 65) rfl ?_)
            refine q_gets (κ := 12) (k := 3) (φ := 603) (pc' := 68) C Bh_11 (cw_k Bh_11.2.2 k0) fl_X11_26 rfl rfl rfl eb_12 dX11_forge_65 rfl ?_
            refine q_getj (κ := 6) (k := 1) (φ := 301) (pc' := 71) C Bh_11 (cw_k Bh_11.2.2 kb_12) fl_X11_132 rfl rfl rfl ex_13 dX11_forge_68 rfl ?_
            refine lv_icmp_lt (tgt := 80) hx hb dX11_forge_71 (by decide) (fun c_19 => ?_) (fun c_19 => hp_n (n := 74) rfl ?_)
            ·
              have jc_19 := il_lt c_19
              refine lv_aload_n hx hb dX11_forge_80 rfl (lv_at hl 0 rfl) (hp_n (n := 81) rfl ?_)
              have kaN := (cw_k Bh_11.2.2 k0)
              have BN : hp_B Γ (fun _ _ => True) s α αh_11 Hh_11 Lh_11 := ⟨Bh_11.1, Bh_11.2.1, trivial⟩
              refine q_cq (pc' := 84) BN (hp_runV (As := []) (rest := []) C BN (t_X11_preparedRoots_N Γ l αh_11 Bh_11.2.2.1 a0 kaN (by rw [Bh_11.2.2.2.2.1]; exact hN)) lb_X11_preparedRoots lv_X11_preparedRoots lk_X11_363 kaN rfl (by decide) rfl hl.1 rfl (Nat.le_of_ble_eq_true rfl) dX11_forge_81 ⟨Nat.le_refl _, Nat.le_refl _⟩) (fun _ _ _ => trivial) rfl (fun rN αN HN LN pN BM => ?_)
              obtain ⟨b0, rfl, cN, kN, nN⟩ := pN
              have ckN : ∀ b, hp_K α b ≠ 0 → hp_K αN b = hp_K α b := fun b hb => by rw [cN.2.1 b (by rw [Bh_11.2.2.2.1]; exact hb), Bh_11.2.2.2.1]
              exact u_X11_forge Γ l αN cN.1 a0 ((ckN _ (by rw [k0]; decide)).trans k0) a1 a4 a5 b0 kN C hr hlk HN LN ⟨BM.1, BM.2.1, cw_rf cN.1⟩ _ _ (fun _ _ hw => cg_tr (cg_tr (cg_cw Bh_11.2.2) cN (by decide)) (cg_cw hw) (by decide)) (fun β t hw hR => ⟨hR, fun hn => by rw [hw.2.2.1, nN] at hn; cases hn⟩) ls (lv_sub hl [0, 1, 4, 5] rfl)
            ·
              have jc_19 := il_nlt c_19
              exact J74 Hh_11 Lh_11 Bh_11 ls (lv_sub hl [0] rfl)
        ·
          have jc_9 := il_eq c_9
          exact J30 Hh_8 Lh_8 Bh_8 ls (lv_sub hl [0] rfl)
end JN5_3
section JN5_4
/-! ===== pure functions: what comes of them ===== -/
def ws {R : Type} (o : Option R) (P : R → Prop) : Prop := ∃ r, o = some r ∧ P r
section WS
variable {R A : Type} {P Q : R → Prop} {k : Option R} {i j : Int32} {n : Nat}
theorem ws_s {r : R} (h : P r) : ws (some r) P := ⟨r, rfl, h⟩
theorem ws_m {o : Option R} (h : ws o P) (g : ∀ r, P r → Q r) : ws o Q := by
  obtain ⟨r, h1, h2⟩ := h
  exact ⟨r, h1, g r h2⟩
theorem ws_g (h0 : 0 ≤ i.toInt) (h1 : i.toInt < (n : Int)) (h : ws k P) : ws (ms_g i n k) P := by
  unfold ms_g; rw [if_pos ⟨h0, h1⟩]; exact h
theorem ws_n (h0 : ¬ i = 0) (h : ws k P) : ws (ms_n i k) P := by
  unfold ms_n; rw [if_neg h0]; exact h
theorem ws_nl {i : Int64} (h0 : ¬ i = 0) (h : ws k P) : ws (ms_nl i k) P := by
  unfold ms_nl; rw [if_neg h0]; exact h
theorem ws_z (h0 : i = 0 ∨ i = 1) (h : ws k P) : ws (ms_z i k) P := by
  unfold ms_z; rw [if_pos h0]; exact h
theorem ws_q (h0 : 0 ≤ i.toInt) (h1 : i.toInt < j.toInt) (h : ws k P) : ws (ms_q i j k) P := by
  unfold ms_q; rw [if_pos ⟨h0, h1⟩]; exact h
theorem ws_l {v : A} {k : A → Option R} (h : ws (k v) P) : ws (ms_l v k) P := h
theorem ws_ln {v : A} {k : A → Option R} (h : ∀ x, x = v → ws (k x) P) : ws (ms_l v k) P := h v rfl
theorem ws_b {x : Option A} {k : A → Option R} {S : A → Prop} (h : ws x S) (g : ∀ a, S a → ws (k a) P) : ws (ms_b x k) P := by
  obtain ⟨a, h1, h2⟩ := h
  unfold ms_b; rw [h1]; exact g a h2
theorem ws_c {x : Option (A × ms_T)} {k : A → ms_T → Option R} {S : A × ms_T → Prop} (h : ws x S) (g : ∀ a τ, S (a, τ) → ws (k a τ) P) : ws (ms_c x k) P := by
  obtain ⟨a, h1, h2⟩ := h
  unfold ms_c; rw [h1]; exact g a.1 a.2 h2
theorem ws_i {c : Prop} [Decidable c] {a b : Option R} (h : c → ws a P) (g : ¬ c → ws b P) : ws (if c then a else b) P := by
  by_cases e : c
  · rw [if_pos e]; exact h e
  · rw [if_neg e]; exact g e
theorem ws_lt {a b : Option R} (h : i.toInt < j.toInt → ws a P) (g : j.toInt ≤ i.toInt → ws b P) : ws (if i < j then a else b) P := ws_i (fun e => h (il_lt e)) (fun e => g (il_nlt e))
theorem ws_le {a b : Option R} (h : i.toInt ≤ j.toInt → ws a P) (g : j.toInt < i.toInt → ws b P) : ws (if i ≤ j then a else b) P := ws_i (fun e => h (il_le e)) (fun e => g (il_nle e))
theorem ws_e {a b : Option R} (h : i = j → ws a P) (g : ¬ i.toInt = j.toInt → ws b P) : ws (if i = j then a else b) P := ws_i h (fun e => g (il_ne e))
end WS
theorem mI_sI {σ : ms_T} {φ ψ : Nat} {v : Int32} : ms_I (ms_sI σ φ v) ψ = if ψ = φ then v else ms_I σ ψ := rfl
theorem mI_sE {σ : ms_T} {κ j ψ : Nat} {v : Int32} : ms_I (ms_sE σ κ j v) ψ = ms_I σ ψ := rfl
theorem mI_sJ {σ : ms_T} {ψ : Nat} {v : Int64} : ms_I (ms_sJ σ v) ψ = ms_I σ ψ := rfl
theorem mE_sI {σ : ms_T} {φ κ j : Nat} {v : Int32} : ms_E (ms_sI σ φ v) κ j = ms_E σ κ j := rfl
theorem mE_sE {σ : ms_T} {κ j ψ i : Nat} {v : Int32} : ms_E (ms_sE σ κ j v) ψ i = if ψ = κ ∧ i = j then v else ms_E σ ψ i := rfl
/-- the reference's ranges: of the cells, of what counts stay between calls -/
def rC (f : Nat → Int32) : Prop := (1 ≤ (f 0).toInt ∧ (f 0).toInt ≤ 4) ∧ (101 ≤ (f 1).toInt ∧ (f 1).toInt ≤ 65521) ∧ (0 ≤ (f 2).toInt ∧ (f 2).toInt ≤ 64) ∧ (0 ≤ (f 3).toInt ∧ (f 3).toInt ≤ 16) ∧ (∀ r, r < 4 → 0 ≤ (f (72 + r)).toInt ∧ (f (72 + r)).toInt ≤ 48) ∧ (∀ w, w < 4 → 0 ≤ (f (76 + 4 * w)).toInt ∧ (f (76 + 4 * w)).toInt ≤ 48) ∧ (∀ i, i < 16 → 0 ≤ (f (92 + 10 * i)).toInt ∧ (f (92 + 10 * i)).toInt ≤ 3) ∧ (∀ i, i < 16 → 0 ≤ (f (93 + 10 * i)).toInt ∧ (f (93 + 10 * i)).toInt ≤ 48) ∧ (∀ q, q < 192 → 0 ≤ (f (252 + q)).toInt ∧ (f (252 + q)).toInt ≤ 8)
def rI (σ : ms_T) : Prop := (0 ≤ (ms_I σ 664).toInt ∧ (ms_I σ 664).toInt ≤ 8) ∧ (0 ≤ (ms_I σ 667).toInt ∧ (ms_I σ 667).toInt ≤ 900) ∧ (0 ≤ (ms_I σ 682).toInt ∧ (ms_I σ 682).toInt ≤ 20) ∧ (0 ≤ (ms_I σ 697).toInt ∧ (ms_I σ 697).toInt ≤ 900)
def RI (σ : ms_T) : Prop := rI σ ∧ rC (ms_E σ 40)
/-- clears() -/
def cl_P (σ τ : ms_T) : Prop := (∀ φ, ms_I τ φ = ms_I σ φ) ∧ (∀ κ j, κ ≠ 40 → ms_E τ κ j = ms_E σ κ j) ∧ ms_E τ 40 0 = 1 ∧ ms_E τ 40 1 = 65521 ∧ ∀ j, 2 ≤ j → j < 1980 → ms_E τ 40 j = 0
theorem cl_L (n : Nat) : ∀ (k : Nat) (σ σ0 : ms_T) (v : Int32), 0 ≤ v.toInt → v.toInt ≤ 1980 → 1980 - v.toInt < (k : Int) → (∀ φ, ms_I σ φ = ms_I σ0 φ) → (∀ κ j, κ ≠ 40 → ms_E σ κ j = ms_E σ0 κ j) → (∀ j : Nat, (j : Int) < v.toInt → ms_E σ 40 j = 0) → ws (f_X12_clears_L2 n k σ v) (cl_P σ0) := by
  intro k
  induction k with
  | zero => intro σ σ0 v h0 h1 h2; omega
  | succ k ih =>
    intro σ σ0 v h0 h1 h2 hI hE hz
    have l1 : (1980 : Int32).toInt = 1980 := by decide
    rw [f_X12_clears_L2.eq_2]
    refine ws_le (fun c => ?_) (fun c => ?_)
    · refine ws_g (by decide) (by decide) (ws_l (ws_g (by decide) (by decide) (ws_l (ws_s ?_))))
      refine ⟨fun φ => by rw [mI_sE, mI_sE]; exact hI φ, fun κ j hκ => ?_, ?_, ?_, fun j h2 h3 => ?_⟩
      · rw [mE_sE, mE_sE, if_neg (fun q => hκ q.1), if_neg (fun q => hκ q.1)]; exact hE κ j hκ
      · rw [mE_sE, mE_sE, if_neg (by decide), if_pos (by decide)]
      · rw [mE_sE, if_pos (by decide)]
      · have z0 : (0 : Int32).toNatClampNeg = 0 := by decide
        have z1 : (1 : Int32).toNatClampNeg = 1 := by decide
        rw [mE_sE, mE_sE, z0, z1, if_neg (fun q => by omega), if_neg (fun q => by omega)]
        exact hz j (by omega)
    · have hc := ic_clamp h0
      have e1 : (v + 1).toInt = v.toInt + 1 := ii_add (x := v) (y := 1) (by rw [show (1 : Int32).toInt = 1 from rfl]; omega) (by rw [show (1 : Int32).toInt = 1 from rfl]; omega)
      refine ws_g h0 (by omega) (ws_l (ws_l ?_))
      refine ih _ σ0 (v + 1) (by omega) (by omega) (by omega) (fun φ => by rw [mI_sE]; exact hI φ) (fun κ j hκ => ?_) (fun j hj => ?_)
      · rw [mE_sE, if_neg (fun q => hκ q.1)]; exact hE κ j hκ
      · rw [mE_sE]
        by_cases e : j = v.toNatClampNeg
        · rw [if_pos ⟨rfl, e⟩]
        · rw [if_neg (fun q => e q.2)]
          exact hz j (by omega)
theorem s_clears (n : Nat) (hn : 1981 ≤ n) (σ : ms_T) : ws (f_X12_clears n σ) (cl_P σ) := by
  unfold f_X12_clears
  exact cl_L n n σ σ 0 (by decide) (by decide) (by rw [show (0 : Int32).toInt = 0 from rfl]; omega) (fun _ => rfl) (fun _ _ _ => rfl) (fun j hj => by rw [show (0 : Int32).toInt = 0 from rfl] at hj; omega)
theorem cl_rC {σ τ : ms_T} (h : cl_P σ τ) : rC (ms_E τ 40) := by
  obtain ⟨-, -, h0, h1, hz⟩ := h
  have z : (0 : Int32).toInt = 0 := rfl
  refine ⟨by rw [h0]; decide, by rw [h1]; decide, by rw [hz 2 (by omega) (by omega)]; decide, by rw [hz 3 (by omega) (by omega)]; decide, fun r hr => ?_, fun r hr => ?_, fun r hr => ?_, fun r hr => ?_, fun r hr => ?_⟩
  · rw [hz _ (by omega) (by omega)]; decide
  · rw [hz _ (by omega) (by omega)]; decide
  · rw [hz _ (by omega) (by omega)]; decide
  · rw [hz _ (by omega) (by omega)]; decide
  · rw [hz _ (by omega) (by omega)]; decide
theorem gc_mo {α β : hp_T} (h : mo α β) (g : GC α) : GC β := by
  obtain ⟨h1, h2, h3, h4, h5, h6, h7⟩ := h
  obtain ⟨g1, g2, g3, g4⟩ := g
  refine ⟨fun φ a => ?_, ?_, ?_, ?_⟩
  · intro hφ
    have hφ2 : φ = 453 ∨ φ = 301 := by simpa using hφ
    rw [h6 φ (by omega)]
    exact g1 φ a hφ
  · rw [h1, h2]; exact g2
  · rw [h1, h3]; exact g3
  · rw [h1, h4]; exact g4
/-! the reference's constructor -/
def lwx (α : hp_T) (a0 : Nat) : Prop := ∃ h, hp_N α 678 a0 = some h ∧ hp_K α h ≠ 0 ∧ ∀ j, j < 12 → hp_L α 48 h j = ms_w j
theorem lwx_nw {α : hp_T} {a0 h κ : Nat} (l : lwx α a0) (hk : hp_K α a0 ≠ 0) (hh : hp_K α h = 0) : lwx (hp_nw α h κ) a0 := by
  obtain ⟨x, x1, x2, x3⟩ := l
  have s0 := sa_nw (α := α) (κ := κ) (b := a0) (h := h) (fun e => hk (by rw [e]; exact hh))
  have sx := sa_nw (α := α) (κ := κ) (b := x) (h := h) (fun e => x2 (by rw [e]; exact hh))
  exact ⟨x, by rw [s0.2.2.2.2.1]; exact x1, by rw [sx.1]; exact x2, fun j hj => by rw [sx.2.2.2.2.2.2.1]; exact x3 j hj⟩
theorem lwx_sN {α : hp_T} {a0 φ : Nat} {y : Option Nat} (l : lwx α a0) (hφ : φ ≠ 678) : lwx (hp_sN α φ a0 y) a0 := by
  obtain ⟨x, x1, x2, x3⟩ := l
  exact ⟨x, by rw [show hp_N (hp_sN α φ a0 y) 678 a0 = hp_N α 678 a0 by simp [hp_N, hp_sN, hp_up, Ne.symm hφ]]; exact x1, x2, x3⟩
theorem sL_step {α : hp_T} {h i : Nat} {v : Int64} (l : ∀ j, j < i → hp_L α 48 h j = ms_w j) (hv : ms_w i = v) : ∀ j, j < i + 1 → hp_L (hp_sL α 48 h i v) 48 h j = ms_w j := by
  intro j hj
  rw [hp_sL_at]
  show (if j = i then v else hp_L α 48 h j) = ms_w j
  by_cases e : j = i
  · rw [if_pos e, e, hv]
  · rw [if_neg e]; exact l j (by omega)
theorem ms_mf_ok : ∀ q ∈ ms_mf, (ms_mf.lookup q.1).getD 0 = q.2 ∧ gc_rk q.2 = q.1 ∧ q.2 ≠ 350 ∧ 20 ≤ q.1 := by decide +kernel
theorem hm_make {α : hp_T} {a0 : Nat} {l : List Nat} (hk : hp_K (hp_cv α a0 13) a0 = 13) (hx : ∀ φ ∈ l, ∃ x, hp_R (hp_cv α a0 13) φ a0 = x ∧ hp_N α φ a0 = some x ∧ hp_K (hp_cv α a0 13) x = hp_K α x ∧ gc_t φ (hp_K α x) ∧ (20 ≤ hp_K α x → ∀ j, hp_E α (hp_K α x) x j = 0)) (hl : ∀ q ∈ ms_mf, q.2 ∈ l) (lw : lwx α a0) : ∃ ρ σ, hm_M (hp_cv α a0 13) a0 ρ σ ∧ (∀ φ, ms_I σ φ = hp_I (hp_cv α a0 13) φ a0) := by
  refine ⟨fun κ => hp_R (hp_cv α a0 13) ((ms_mf.lookup κ).getD 0) a0, (fun φ => hp_I (hp_cv α a0 13) φ a0, fun κ j => hp_E (hp_cv α a0 13) κ (hp_R (hp_cv α a0 13) ((ms_mf.lookup κ).getD 0) a0) j, hp_J (hp_cv α a0 13) 677 a0), ⟨hk, fun q hq => ?_, fun φ _ => rfl, fun κ j _ _ => rfl, rfl, fun j hj => ?_⟩, fun φ => rfl⟩
  · obtain ⟨o1, o2, o3, o4⟩ := ms_mf_ok q hq
    obtain ⟨x, x1, x2, x3, x4, -⟩ := hx q.2 (hl q hq)
    dsimp only
    rw [o1]
    refine ⟨rfl, ?_⟩
    rw [x1, x3]
    rcases x4 with e | e
    · rw [e, o2]
    · exact absurd e.1 o3
  · obtain ⟨x, x1, x2, x3, x4, -⟩ := hx 678 (hl (48, 678) (by decide))
    obtain ⟨y, y1, y2, y3⟩ := lw
    rw [y1] at x2
    cases x2
    show hp_L α 48 (hp_R (hp_cv α a0 13) 678 a0) j = ms_w j
    rw [x1]
    exact y3 j hj
end JN5_4
