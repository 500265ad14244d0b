abbrev w_X11_preparedRoots_S : cw_W := ([252], [], [34, 35], [])
set_option maxRecDepth 100000 in
set_option maxHeartbeats 4000000 in
theorem t_X11_preparedRoots_S (Γ : hp_G) (l : Launch) (α : hp_T) (g : GC α) (a0 : Nat) (k0 : hp_K α a0 = 12) (b0 : Nat) (hN : hp_N α 618 a0 = some b0) : Met l yX11_preparedRoots (hp_ws yX11_preparedRoots cX11_preparedRoots 1 (some (.object "ProvenRecord$Roots"))) (hp_rm 3 0 0) (hp_Pc Γ α [.ref a0]) (hp_Qq Γ (fun r β => cw w_X11_preparedRoots_S α β ∧ r = some b0)) 0 0 (hp_A Γ) := by
  refine hp_start (by decide) ?_
  intro p e s m below meth c C hr hlk B0 hnm
  have C : hp_C Γ p m c cX11_preparedRoots 1 s ([.ref a0] : List Value).toArray RX11 := C
  have hx := C.1.1
  have hb := C.1.2.1
  have hown := C.1.2.2.2.1
  have hts := C.1.2.2.2.2
  have B : hp_B Γ (cw w_X11_preparedRoots_S) s α α s.heap [] := ⟨B0.1, B0.2.1, cw_rf g⟩
  have kb0 : hp_K α b0 = 5 := g.2.2.1 a0 b0 k0 hN
  have hl := lv_entry ([.ref a0]) (n := 1) (Nat.le_of_ble_eq_true rfl)
  show W p l e (hp_rm 3 0 0) s m ([.ref a0] : List Value).toArray below meth c s.heap [] 0 0 (MQ below (hp_Qq Γ (fun r β => cw w_X11_preparedRoots_S α β ∧ r = some b0)) ([.ref a0] : List Value).toArray s 0 0 (hp_A Γ)) (entryFrame m ([.ref a0] : List Value).toArray 1)
  rw [lg_entry_eq]
  generalize (lg_sl ([.ref a0]) ++ List.replicate (1 - (lg_sl ([.ref a0])).length) Slot.unset).toArray = ls at hl ⊢
  have hl : lv_has ls 1 [(0, .ref a0)] := hl
  refine lv_aload_n hx hb dX11_preparedRoots_0 rfl (lv_at hl 0 rfl) (hp_n (n := 1) rfl ?_)
  refine q_get (v := va_rf (some b0)) (κ := 12) (k := 18) (pc' := 4) C B (cw_k B.2.2 k0) fl_X11_90 rfl rfl (by show va_rf (hp_N α 618 a0) = _; rw [B.2.2.2.2.1, hN]) dX11_preparedRoots_1 rfl ?_
  refine lv_ifnonnull (tgt := 18) hx hb dX11_preparedRoots_4 (by decide) ?_
  refine lv_aload_n hx hb dX11_preparedRoots_18 rfl (lv_at hl 0 rfl) (hp_n (n := 19) rfl ?_)
  refine q_get (v := va_rf (some b0)) (κ := 12) (k := 18) (pc' := 22) C B (cw_k B.2.2 k0) fl_X11_90 rfl rfl (by show va_rf (hp_N α 618 a0) = _; rw [B.2.2.2.2.1, hN]) dX11_preparedRoots_19 rfl ?_
  refine lv_aload_n hx hb dX11_preparedRoots_22 rfl (lv_at hl 0 rfl) (hp_n (n := 23) rfl ?_)
  refine q_getr (κ := 12) (k := 1) (φ := 601) (pc' := 26) C B (cw_k B.2.2 k0) fl_X11_16 rfl rfl rfl (cw_r B.2.2 k0 rfl rfl (by decide) (by decide)) dX11_preparedRoots_23 rfl (fun b_3 eb_3 kb_3 => ?_)
  refine q_geti (κ := 11) (k := 0) (φ := 550) (pc' := 29) C B (cw_k B.2.2 kb_3) fl_X11_122 rfl rfl rfl dX11_preparedRoots_26 rfl (fun x_4 ex_4 => ?_)
  refine q_cv (pc' := 32) B (hp_runV (As := [.int x_4]) (rest := []) C B (t_X4_prepare Γ l α B.2.2.1 b0 (cw_k B.2.2 kb0) x_4) lb_X4_prepare lv_X4_prepare lk_X11_475 (cw_k B.2.2 kb0) rfl (by decide) rfl hl.1 rfl (Nat.le_of_ble_eq_true rfl) dX11_preparedRoots_29 ⟨Nat.le_refl _, Nat.le_refl _⟩) (fun _ h => cw_tr B.2.2 h (by decide)) rfl (fun αh_5 Hh_5 Lh_5 ph_5 Bh_5 => ?_)
  refine lv_aload_n hx hb dX11_preparedRoots_32 rfl (lv_at hl 0 rfl) (hp_n (n := 33) rfl ?_)
  refine q_get (v := va_rf (some b0)) (κ := 12) (k := 18) (pc' := 36) C Bh_5 (cw_k Bh_5.2.2 k0) fl_X11_90 rfl rfl (by show va_rf (hp_N αh_5 618 a0) = _; rw [Bh_5.2.2.2.2.1, hN]) dX11_preparedRoots_33 rfl ?_
  exact q_aret (x := (some b0)) C Bh_5 hr hlk ⟨Bh_5.2.2, rfl⟩ dX11_preparedRoots_36
abbrev w_X11_weak_S : cw_W := ([252, 255, 256, 258, 259, 260, 301, 453, 454, 600], [253, 254], [20, 21, 22, 23, 33, 34, 35], [])
set_option maxRecDepth 100000 in
set_option maxHeartbeats 4000000 in
theorem t_X11_weak_S (Γ : hp_G) (l : Launch) (α : hp_T) (g : GC α) (a0 : Nat) (k0 : hp_K α a0 = 12) (a1 : Int32) (a2 : Int32) (a3 : Int32) (a4 : Int32) (b0 : Nat) (hN : hp_N α 618 a0 = some b0) : Met l yX11_weak (hp_ws yX11_weak cX11_weak 8 (some .int)) (hp_rm 72 0 0) (hp_Pc Γ α [.ref a0, .int a1, .int a2, .int a3, .int a4]) (hp_Qi Γ (fun r β => cw w_X11_weak_S α β)) 0 0 (hp_A Γ) := by
  refine hp_start (by decide) ?_
  intro p e s m below meth c C hr hlk B0 hnm
  have C : hp_C Γ p m c cX11_weak 8 s ([.ref a0, .int a1, .int a2, .int a3, .int a4] : List Value).toArray RX11 := C
  have hx := C.1.1
  have hb := C.1.2.1
  have hown := C.1.2.2.2.1
  have hts := C.1.2.2.2.2
  have B : hp_B Γ (cw w_X11_weak_S) s α α s.heap [] := ⟨B0.1, B0.2.1, cw_rf g⟩
  have kb0 : hp_K α b0 = 5 := g.2.2.1 a0 b0 k0 hN
  have lit0 : (0 : Int32).toInt = 0 := by decide
  have lit1 : (1 : Int32).toInt = 1 := by decide
  have lit5 : (5 : Int32).toInt = 5 := by decide
  have hl := lv_entry ([.ref a0, .int a1, .int a2, .int a3, .int a4]) (n := 8) (Nat.le_of_ble_eq_true rfl)
  show W p l e (hp_rm 72 0 0) s m ([.ref a0, .int a1, .int a2, .int a3, .int a4] : List Value).toArray below meth c s.heap [] 0 0 (MQ below (hp_Qi Γ (fun r β => cw w_X11_weak_S α β)) ([.ref a0, .int a1, .int a2, .int a3, .int a4] : List Value).toArray s 0 0 (hp_A Γ)) (entryFrame m ([.ref a0, .int a1, .int a2, .int a3, .int a4] : List Value).toArray 8)
  rw [lg_entry_eq]
  generalize (lg_sl ([.ref a0, .int a1, .int a2, .int a3, .int a4]) ++ List.replicate (8 - (lg_sl ([.ref a0, .int a1, .int a2, .int a3, .int a4])).length) Slot.unset).toArray = ls at hl ⊢
  have hl : lv_has ls 8 [(0, .ref a0), (1, .int a1), (2, .int a2), (3, .int a3), (4, .int a4)] := hl
  refine lv_iload hx hb dX11_weak_0 (lv_at hl 4 rfl) (hp_n (n := 2) rfl ?_)
  have J11 : ∀ (Hh_1 : Heap) (Lh_1 : List Loc) (Bh_1 : hp_B Γ (cw w_X11_weak_S) s α α Hh_1 Lh_1) (ls : Array Slot) (hl : lv_has ls 8 [(0, .ref a0)]), W p l e (hp_rm 72 0 0) s m ([.ref a0, .int a1, .int a2, .int a3, .int a4] : List Value).toArray below meth c Hh_1 Lh_1 0 0 (MQ below (hp_Qi Γ (fun r β => cw w_X11_weak_S α β)) ([.ref a0, .int a1, .int a2, .int a3, .int a4] : List Value).toArray s 0 0 (hp_A Γ)) (F0 m 11 ls []) := by
    intro Hh_1 Lh_1 Bh_1 ls hl
    refine lv_aload_n hx hb dX11_weak_11 rfl (lv_at hl 0 rfl) (hp_n (n := 12) rfl ?_)
    refine lv_iconst (v := 1) hx hb dX11_weak_12 (by decide) (hp_n (n := 13) rfl ?_)
    refine q_ci (pc' := 16) Bh_1 (hp_runV (As := [.int 1]) (rest := []) C Bh_1 (t_X11_refuse Γ l α Bh_1.2.2.1 a0 (cw_k Bh_1.2.2 k0) 1) lb_X11_refuse lv_X11_refuse lk_X11_98 (cw_k Bh_1.2.2 k0) rfl (by decide) rfl hl.1 rfl (Nat.le_of_ble_eq_true rfl) dX11_weak_13 ⟨Nat.le_refl _, Nat.le_refl _⟩) (fun _ _ h => cw_tr Bh_1.2.2 h (by decide)) rfl (fun rh_2 αh_2 Hh_2 Lh_2 ph_2 Bh_2 => ?_)
    exact q_iret C Bh_2 hr hlk Bh_2.2.2 dX11_weak_16
  refine lv_if_lt (tgt := 11) hx hb dX11_weak_2 (by decide) (fun c_3 => ?_) (fun c_3 => hp_n (n := 5) rfl ?_)
  ·
    have jc_3 := il_lt c_3
    exact J11 s.heap [] B ls (lv_sub hl [0] rfl)
  ·
    have jc_3 := il_nlt c_3
    refine lv_iload hx hb dX11_weak_5 (lv_at hl 4 rfl) (hp_n (n := 7) rfl ?_)
    refine lv_iconst (v := 1) hx hb dX11_weak_7 (by decide) (hp_n (n := 8) rfl ?_)
    refine lv_icmp_le (tgt := 17) hx hb dX11_weak_8 (by decide) (fun c_4 => ?_) (fun c_4 => hp_n (n := 11) rfl ?_)
    ·
      have jc_4 := il_le c_4
      refine lv_aload_n hx hb dX11_weak_17 rfl (lv_at hl 0 rfl) (hp_n (n := 18) rfl ?_)
      refine q_getr (κ := 12) (k := 1) (φ := 601) (pc' := 21) C B (cw_k B.2.2 k0) fl_X11_16 rfl rfl rfl (cw_r B.2.2 k0 rfl rfl (by decide) (by decide)) dX11_weak_18 rfl (fun b_5 eb_5 kb_5 => ?_)
      refine lv_iload_n hx hb dX11_weak_21 rfl (lv_at hl 1 rfl) (hp_n (n := 22) rfl ?_)
      refine q_cq (pc' := 25) B (hp_runV (As := [.int a1]) (rest := []) C B (t_X10_logAt Γ l α B.2.2.1 b_5 (cw_k B.2.2 kb_5) a1) lb_X10_logAt lv_X10_logAt lk_X11_163 (cw_k B.2.2 kb_5) rfl (by decide) rfl hl.1 rfl (Nat.le_of_ble_eq_true rfl) dX11_weak_22 ⟨Nat.le_refl _, Nat.le_refl _⟩) (fun _ _ h => by rw [h.1]; exact B.2.2) rfl (fun rh_6 αh_6 Hh_6 Lh_6 ph_6 Bh_6 => ?_)
      rw [ph_6.1] at Bh_6
      rcases rh_6 with _ | bh_6
      ·
        refine lv_astoreN (lv' := [(5, .null), (0, .ref a0), (1, .int a1), (2, .int a2), (3, .int a3), (4, .int a4)]) hx hb dX11_weak_25 hl (by decide) rfl (fun ls hl => hp_n (n := 27) rfl ?_)
        refine lv_aloadN hx hb dX11_weak_27 (lv_at hl 0 rfl) (hp_n (n := 29) rfl ?_)
        refine lv_iload_n hx hb dX11_weak_29 rfl (lv_at hl 3 rfl) (hp_n (n := 30) rfl ?_)
        refine lv_iload_n hx hb dX11_weak_30 rfl (lv_at hl 4 rfl) (hp_n (n := 31) rfl ?_)
        refine q_ci (pc' := 34) Bh_6 (hp_runS (As := [va_rf none, .int a2, .int a3]) (rest := []) C Bh_6 (t_X11_wrongInclusion Γ l α Bh_6.2.2.1 none (fun b h => by cases h) a2 a3) lb_X11_wrongInclusion ls_X11_wrongInclusion lk_X11_264 rfl (by decide) rfl hl.1 rfl (Nat.le_of_ble_eq_true rfl) dX11_weak_31 ⟨Nat.le_refl _, Nat.le_refl _⟩) (fun _ _ h => by rw [h]; exact Bh_6.2.2) rfl (fun rh_7 αh_7 Hh_7 Lh_7 ph_7 Bh_7 => ?_)
        rw [ph_7] at Bh_7
        refine lv_istore (lv' := [(6, .int rh_7), (5, .null), (0, .ref a0), (1, .int a1), (2, .int a2), (3, .int a3), (4, .int a4)]) hx hb dX11_weak_34 hl (by decide) rfl (fun ls hl => hp_n (n := 36) rfl ?_)
        refine lv_iload hx hb dX11_weak_36 (lv_at hl 0 rfl) (hp_n (n := 38) rfl ?_)
        have J46 : ∀ (Hh_8 : Heap) (Lh_8 : List Loc) (Bh_8 : hp_B Γ (cw w_X11_weak_S) s α α Hh_8 Lh_8) (ls : Array Slot) (hl : lv_has ls 8 [(0, .ref a0), (6, .int rh_7)]), W p l e (hp_rm 72 0 0) s m ([.ref a0, .int a1, .int a2, .int a3, .int a4] : List Value).toArray below meth c Hh_8 Lh_8 0 0 (MQ below (hp_Qi Γ (fun r β => cw w_X11_weak_S α β)) ([.ref a0, .int a1, .int a2, .int a3, .int a4] : List Value).toArray s 0 0 (hp_A Γ)) (F0 m 46 ls []) := by
          intro Hh_8 Lh_8 Bh_8 ls hl
          refine lv_aload_n hx hb dX11_weak_46 rfl (lv_at hl 0 rfl) (hp_n (n := 47) rfl ?_)
          refine lv_iload hx hb dX11_weak_47 (lv_at hl 1 rfl) (hp_n (n := 49) rfl ?_)
          refine q_ci (pc' := 52) Bh_8 (hp_runV (As := [.int rh_7]) (rest := []) C Bh_8 (t_X11_refuse Γ l α Bh_8.2.2.1 a0 (cw_k Bh_8.2.2 k0) rh_7) lb_X11_refuse lv_X11_refuse lk_X11_98 (cw_k Bh_8.2.2 k0) rfl (by decide) rfl hl.1 rfl (Nat.le_of_ble_eq_true rfl) dX11_weak_49 ⟨Nat.le_refl _, Nat.le_refl _⟩) (fun _ _ h => cw_tr Bh_8.2.2 h (by decide)) rfl (fun rh_9 αh_9 Hh_9 Lh_9 ph_9 Bh_9 => ?_)
          exact q_iret C Bh_9 hr hlk Bh_9.2.2 dX11_weak_52
        refine lv_if_ne (tgt := 46) hx hb dX11_weak_38 (by decide) (fun c_10 => ?_) (fun c_10 => hp_n (n := 41) rfl ?_)
        ·
          have jc_10 := il_ne c_10
          exact J46 Hh_7 Lh_7 Bh_7 ls (lv_sub hl [2, 0] rfl)
        ·
          have jc_10 := il_eq c_10
          refine lv_aloadN hx hb dX11_weak_41 (lv_at hl 1 rfl) (hp_n (n := 43) rfl ?_)
          refine lv_ifnonnullN hx hb dX11_weak_43 (hp_n (n := 46) rfl ?_)
          exact J46 Hh_7 Lh_7 Bh_7 ls (lv_sub hl [2, 0] rfl)
      ·
        have kbh_6 : hp_K α bh_6 = 3 := cw_k' Bh_6.2.2 (ph_6.2 bh_6 rfl)
        refine lv_astore (lv' := [(5, .ref bh_6), (0, .ref a0), (1, .int a1), (2, .int a2), (3, .int a3), (4, .int a4)]) hx hb dX11_weak_25 hl (by decide) rfl (fun ls hl => hp_n (n := 27) rfl ?_)
        refine lv_aload hx hb dX11_weak_27 (lv_at hl 0 rfl) (hp_n (n := 29) rfl ?_)
        refine lv_iload_n hx hb dX11_weak_29 rfl (lv_at hl 3 rfl) (hp_n (n := 30) rfl ?_)
        refine lv_iload_n hx hb dX11_weak_30 rfl (lv_at hl 4 rfl) (hp_n (n := 31) rfl ?_)
        refine q_ci (pc' := 34) Bh_6 (hp_runS (As := [va_rf (some bh_6), .int a2, .int a3]) (rest := []) C Bh_6 (t_X11_wrongInclusion Γ l α Bh_6.2.2.1 (some bh_6) (fun b h => by cases h; exact (cw_k Bh_6.2.2 kbh_6)) a2 a3) lb_X11_wrongInclusion ls_X11_wrongInclusion lk_X11_264 rfl (by decide) rfl hl.1 rfl (Nat.le_of_ble_eq_true rfl) dX11_weak_31 ⟨Nat.le_refl _, Nat.le_refl _⟩) (fun _ _ h => by rw [h]; exact Bh_6.2.2) rfl (fun rh_11 αh_11 Hh_11 Lh_11 ph_11 Bh_11 => ?_)
        rw [ph_11] at Bh_11
        refine lv_istore (lv' := [(6, .int rh_11), (5, .ref bh_6), (0, .ref a0), (1, .int a1), (2, .int a2), (3, .int a3), (4, .int a4)]) hx hb dX11_weak_34 hl (by decide) rfl (fun ls hl => hp_n (n := 36) rfl ?_)
        refine lv_iload hx hb dX11_weak_36 (lv_at hl 0 rfl) (hp_n (n := 38) rfl ?_)
        have J46 : ∀ (Hh_12 : Heap) (Lh_12 : List Loc) (Bh_12 : hp_B Γ (cw w_X11_weak_S) s α α Hh_12 Lh_12) (ls : Array Slot) (hl : lv_has ls 8 [(0, .ref a0), (6, .int rh_11)]), W p l e (hp_rm 72 0 0) s m ([.ref a0, .int a1, .int a2, .int a3, .int a4] : List Value).toArray below meth c Hh_12 Lh_12 0 0 (MQ below (hp_Qi Γ (fun r β => cw w_X11_weak_S α β)) ([.ref a0, .int a1, .int a2, .int a3, .int a4] : List Value).toArray s 0 0 (hp_A Γ)) (F0 m 46 ls []) := by
          intro Hh_12 Lh_12 Bh_12 ls hl
          refine lv_aload_n hx hb dX11_weak_46 rfl (lv_at hl 0 rfl) (hp_n (n := 47) rfl ?_)
          refine lv_iload hx hb dX11_weak_47 (lv_at hl 1 rfl) (hp_n (n := 49) rfl ?_)
          refine q_ci (pc' := 52) Bh_12 (hp_runV (As := [.int rh_11]) (rest := []) C Bh_12 (t_X11_refuse Γ l α Bh_12.2.2.1 a0 (cw_k Bh_12.2.2 k0) rh_11) lb_X11_refuse lv_X11_refuse lk_X11_98 (cw_k Bh_12.2.2 k0) rfl (by decide) rfl hl.1 rfl (Nat.le_of_ble_eq_true rfl) dX11_weak_49 ⟨Nat.le_refl _, Nat.le_refl _⟩) (fun _ _ h => cw_tr Bh_12.2.2 h (by decide)) rfl (fun rh_13 αh_13 Hh_13 Lh_13 ph_13 Bh_13 => ?_)
          exact q_iret C Bh_13 hr hlk Bh_13.2.2 dX11_weak_52
        refine lv_if_ne (tgt := 46) hx hb dX11_weak_38 (by decide) (fun c_14 => ?_) (fun c_14 => hp_n (n := 41) rfl ?_)
        ·
          have jc_14 := il_ne c_14
          exact J46 Hh_11 Lh_11 Bh_11 ls (lv_sub hl [2, 0] rfl)
        ·
          have jc_14 := il_eq c_14
          refine lv_aload hx hb dX11_weak_41 (lv_at hl 1 rfl) (hp_n (n := 43) rfl ?_)
          refine lv_ifnonnull (tgt := 53) hx hb dX11_weak_43 (by decide) ?_
          refine lv_aload_n hx hb dX11_weak_53 rfl (lv_at hl 2 rfl) (hp_n (n := 54) rfl ?_)
          refine q_getr (κ := 12) (k := 12) (φ := 612) (pc' := 57) C Bh_11 (cw_k Bh_11.2.2 k0) fl_X11_62 rfl rfl rfl (cw_r Bh_11.2.2 k0 rfl rfl (by decide) (by decide)) dX11_weak_54 rfl (fun b_15 eb_15 kb_15 => ?_)
          refine lv_iload_n hx hb dX11_weak_57 rfl (lv_at hl 4 rfl) (hp_n (n := 58) rfl ?_)
          refine lv_iload_n hx hb dX11_weak_58 rfl (lv_at hl 5 rfl) (hp_n (n := 59) rfl ?_)
          refine q_cv (pc' := 62) Bh_11 (hp_runV (As := [.int a2, .int a3]) (rest := []) C Bh_11 (t_X8_toThing Γ l α Bh_11.2.2.1 b_15 (cw_k Bh_11.2.2 kb_15) a2 a3) lb_X8_toThing lv_X8_toThing lk_X11_267 (cw_k Bh_11.2.2 kb_15) rfl (by decide) rfl hl.1 rfl (Nat.le_of_ble_eq_true rfl) dX11_weak_59 ⟨Nat.le_refl _, Nat.le_refl _⟩) (fun _ h => cw_tr Bh_11.2.2 h (by decide)) rfl (fun αh_16 Hh_16 Lh_16 ph_16 Bh_16 => ?_)
          refine lv_aload_n hx hb dX11_weak_62 rfl (lv_at hl 2 rfl) (hp_n (n := 63) rfl ?_)
          have t_17 : b_5 = hp_R αh_16 601 a0 := by rw [cw_R ph_16 a0 (by decide)]; exact eb_5
          refine q_gets (κ := 12) (k := 1) (φ := 601) (pc' := 66) C Bh_16 (cw_k Bh_16.2.2 k0) fl_X11_16 rfl rfl rfl t_17 dX11_weak_63 rfl ?_
          refine lv_aload_n hx hb dX11_weak_66 rfl (lv_at hl 2 rfl) (hp_n (n := 67) rfl ?_)
          have t_18 : b_15 = hp_R αh_16 612 a0 := by rw [cw_R ph_16 a0 (by decide)]; exact eb_15
          refine q_gets (κ := 12) (k := 12) (φ := 612) (pc' := 70) C Bh_16 (cw_k Bh_16.2.2 k0) fl_X11_62 rfl rfl rfl t_18 dX11_weak_67 rfl ?_
          refine lv_aload hx hb dX11_weak_70 (lv_at hl 1 rfl) (hp_n (n := 72) rfl ?_)
          refine lv_aload_n hx hb dX11_weak_72 rfl (lv_at hl 2 rfl) (hp_n (n := 73) rfl ?_)
          refine q_getr (κ := 12) (k := 14) (φ := 614) (pc' := 76) C Bh_16 (cw_k Bh_16.2.2 k0) fl_X11_69 rfl rfl rfl (cw_r Bh_16.2.2 k0 rfl rfl (by decide) (by decide)) dX11_weak_73 rfl (fun b_19 eb_19 kb_19 => ?_)
          refine q_cv (pc' := 79) Bh_16 (hp_runV (As := [.ref b_15, va_rf (some bh_6), .ref b_19]) (rest := []) C Bh_16 (t_X10_marksAlong Γ l αh_16 Bh_16.2.2.1 b_5 (cw_k Bh_16.2.2 kb_5) b_15 (cw_k Bh_16.2.2 kb_15) (some bh_6) (fun b h => by cases h; exact (cw_k Bh_16.2.2 kbh_6)) b_19 (cw_k Bh_16.2.2 kb_19)) lb_X10_marksAlong lv_X10_marksAlong lk_X11_270 (cw_k Bh_16.2.2 kb_5) rfl (by decide) rfl hl.1 rfl (Nat.le_of_ble_eq_true rfl) dX11_weak_76 ⟨Nat.le_refl _, Nat.le_refl _⟩) (fun _ h => cw_tr Bh_16.2.2 h (by decide)) rfl (fun αh_20 Hh_20 Lh_20 ph_20 Bh_20 => ?_)
          refine lv_aload_n hx hb dX11_weak_79 rfl (lv_at hl 2 rfl) (hp_n (n := 80) rfl ?_)
          refine q_cq (pc' := 83) Bh_20 (hp_runV (As := []) (rest := []) C Bh_20 (t_X11_preparedRoots_S Γ l αh_20 Bh_20.2.2.1 a0 (cw_k Bh_20.2.2 k0) b0 (by rw [Bh_20.2.2.2.2.1, hN])) lb_X11_preparedRoots lv_X11_preparedRoots lk_X11_363 (cw_k Bh_20.2.2 k0) rfl (by decide) rfl hl.1 rfl (Nat.le_of_ble_eq_true rfl) dX11_weak_80 ⟨Nat.le_refl _, Nat.le_refl _⟩) (fun _ _ h => cw_tr Bh_20.2.2 h.1 (by decide)) rfl (fun rh_21 αh_21 Hh_21 Lh_21 ph_21 Bh_21 => ?_)
          have prh_21 := ph_21.2
          subst prh_21
          refine lv_astore (lv' := [(7, .ref b0), (6, .int rh_11), (5, .ref bh_6), (0, .ref a0), (1, .int a1), (2, .int a2), (3, .int a3), (4, .int a4)]) hx hb dX11_weak_83 hl (by decide) rfl (fun ls hl => hp_n (n := 85) rfl ?_)
          refine lv_aload hx hb dX11_weak_85 (lv_at hl 0 rfl) (hp_n (n := 87) rfl ?_)
          refine lv_aload_n hx hb dX11_weak_87 rfl (lv_at hl 3 rfl) (hp_n (n := 88) rfl ?_)
          have t_22 : b_15 = hp_R αh_20 612 a0 := by rw [cw_R ph_20 a0 (by decide)]; exact t_18
          have t_23 : b_15 = hp_R αh_21 612 a0 := by rw [cw_R ph_21.1 a0 (by decide)]; exact t_22
          refine q_gets (κ := 12) (k := 12) (φ := 612) (pc' := 91) C Bh_21 (cw_k Bh_21.2.2 k0) fl_X11_62 rfl rfl rfl t_23 dX11_weak_88 rfl ?_
          refine lv_aload_n hx hb dX11_weak_91 rfl (lv_at hl 3 rfl) (hp_n (n := 92) rfl ?_)
          have t_24 : b_19 = hp_R αh_20 614 a0 := by rw [cw_R ph_20 a0 (by decide)]; exact eb_19
          have t_25 : b_19 = hp_R αh_21 614 a0 := by rw [cw_R ph_21.1 a0 (by decide)]; exact t_24
          refine q_gets (κ := 12) (k := 14) (φ := 614) (pc' := 95) C Bh_21 (cw_k Bh_21.2.2 k0) fl_X11_69 rfl rfl rfl t_25 dX11_weak_92 rfl ?_
          refine lv_aload hx hb dX11_weak_95 (lv_at hl 2 rfl) (hp_n (n := 97) rfl ?_)
          refine lv_iload_n hx hb dX11_weak_97 rfl (lv_at hl 5 rfl) (hp_n (n := 98) rfl ?_)
          refine q_ci (pc' := 101) Bh_21 (hp_runV (As := [.int a2]) (rest := [.ref b_19, .ref b_15, .ref b0]) C Bh_21 (t_X2_markAt Γ l αh_21 Bh_21.2.2.1 bh_6 (cw_k Bh_21.2.2 kbh_6) a2) lb_X2_markAt lv_X2_markAt lk_X11_174 (cw_k Bh_21.2.2 kbh_6) rfl (by decide) rfl hl.1 rfl (Nat.le_of_ble_eq_true rfl) dX11_weak_98 ⟨Nat.le_refl _, Nat.le_refl _⟩) (fun _ _ h => by rw [h]; exact Bh_21.2.2) rfl (fun rh_26 αh_26 Hh_26 Lh_26 ph_26 Bh_26 => ?_)
          rw [ph_26] at Bh_26
          refine lv_aload_n hx hb dX11_weak_101 rfl (lv_at hl 3 rfl) (hp_n (n := 102) rfl ?_)
          have t_27 : b_5 = hp_R αh_20 601 a0 := by rw [cw_R ph_20 a0 (by decide)]; exact t_17
          have t_28 : b_5 = hp_R αh_21 601 a0 := by rw [cw_R ph_21.1 a0 (by decide)]; exact t_27
          refine q_gets (κ := 12) (k := 1) (φ := 601) (pc' := 105) C Bh_26 (cw_k Bh_26.2.2 k0) fl_X11_16 rfl rfl rfl t_28 dX11_weak_102 rfl ?_
          refine lv_aload hx hb dX11_weak_105 (lv_at hl 2 rfl) (hp_n (n := 107) rfl ?_)
          refine lv_iload_n hx hb dX11_weak_107 rfl (lv_at hl 6 rfl) (hp_n (n := 108) rfl ?_)
          refine q_ci (pc' := 111) Bh_26 (hp_runV (As := [va_rf (some bh_6), .int a3]) (rest := [.int rh_26, .ref b_19, .ref b_15, .ref b0]) C Bh_26 (t_X10_headOf Γ l αh_21 Bh_26.2.2.1 b_5 (cw_k Bh_26.2.2 kb_5) (some bh_6) (fun b h => by cases h; exact (cw_k Bh_26.2.2 kbh_6)) a3) lb_X10_headOf lv_X10_headOf lk_X11_184 (cw_k Bh_26.2.2 kb_5) rfl (by decide) rfl hl.1 rfl (Nat.le_of_ble_eq_true rfl) dX11_weak_108 ⟨Nat.le_refl _, Nat.le_refl _⟩) (fun _ _ h => cw_tr Bh_26.2.2 h (by decide)) rfl (fun rh_29 αh_29 Hh_29 Lh_29 ph_29 Bh_29 => ?_)
          refine q_cv (pc' := 114) Bh_29 (hp_runV (As := [.ref b_15, .ref b_19, .int rh_26, .int rh_29]) (rest := []) C Bh_29 (t_X4_seekThing Γ l αh_29 Bh_29.2.2.1 b0 (cw_k Bh_29.2.2 kb0) b_15 (cw_k Bh_29.2.2 kb_15) b_19 (cw_k Bh_29.2.2 kb_19) rh_26 rh_29) lb_X4_seekThing lv_X4_seekThing lk_X11_367 (cw_k Bh_29.2.2 kb0) rfl (by decide) rfl hl.1 rfl (Nat.le_of_ble_eq_true rfl) dX11_weak_111 ⟨Nat.le_refl _, Nat.le_refl _⟩) (fun _ h => cw_tr Bh_29.2.2 h (by decide)) rfl (fun αh_30 Hh_30 Lh_30 ph_30 Bh_30 => ?_)
          refine lv_iload hx hb dX11_weak_114 (lv_at hl 7 rfl) (hp_n (n := 116) rfl ?_)
          refine lv_if_ne (tgt := 129) hx hb dX11_weak_116 (by decide) (fun c_31 => ?_) (fun c_31 => hp_n (n := 119) rfl ?_)
          ·
            have jc_31 := il_ne c_31
            refine lv_aload hx hb dX11_weak_129 (lv_at hl 0 rfl) (hp_n (n := 131) rfl ?_)
            refine q_geti (κ := 5) (k := 9) (φ := 259) (pc' := 134) C Bh_30 (cw_k Bh_30.2.2 kb0) fl_X11_373 rfl rfl rfl dX11_weak_131 rfl (fun x_32 ex_32 => ?_)
            refine lv_if_ne (tgt := 145) hx hb dX11_weak_134 (by decide) (fun c_33 => ?_) (fun c_33 => hp_n (n := 137) rfl ?_)
            ·
              have jc_33 := il_ne c_33
              refine lv_aload_n hx hb dX11_weak_145 rfl (lv_at hl 3 rfl) (hp_n (n := 146) rfl ?_)
              refine lv_aload hx hb dX11_weak_146 (lv_at hl 0 rfl) (hp_n (n := 148) rfl ?_)
              refine q_geti (κ := 5) (k := 10) (φ := 260) (pc' := 151) C Bh_30 (cw_k Bh_30.2.2 kb0) fl_X11_376 rfl rfl rfl dX11_weak_148 rfl (fun x_34 ex_34 => ?_)
              refine q_ci (pc' := 154) Bh_30 (hp_runV (As := [.int x_34]) (rest := []) C Bh_30 (t_X11_answer Γ l αh_30 Bh_30.2.2.1 a0 (cw_k Bh_30.2.2 k0) x_34) lb_X11_answer lv_X11_answer lk_X11_115 (cw_k Bh_30.2.2 k0) rfl (by decide) rfl hl.1 rfl (Nat.le_of_ble_eq_true rfl) dX11_weak_151 ⟨Nat.le_refl _, Nat.le_refl _⟩) (fun _ _ h => cw_tr Bh_30.2.2 h (by decide)) rfl (fun rh_35 αh_35 Hh_35 Lh_35 ph_35 Bh_35 => ?_)
              exact q_iret C Bh_35 hr hlk Bh_35.2.2 dX11_weak_154
            ·
              have jc_33 := il_eq c_33
              refine lv_aload_n hx hb dX11_weak_137 rfl (lv_at hl 3 rfl) (hp_n (n := 138) rfl ?_)
              refine lv_iconst (v := 5) hx hb dX11_weak_138 (by decide) (hp_n (n := 139) rfl ?_)
              refine q_ci (pc' := 142) Bh_30 (hp_runV (As := [.int 5]) (rest := []) C Bh_30 (t_X11_refuse Γ l αh_30 Bh_30.2.2.1 a0 (cw_k Bh_30.2.2 k0) 5) lb_X11_refuse lv_X11_refuse lk_X11_98 (cw_k Bh_30.2.2 k0) rfl (by decide) rfl hl.1 rfl (Nat.le_of_ble_eq_true rfl) dX11_weak_139 ⟨Nat.le_refl _, Nat.le_refl _⟩) (fun _ _ h => cw_tr Bh_30.2.2 h (by decide)) rfl (fun rh_36 αh_36 Hh_36 Lh_36 ph_36 Bh_36 => ?_)
              refine lv_goto (tgt := 154) hx hb dX11_weak_142 (by decide) ?_
              exact q_iret C Bh_36 hr hlk Bh_36.2.2 dX11_weak_154
          ·
            have jc_31 := il_eq c_31
            refine lv_aload_n hx hb dX11_weak_119 rfl (lv_at hl 3 rfl) (hp_n (n := 120) rfl ?_)
            refine lv_aload hx hb dX11_weak_120 (lv_at hl 0 rfl) (hp_n (n := 122) rfl ?_)
            refine q_geti (κ := 5) (k := 9) (φ := 259) (pc' := 125) C Bh_30 (cw_k Bh_30.2.2 kb0) fl_X11_373 rfl rfl rfl dX11_weak_122 rfl (fun x_37 ex_37 => ?_)
            refine q_ci (pc' := 128) Bh_30 (hp_runV (As := [.int x_37]) (rest := []) C Bh_30 (t_X11_answer Γ l αh_30 Bh_30.2.2.1 a0 (cw_k Bh_30.2.2 k0) x_37) lb_X11_answer lv_X11_answer lk_X11_115 (cw_k Bh_30.2.2 k0) rfl (by decide) rfl hl.1 rfl (Nat.le_of_ble_eq_true rfl) dX11_weak_125 ⟨Nat.le_refl _, Nat.le_refl _⟩) (fun _ _ h => cw_tr Bh_30.2.2 h (by decide)) rfl (fun rh_38 αh_38 Hh_38 Lh_38 ph_38 Bh_38 => ?_)
            exact q_iret C Bh_38 hr hlk Bh_38.2.2 dX11_weak_128
    ·
      have jc_4 := il_nle c_4
      exact J11 s.heap [] B ls (lv_sub hl [0] rfl)
abbrev w_X11_forge_S : cw_W := ([252, 255, 256, 257, 258, 259, 260, 453, 454, 600], [253, 254], [21, 22, 23, 34, 35], [])
set_option maxRecDepth 100000 in
set_option maxHeartbeats 4000000 in
theorem t_X11_forge_S (Γ : hp_G) (l : Launch) (α : hp_T) (g : GC α) (a0 : Nat) (k0 : hp_K α a0 = 12) (a1 : Int32) (a2 : Int32) (a3 : Int32) (a4 : Int32) (a5 : Int32) (b0 : Nat) (hN : hp_N α 618 a0 = some b0) : Met l yX11_forge (hp_ws yX11_forge cX11_forge 7 (some .int)) (hp_rm 72 0 0) (hp_Pc Γ α [.ref a0, .int a1, .int a2, .int a3, .int a4, .int a5]) (hp_Qi Γ (fun r β => cw w_X11_forge_S α β)) 0 0 (hp_A Γ) := by
  refine hp_start (by decide) ?_
  intro p e s m below meth c C hr hlk B0 hnm
  have C : hp_C Γ p m c cX11_forge 7 s ([.ref a0, .int a1, .int a2, .int a3, .int a4, .int a5] : List Value).toArray RX11 := C
  have hx := C.1.1
  have hb := C.1.2.1
  have hown := C.1.2.2.2.1
  have hts := C.1.2.2.2.2
  have B : hp_B Γ (cw w_X11_forge_S) s α α s.heap [] := ⟨B0.1, B0.2.1, cw_rf g⟩
  have kb0 : hp_K α b0 = 5 := g.2.2.1 a0 b0 k0 hN
  have lit0 : (0 : Int32).toInt = 0 := by decide
  have lit1 : (1 : Int32).toInt = 1 := by decide
  have lit5 : (5 : Int32).toInt = 5 := by decide
  have hl := lv_entry ([.ref a0, .int a1, .int a2, .int a3, .int a4, .int a5]) (n := 7) (Nat.le_of_ble_eq_true rfl)
  show W p l e (hp_rm 72 0 0) s m ([.ref a0, .int a1, .int a2, .int a3, .int a4, .int a5] : List Value).toArray below meth c s.heap [] 0 0 (MQ below (hp_Qi Γ (fun r β => cw w_X11_forge_S α β)) ([.ref a0, .int a1, .int a2, .int a3, .int a4, .int a5] : List Value).toArray s 0 0 (hp_A Γ)) (entryFrame m ([.ref a0, .int a1, .int a2, .int a3, .int a4, .int a5] : List Value).toArray 7)
  rw [lg_entry_eq]
  generalize (lg_sl ([.ref a0, .int a1, .int a2, .int a3, .int a4, .int a5]) ++ List.replicate (7 - (lg_sl ([.ref a0, .int a1, .int a2, .int a3, .int a4, .int a5])).length) Slot.unset).toArray = ls at hl ⊢
  have hl : lv_has ls 7 [(0, .ref a0), (1, .int a1), (2, .int a2), (3, .int a3), (4, .int a4), (5, .int a5)] := hl
  refine lv_iload_n hx hb dX11_forge_0 rfl (lv_at hl 2 rfl) (hp_n (n := 1) rfl ?_)
  refine lv_iload_n hx hb dX11_forge_1 rfl (lv_at hl 3 rfl) (hp_n (n := 2) rfl ?_)
  refine q_ci (pc' := 5) B (hp_runS (As := [.int a2, .int a3]) (rest := []) C B (t_X11_isThing Γ l α B.2.2.1 a2 a3) lb_X11_isThing ls_X11_isThing lk_X11_301 rfl (by decide) rfl hl.1 rfl (Nat.le_of_ble_eq_true rfl) dX11_forge_2 ⟨Nat.le_refl _, Nat.le_refl _⟩) (fun _ _ h => by rw [h.1]; exact B.2.2) rfl (fun rh_1 αh_1 Hh_1 Lh_1 ph_1 Bh_1 => ?_)
  rw [ph_1.1] at Bh_1
  have zh_1 := ph_1.2
  have J30 : ∀ (Hh_2 : Heap) (Lh_2 : List Loc) (Bh_2 : hp_B Γ (cw w_X11_forge_S) s α α Hh_2 Lh_2) (ls : Array Slot) (hl : lv_has ls 7 [(0, .ref a0)]), W p l e (hp_rm 72 0 0) s m ([.ref a0, .int a1, .int a2, .int a3, .int a4, .int a5] : List Value).toArray below meth c Hh_2 Lh_2 0 0 (MQ below (hp_Qi Γ (fun r β => cw w_X11_forge_S α β)) ([.ref a0, .int a1, .int a2, .int a3, .int a4, .int a5] : List Value).toArray s 0 0 (hp_A Γ)) (F0 m 30 ls []) := by
    intro Hh_2 Lh_2 Bh_2 ls hl
    refine lv_aload_n hx hb dX11_forge_30 rfl (lv_at hl 0 rfl) (hp_n (n := 31) rfl ?_)
    refine lv_iconst (v := 1) hx hb dX11_forge_31 (by decide) (hp_n (n := 32) rfl ?_)
    refine q_ci (pc' := 35) Bh_2 (hp_runV (As := [.int 1]) (rest := []) C Bh_2 (t_X11_refuse Γ l α Bh_2.2.2.1 a0 (cw_k Bh_2.2.2 k0) 1) lb_X11_refuse lv_X11_refuse lk_X11_98 (cw_k Bh_2.2.2 k0) rfl (by decide) rfl hl.1 rfl (Nat.le_of_ble_eq_true rfl) dX11_forge_32 ⟨Nat.le_refl _, Nat.le_refl _⟩) (fun _ _ h => cw_tr Bh_2.2.2 h (by decide)) rfl (fun rh_3 αh_3 Hh_3 Lh_3 ph_3 Bh_3 => ?_)
    exact q_iret C Bh_3 hr hlk Bh_3.2.2 dX11_forge_35
  refine lv_if_eq (tgt := 30) hx hb dX11_forge_5 (by decide) (fun c_4 => ?_) (fun c_4 => hp_n (n := 8) rfl ?_)
  ·
    have jc_4 := il_eq c_4
    exact J30 Hh_1 Lh_1 Bh_1 ls (lv_sub hl [0] rfl)
  ·
    have jc_4 := il_ne c_4
    refine lv_iload hx hb dX11_forge_8 (lv_at hl 5 rfl) (hp_n (n := 10) rfl ?_)
    refine lv_if_lt (tgt := 30) hx hb dX11_forge_10 (by decide) (fun c_5 => ?_) (fun c_5 => hp_n (n := 13) rfl ?_)
    ·
      have jc_5 := il_lt c_5
      exact J30 Hh_1 Lh_1 Bh_1 ls (lv_sub hl [0] rfl)
    ·
      have jc_5 := il_nlt c_5
      refine lv_aload_n hx hb dX11_forge_13 rfl (lv_at hl 0 rfl) (hp_n (n := 14) rfl ?_)
      refine lv_iload_n hx hb dX11_forge_14 rfl (lv_at hl 1 rfl) (hp_n (n := 15) rfl ?_)
      refine q_ci (pc' := 18) Bh_1 (hp_runV (As := [.int a1]) (rest := []) C Bh_1 (t_X11_isMark Γ l α Bh_1.2.2.1 a0 (cw_k Bh_1.2.2 k0) a1) lb_X11_isMark lv_X11_isMark lk_X11_188 (cw_k Bh_1.2.2 k0) rfl (by decide) rfl hl.1 rfl (Nat.le_of_ble_eq_true rfl) dX11_forge_15 ⟨Nat.le_refl _, Nat.le_refl _⟩) (fun _ _ h => by rw [h.1]; exact Bh_1.2.2) rfl (fun rh_6 αh_6 Hh_6 Lh_6 ph_6 Bh_6 => ?_)
      rw [ph_6.1] at Bh_6
      have zh_6 := ph_6.2
      refine lv_if_eq (tgt := 30) hx hb dX11_forge_18 (by decide) (fun c_7 => ?_) (fun c_7 => hp_n (n := 21) rfl ?_)
      ·
        have jc_7 := il_eq c_7
        exact J30 Hh_6 Lh_6 Bh_6 ls (lv_sub hl [0] rfl)
      ·
        have jc_7 := il_ne c_7
        refine lv_aload_n hx hb dX11_forge_21 rfl (lv_at hl 0 rfl) (hp_n (n := 22) rfl ?_)
        refine lv_iload hx hb dX11_forge_22 (lv_at hl 4 rfl) (hp_n (n := 24) rfl ?_)
        refine q_ci (pc' := 27) Bh_6 (hp_runV (As := [.int a4]) (rest := []) C Bh_6 (t_X11_isMark Γ l α Bh_6.2.2.1 a0 (cw_k Bh_6.2.2 k0) a4) lb_X11_isMark lv_X11_isMark lk_X11_188 (cw_k Bh_6.2.2 k0) rfl (by decide) rfl hl.1 rfl (Nat.le_of_ble_eq_true rfl) dX11_forge_24 ⟨Nat.le_refl _, Nat.le_refl _⟩) (fun _ _ h => by rw [h.1]; exact Bh_6.2.2) rfl (fun rh_8 αh_8 Hh_8 Lh_8 ph_8 Bh_8 => ?_)
        rw [ph_8.1] at Bh_8
        have zh_8 := ph_8.2
        refine lv_if_ne (tgt := 36) hx hb dX11_forge_27 (by decide) (fun c_9 => ?_) (fun c_9 => hp_n (n := 30) rfl ?_)
        ·
          have jc_9 := il_ne c_9
          refine lv_aload_n hx hb dX11_forge_36 rfl (lv_at hl 0 rfl) (hp_n (n := 37) rfl ?_)
          refine q_getr (κ := 12) (k := 12) (φ := 612) (pc' := 40) C Bh_8 (cw_k Bh_8.2.2 k0) fl_X11_62 rfl rfl rfl (cw_r Bh_8.2.2 k0 rfl rfl (by decide) (by decide)) dX11_forge_37 rfl (fun b_10 eb_10 kb_10 => ?_)
          refine lv_iload_n hx hb dX11_forge_40 rfl (lv_at hl 2 rfl) (hp_n (n := 41) rfl ?_)
          refine lv_iload_n hx hb dX11_forge_41 rfl (lv_at hl 3 rfl) (hp_n (n := 42) rfl ?_)
          refine q_cv (pc' := 45) Bh_8 (hp_runV (As := [.int a2, .int a3]) (rest := []) C Bh_8 (t_X8_toThing Γ l α Bh_8.2.2.1 b_10 (cw_k Bh_8.2.2 kb_10) a2 a3) lb_X8_toThing lv_X8_toThing lk_X11_267 (cw_k Bh_8.2.2 kb_10) rfl (by decide) rfl hl.1 rfl (Nat.le_of_ble_eq_true rfl) dX11_forge_42 ⟨Nat.le_refl _, Nat.le_refl _⟩) (fun _ h => cw_tr Bh_8.2.2 h (by decide)) rfl (fun αh_11 Hh_11 Lh_11 ph_11 Bh_11 => ?_)
          refine lv_aload_n hx hb dX11_forge_45 rfl (lv_at hl 0 rfl) (hp_n (n := 46) rfl ?_)
          refine q_getr (κ := 12) (k := 3) (φ := 603) (pc' := 49) C Bh_11 (cw_k Bh_11.2.2 k0) fl_X11_26 rfl rfl rfl (cw_r Bh_11.2.2 k0 rfl rfl (by decide) (by decide)) dX11_forge_46 rfl (fun b_12 eb_12 kb_12 => ?_)
          refine q_geti (κ := 6) (k := 1) (φ := 301) (pc' := 52) C Bh_11 (cw_k Bh_11.2.2 kb_12) fl_X11_132 rfl rfl rfl dX11_forge_49 rfl (fun x_13 ex_13 => ?_)
          refine lv_aload_n hx hb dX11_forge_52 rfl (lv_at hl 0 rfl) (hp_n (n := 53) rfl ?_)
          have t_14 : b_10 = hp_R αh_11 612 a0 := by rw [cw_R ph_11 a0 (by decide)]; exact eb_10
          refine q_gets (κ := 12) (k := 12) (φ := 612) (pc' := 56) C Bh_11 (cw_k Bh_11.2.2 k0) fl_X11_62 rfl rfl rfl t_14 dX11_forge_53 rfl ?_
          refine q_geti (κ := 9) (k := 3) (φ := 453) (pc' := 59) C Bh_11 (cw_k Bh_11.2.2 kb_10) fl_X11_312 rfl rfl rfl dX11_forge_56 rfl (fun x_15 ex_15 => ?_)
          obtain ⟨gx_15a, gx_15b⟩ : 0 ≤ x_15.toInt ∧ x_15.toInt ≤ 64 := by rw [ex_15]; exact Bh_11.2.2.1.1 453 b_10 rfl
          have J74 : ∀ (Hh_16 : Heap) (Lh_16 : List Loc) (Bh_16 : hp_B Γ (cw w_X11_forge_S) s α αh_11 Hh_16 Lh_16) (ls : Array Slot) (hl : lv_has ls 7 [(0, .ref a0)]), W p l e (hp_rm 72 0 0) s m ([.ref a0, .int a1, .int a2, .int a3, .int a4, .int a5] : List Value).toArray below meth c Hh_16 Lh_16 0 0 (MQ below (hp_Qi Γ (fun r β => cw w_X11_forge_S α β)) ([.ref a0, .int a1, .int a2, .int a3, .int a4, .int a5] : List Value).toArray s 0 0 (hp_A Γ)) (F0 m 74 ls []) := by
            intro Hh_16 Lh_16 Bh_16 ls hl
            refine lv_aload_n hx hb dX11_forge_74 rfl (lv_at hl 0 rfl) (hp_n (n := 75) rfl ?_)
            refine lv_iconst (v := 5) hx hb dX11_forge_75 (by decide) (hp_n (n := 76) rfl ?_)
            refine q_ci (pc' := 79) Bh_16 (hp_runV (As := [.int 5]) (rest := []) C Bh_16 (t_X11_refuse Γ l αh_11 Bh_16.2.2.1 a0 (cw_k Bh_16.2.2 k0) 5) lb_X11_refuse lv_X11_refuse lk_X11_98 (cw_k Bh_16.2.2 k0) rfl (by decide) rfl hl.1 rfl (Nat.le_of_ble_eq_true rfl) dX11_forge_76 ⟨Nat.le_refl _, Nat.le_refl _⟩) (fun _ _ h => cw_tr Bh_16.2.2 h (by decide)) rfl (fun rh_17 αh_17 Hh_17 Lh_17 ph_17 Bh_17 => ?_)
            exact q_iret C Bh_17 hr hlk Bh_17.2.2 dX11_forge_79
          refine lv_icmp_ne (tgt := 74) hx hb dX11_forge_59 (by decide) (fun c_18 => ?_) (fun c_18 => hp_n (n := 62) rfl ?_)
          ·
            have jc_18 := il_ne c_18
            exact J74 Hh_11 Lh_11 Bh_11 ls (lv_sub hl [0] rfl)
          ·
            have jc_18 := il_eq c_18
            refine lv_iload hx hb dX11_forge_62 (lv_at hl 5 rfl) (hp_n (n := 64) rfl ?_)
            refine lv_aload_n hx hb dX11_forge_64 rfl (lv_at hl 0 rfl) (hp_n (n := 65) rfl ?_)
            refine q_gets (κ := 12) (k := 3) (φ := 603) (pc' := 68) C Bh_11 (cw_k Bh_11.2.2 k0) fl_X11_26 rfl rfl rfl eb_12 dX11_forge_65 rfl ?_
            refine q_getj (κ := 6) (k := 1) (φ := 301) (pc' := 71) C Bh_11 (cw_k Bh_11.2.2 kb_12) fl_X11_132 rfl rfl rfl ex_13 dX11_forge_68 rfl ?_
            refine lv_icmp_lt (tgt := 80) hx hb dX11_forge_71 (by decide) (fun c_19 => ?_) (fun c_19 => hp_n (n := 74) rfl ?_)
            ·
              have jc_19 := il_lt c_19
              refine lv_aload_n hx hb dX11_forge_80 rfl (lv_at hl 0 rfl) (hp_n (n := 81) rfl ?_)
              refine q_cq (pc' := 84) Bh_11 (hp_runV (As := []) (rest := []) C Bh_11 (t_X11_preparedRoots_S Γ l αh_11 Bh_11.2.2.1 a0 (cw_k Bh_11.2.2 k0) b0 (by rw [Bh_11.2.2.2.2.1, hN])) lb_X11_preparedRoots lv_X11_preparedRoots lk_X11_363 (cw_k Bh_11.2.2 k0) rfl (by decide) rfl hl.1 rfl (Nat.le_of_ble_eq_true rfl) dX11_forge_81 ⟨Nat.le_refl _, Nat.le_refl _⟩) (fun _ _ h => cw_tr Bh_11.2.2 h.1 (by decide)) rfl (fun rh_20 αh_20 Hh_20 Lh_20 ph_20 Bh_20 => ?_)
              have prh_20 := ph_20.2
              subst prh_20
              refine lv_astore (lv' := [(6, .ref b0), (0, .ref a0), (1, .int a1), (2, .int a2), (3, .int a3), (4, .int a4), (5, .int a5)]) hx hb dX11_forge_84 hl (by decide) rfl (fun ls hl => hp_n (n := 86) rfl ?_)
              refine lv_aload hx hb dX11_forge_86 (lv_at hl 0 rfl) (hp_n (n := 88) rfl ?_)
              refine lv_aload_n hx hb dX11_forge_88 rfl (lv_at hl 1 rfl) (hp_n (n := 89) rfl ?_)
              have t_21 : b_10 = hp_R αh_20 612 a0 := by rw [cw_R ph_20.1 a0 (by decide)]; exact t_14
              refine q_gets (κ := 12) (k := 12) (φ := 612) (pc' := 92) C Bh_20 (cw_k Bh_20.2.2 k0) fl_X11_62 rfl rfl rfl t_21 dX11_forge_89 rfl ?_
              refine lv_aload_n hx hb dX11_forge_92 rfl (lv_at hl 1 rfl) (hp_n (n := 93) rfl ?_)
              have t_22 : b_12 = hp_R αh_20 603 a0 := by rw [cw_R ph_20.1 a0 (by decide)]; exact eb_12
              refine q_gets (κ := 12) (k := 3) (φ := 603) (pc' := 96) C Bh_20 (cw_k Bh_20.2.2 k0) fl_X11_26 rfl rfl rfl t_22 dX11_forge_93 rfl ?_
              refine lv_aload_n hx hb dX11_forge_96 rfl (lv_at hl 1 rfl) (hp_n (n := 97) rfl ?_)
              refine q_gets (κ := 12) (k := 12) (φ := 612) (pc' := 100) C Bh_20 (cw_k Bh_20.2.2 k0) fl_X11_62 rfl rfl rfl t_21 dX11_forge_97 rfl ?_
              refine lv_aload_n hx hb dX11_forge_100 rfl (lv_at hl 1 rfl) (hp_n (n := 101) rfl ?_)
              refine q_getr (κ := 12) (k := 1) (φ := 601) (pc' := 104) C Bh_20 (cw_k Bh_20.2.2 k0) fl_X11_16 rfl rfl rfl (cw_r Bh_20.2.2 k0 rfl rfl (by decide) (by decide)) dX11_forge_101 rfl (fun b_23 eb_23 kb_23 => ?_)
              refine q_geti (κ := 11) (k := 0) (φ := 550) (pc' := 107) C Bh_20 (cw_k Bh_20.2.2 kb_23) fl_X11_122 rfl rfl rfl dX11_forge_104 rfl (fun x_24 ex_24 => ?_)
              refine lv_aload_n hx hb dX11_forge_107 rfl (lv_at hl 1 rfl) (hp_n (n := 108) rfl ?_)
              refine q_gets (κ := 12) (k := 3) (φ := 603) (pc' := 111) C Bh_20 (cw_k Bh_20.2.2 k0) fl_X11_26 rfl rfl rfl t_22 dX11_forge_108 rfl ?_
              refine lv_iload_n hx hb dX11_forge_111 rfl (lv_at hl 2 rfl) (hp_n (n := 112) rfl ?_)
              refine lv_iload hx hb dX11_forge_112 (lv_at hl 6 rfl) (hp_n (n := 114) rfl ?_)
              refine q_ci (pc' := 117) Bh_20 (hp_runV (As := [.int x_24, .ref b_12, .int a1, .int a5]) (rest := [.ref b_12, .ref b_10, .ref b0]) C Bh_20 (t_X8_folded Γ l αh_20 Bh_20.2.2.1 b_10 (cw_k Bh_20.2.2 kb_10) x_24 b_12 (cw_k Bh_20.2.2 kb_12) a1 a5) lb_X8_folded lv_X8_folded lk_X11_382 (cw_k Bh_20.2.2 kb_10) rfl (by decide) rfl hl.1 rfl (Nat.le_of_ble_eq_true rfl) dX11_forge_114 ⟨Nat.le_refl _, Nat.le_refl _⟩) (fun _ _ h => by rw [h]; exact Bh_20.2.2) rfl (fun rh_25 αh_25 Hh_25 Lh_25 ph_25 Bh_25 => ?_)
              rw [ph_25] at Bh_25
              refine lv_iload hx hb dX11_forge_117 (lv_at hl 5 rfl) (hp_n (n := 119) rfl ?_)
              refine lv_iload hx hb dX11_forge_119 (lv_at hl 6 rfl) (hp_n (n := 121) rfl ?_)
              refine q_cv (pc' := 124) Bh_25 (hp_runV (As := [.ref b_10, .ref b_12, .int rh_25, .int a4, .int a5]) (rest := []) C Bh_25 (t_X4_seekStep Γ l αh_20 Bh_25.2.2.1 b0 (cw_k Bh_25.2.2 kb0) b_10 (cw_k Bh_25.2.2 kb_10) b_12 (cw_k Bh_25.2.2 kb_12) rh_25 a4 a5) lb_X4_seekStep lv_X4_seekStep lk_X11_388 (cw_k Bh_25.2.2 kb0) rfl (by decide) rfl hl.1 rfl (Nat.le_of_ble_eq_true rfl) dX11_forge_121 ⟨Nat.le_refl _, Nat.le_refl _⟩) (fun _ h => cw_tr Bh_25.2.2 h (by decide)) rfl (fun αh_26 Hh_26 Lh_26 ph_26 Bh_26 => ?_)
              refine lv_aload hx hb dX11_forge_124 (lv_at hl 0 rfl) (hp_n (n := 126) rfl ?_)
              refine q_geti (κ := 5) (k := 9) (φ := 259) (pc' := 129) C Bh_26 (cw_k Bh_26.2.2 kb0) fl_X11_373 rfl rfl rfl dX11_forge_126 rfl (fun x_27 ex_27 => ?_)
              refine lv_if_ne (tgt := 140) hx hb dX11_forge_129 (by decide) (fun c_28 => ?_) (fun c_28 => hp_n (n := 132) rfl ?_)
              ·
                have jc_28 := il_ne c_28
                refine lv_aload_n hx hb dX11_forge_140 rfl (lv_at hl 1 rfl) (hp_n (n := 141) rfl ?_)
                refine lv_aload hx hb dX11_forge_141 (lv_at hl 0 rfl) (hp_n (n := 143) rfl ?_)
                refine q_geti (κ := 5) (k := 10) (φ := 260) (pc' := 146) C Bh_26 (cw_k Bh_26.2.2 kb0) fl_X11_376 rfl rfl rfl dX11_forge_143 rfl (fun x_29 ex_29 => ?_)
                refine q_ci (pc' := 149) Bh_26 (hp_runV (As := [.int x_29]) (rest := []) C Bh_26 (t_X11_answer Γ l αh_26 Bh_26.2.2.1 a0 (cw_k Bh_26.2.2 k0) x_29) lb_X11_answer lv_X11_answer lk_X11_115 (cw_k Bh_26.2.2 k0) rfl (by decide) rfl hl.1 rfl (Nat.le_of_ble_eq_true rfl) dX11_forge_146 ⟨Nat.le_refl _, Nat.le_refl _⟩) (fun _ _ h => cw_tr Bh_26.2.2 h (by decide)) rfl (fun rh_30 αh_30 Hh_30 Lh_30 ph_30 Bh_30 => ?_)
                exact q_iret C Bh_30 hr hlk Bh_30.2.2 dX11_forge_149
              ·
                have jc_28 := il_eq c_28
                refine lv_aload_n hx hb dX11_forge_132 rfl (lv_at hl 1 rfl) (hp_n (n := 133) rfl ?_)
                refine lv_iconst (v := 5) hx hb dX11_forge_133 (by decide) (hp_n (n := 134) rfl ?_)
                refine q_ci (pc' := 137) Bh_26 (hp_runV (As := [.int 5]) (rest := []) C Bh_26 (t_X11_refuse Γ l αh_26 Bh_26.2.2.1 a0 (cw_k Bh_26.2.2 k0) 5) lb_X11_refuse lv_X11_refuse lk_X11_98 (cw_k Bh_26.2.2 k0) rfl (by decide) rfl hl.1 rfl (Nat.le_of_ble_eq_true rfl) dX11_forge_134 ⟨Nat.le_refl _, Nat.le_refl _⟩) (fun _ _ h => cw_tr Bh_26.2.2 h (by decide)) rfl (fun rh_31 αh_31 Hh_31 Lh_31 ph_31 Bh_31 => ?_)
                refine lv_goto (tgt := 149) hx hb dX11_forge_137 (by decide) ?_
                exact q_iret C Bh_31 hr hlk Bh_31.2.2 dX11_forge_149
            ·
              have jc_19 := il_nlt c_19
              exact J74 Hh_11 Lh_11 Bh_11 ls (lv_sub hl [0] rfl)
        ·
          have jc_9 := il_eq c_9
          exact J30 Hh_8 Lh_8 Bh_8 ls (lv_sub hl [0] rfl)
