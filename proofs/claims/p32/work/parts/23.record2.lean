abbrev w_X11_add : cw_W := ([152, 501, 556, 600], [], [27, 29], [])
abbrev w_X11_fork : cw_W := ([152, 501, 552, 556, 600], [], [27, 29], [])
abbrev w_X11_freeze : cw_W := ([100, 101, 102, 103, 301, 554, 556, 600], [], [20, 33], [])
abbrev w_X11_show : cw_W := ([301, 400, 401, 402, 403, 453, 454, 556, 600], [], [20, 21, 22, 23, 33], [])
abbrev w_X11_meet : cw_W := ([301, 400, 401, 403, 453, 454, 556, 600], [], [20, 21, 22, 23, 33], [])
abbrev w_X11_spoil : cw_W := ([556, 600], [], [27, 29], [])
abbrev w_X11_push : cw_W := ([301, 600], [], [20], [])
abbrev w_X11_poke : cw_W := ([600], [], [20], [])
abbrev w_X11_pad : cw_W := ([600], [], [], [])
set_option maxRecDepth 100000 in
set_option maxHeartbeats 4000000 in
theorem t_X11_pad (Γ : hp_G) (l : Launch) (α : hp_T) (g : GC α) (a0 : Nat) (k0 : hp_K α a0 = 12) (a1 : Int32) : Met l yX11_pad (hp_ws yX11_pad cX11_pad 2 (some .int)) (hp_rm 1 0 0) (hp_Pc Γ α [.ref a0, .int a1]) (hp_Qi Γ (fun r β => cw w_X11_pad α β)) 0 0 (hp_A Γ) := by
  refine hp_start (by decide) ?_
  intro p e s m below meth c C hr hlk B0 hnm
  have C : hp_C Γ p m c cX11_pad 2 s ([.ref a0, .int a1] : List Value).toArray RX11 := C
  have hx := C.1.1
  have hb := C.1.2.1
  have hown := C.1.2.2.2.1
  have hts := C.1.2.2.2.2
  have B : hp_B Γ (cw w_X11_pad) s α α s.heap [] := ⟨B0.1, B0.2.1, cw_rf g⟩
  have lit0 : (0 : Int32).toInt = 0 := by decide
  have lit1 : (1 : Int32).toInt = 1 := by decide
  have lit5 : (5 : Int32).toInt = 5 := by decide
  have hl := lv_entry ([.ref a0, .int a1]) (n := 2) (Nat.le_of_ble_eq_true rfl)
  show W p l e (hp_rm 1 0 0) s m ([.ref a0, .int a1] : List Value).toArray below meth c s.heap [] 0 0 (MQ below (hp_Qi Γ (fun r β => cw w_X11_pad α β)) ([.ref a0, .int a1] : List Value).toArray s 0 0 (hp_A Γ)) (entryFrame m ([.ref a0, .int a1] : List Value).toArray 2)
  rw [lg_entry_eq]
  generalize (lg_sl ([.ref a0, .int a1]) ++ List.replicate (2 - (lg_sl ([.ref a0, .int a1])).length) Slot.unset).toArray = ls at hl ⊢
  have hl : lv_has ls 2 [(0, .ref a0), (1, .int a1)] := hl
  refine lv_iload_n hx hb dX11_pad_0 rfl (lv_at hl 1 rfl) (hp_n (n := 1) rfl ?_)
  refine lv_if_ge (tgt := 10) hx hb dX11_pad_1 (by decide) (fun c_1 => ?_) (fun c_1 => hp_n (n := 4) rfl ?_)
  ·
    have jc_1 := il_le c_1
    refine lv_iload_n hx hb dX11_pad_10 rfl (lv_at hl 1 rfl) (hp_n (n := 11) rfl ?_)
    refine lv_aload_n hx hb dX11_pad_11 rfl (lv_at hl 0 rfl) (hp_n (n := 12) rfl ?_)
    refine q_getr (κ := 12) (k := 3) (φ := 603) (pc' := 15) C B (cw_k B.2.2 k0) fl_X11_26 rfl rfl rfl (cw_r B.2.2 k0 rfl rfl (by decide) (by decide)) dX11_pad_12 rfl (fun b_2 eb_2 kb_2 => ?_)
    refine q_geti (κ := 6) (k := 1) (φ := 301) (pc' := 18) C B (cw_k B.2.2 kb_2) fl_X11_132 rfl rfl rfl dX11_pad_15 rfl (fun x_3 ex_3 => ?_)
    refine lv_icmp_ge (tgt := 36) hx hb dX11_pad_18 (by decide) (fun c_4 => ?_) (fun c_4 => hp_n (n := 21) rfl ?_)
    ·
      have jc_4 := il_le c_4
      refine lv_aload_n hx hb dX11_pad_36 rfl (lv_at hl 0 rfl) (hp_n (n := 37) rfl ?_)
      refine lv_iconst (v := 5) hx hb dX11_pad_37 (by decide) (hp_n (n := 38) rfl ?_)
      refine q_ci (pc' := 41) B (hp_runV (As := [.int 5]) (rest := []) C B (t_X11_refuse Γ l α B.2.2.1 a0 (cw_k B.2.2 k0) 5) lb_X11_refuse lv_X11_refuse lk_X11_98 (cw_k B.2.2 k0) rfl (by decide) rfl hl.1 rfl (Nat.le_of_ble_eq_true rfl) dX11_pad_38 ⟨Nat.le_refl _, Nat.le_refl _⟩) (fun _ _ h => cw_tr B.2.2 h (by decide)) rfl (fun rh_5 αh_5 Hh_5 Lh_5 ph_5 Bh_5 => ?_)
      exact q_iret C Bh_5 hr hlk Bh_5.2.2 dX11_pad_41
    ·
      have jc_4 := il_nle c_4
      refine lv_aload_n hx hb dX11_pad_21 rfl (lv_at hl 0 rfl) (hp_n (n := 22) rfl ?_)
      refine lv_aload_n hx hb dX11_pad_22 rfl (lv_at hl 0 rfl) (hp_n (n := 23) rfl ?_)
      refine q_gets (κ := 12) (k := 3) (φ := 603) (pc' := 26) C B (cw_k B.2.2 k0) fl_X11_26 rfl rfl rfl eb_2 dX11_pad_23 rfl ?_
      refine lv_iload_n hx hb dX11_pad_26 rfl (lv_at hl 1 rfl) (hp_n (n := 27) rfl ?_)
      refine q_ci (pc' := 30) B (hp_runV (As := [.int a1]) (rest := [.ref a0]) C B (t_X5_at Γ l α B.2.2.1 b_2 (cw_k B.2.2 kb_2) a1) lb_X5_at lv_X5_at lk_X11_135 (cw_k B.2.2 kb_2) rfl (by decide) rfl hl.1 rfl (Nat.le_of_ble_eq_true rfl) dX11_pad_27 ⟨Nat.le_refl _, Nat.le_refl _⟩) (fun _ _ h => by rw [h]; exact B.2.2) rfl (fun rh_6 αh_6 Hh_6 Lh_6 ph_6 Bh_6 => ?_)
      rw [ph_6] at Bh_6
      refine q_ci (pc' := 33) Bh_6 (hp_runV (As := [.int rh_6]) (rest := []) C Bh_6 (t_X11_answer Γ l α Bh_6.2.2.1 a0 (cw_k Bh_6.2.2 k0) rh_6) lb_X11_answer lv_X11_answer lk_X11_115 (cw_k Bh_6.2.2 k0) rfl (by decide) rfl hl.1 rfl (Nat.le_of_ble_eq_true rfl) dX11_pad_30 ⟨Nat.le_refl _, Nat.le_refl _⟩) (fun _ _ h => cw_tr Bh_6.2.2 h (by decide)) rfl (fun rh_7 αh_7 Hh_7 Lh_7 ph_7 Bh_7 => ?_)
      refine lv_goto (tgt := 41) hx hb dX11_pad_33 (by decide) ?_
      exact q_iret C Bh_7 hr hlk Bh_7.2.2 dX11_pad_41
  ·
    have jc_1 := il_nle c_1
    refine lv_aload_n hx hb dX11_pad_4 rfl (lv_at hl 0 rfl) (hp_n (n := 5) rfl ?_)
    refine lv_iconst (v := 1) hx hb dX11_pad_5 (by decide) (hp_n (n := 6) rfl ?_)
    refine q_ci (pc' := 9) B (hp_runV (As := [.int 1]) (rest := []) C B (t_X11_refuse Γ l α B.2.2.1 a0 (cw_k B.2.2 k0) 1) lb_X11_refuse lv_X11_refuse lk_X11_98 (cw_k B.2.2 k0) rfl (by decide) rfl hl.1 rfl (Nat.le_of_ble_eq_true rfl) dX11_pad_6 ⟨Nat.le_refl _, Nat.le_refl _⟩) (fun _ _ h => cw_tr B.2.2 h (by decide)) rfl (fun rh_8 αh_8 Hh_8 Lh_8 ph_8 Bh_8 => ?_)
    exact q_iret C Bh_8 hr hlk Bh_8.2.2 dX11_pad_9
abbrev w_X11_cut : cw_W := ([301, 600], [], [], [])
abbrev w_X11_include : cw_W := ([301, 453, 454, 600], [], [20, 21, 22, 23, 33], [])
abbrev w_X11_grow : cw_W := ([301, 453, 454, 600], [], [20, 21, 22, 23, 33], [])
abbrev w_X11_bundle : cw_W := ([301, 453, 454, 600], [], [20, 21, 22, 23, 33], [])
abbrev w_X11_peaks : cw_W := ([301, 600], [], [20, 33], [])
abbrev w_X11_extend : cw_W := ([301, 600], [], [20], [])
abbrev w_X11_checks : cw_W := ([453, 454, 600], [], [21, 22, 23], [])
abbrev w_X11_growth : cw_W := ([453, 454, 600], [], [21, 22, 23], [])
set_option maxRecDepth 100000 in
set_option maxHeartbeats 4000000 in
theorem t_X11_growth (Γ : hp_G) (l : Launch) (α : hp_T) (g : GC α) (a0 : Nat) (k0 : hp_K α a0 = 12) (a1 : Int32) (a2 : Int32) (a3 : Int32) (a4 : Int32) : Met l yX11_growth (hp_ws yX11_growth cX11_growth 5 (some .int)) (hp_rm 5 0 0) (hp_Pc Γ α [.ref a0, .int a1, .int a2, .int a3, .int a4]) (hp_Qi Γ (fun r β => cw w_X11_growth α β)) 0 0 (hp_A Γ) := by
  refine hp_start (by decide) ?_
  intro p e s m below meth c C hr hlk B0 hnm
  have C : hp_C Γ p m c cX11_growth 5 s ([.ref a0, .int a1, .int a2, .int a3, .int a4] : List Value).toArray RX11 := C
  have hx := C.1.1
  have hb := C.1.2.1
  have hown := C.1.2.2.2.1
  have hts := C.1.2.2.2.2
  have B : hp_B Γ (cw w_X11_growth) s α α s.heap [] := ⟨B0.1, B0.2.1, cw_rf g⟩
  have lit0 : (0 : Int32).toInt = 0 := by decide
  have lit1 : (1 : Int32).toInt = 1 := by decide
  have hl := lv_entry ([.ref a0, .int a1, .int a2, .int a3, .int a4]) (n := 5) (Nat.le_of_ble_eq_true rfl)
  show W p l e (hp_rm 5 0 0) s m ([.ref a0, .int a1, .int a2, .int a3, .int a4] : List Value).toArray below meth c s.heap [] 0 0 (MQ below (hp_Qi Γ (fun r β => cw w_X11_growth α β)) ([.ref a0, .int a1, .int a2, .int a3, .int a4] : List Value).toArray s 0 0 (hp_A Γ)) (entryFrame m ([.ref a0, .int a1, .int a2, .int a3, .int a4] : List Value).toArray 5)
  rw [lg_entry_eq]
  generalize (lg_sl ([.ref a0, .int a1, .int a2, .int a3, .int a4]) ++ List.replicate (5 - (lg_sl ([.ref a0, .int a1, .int a2, .int a3, .int a4])).length) Slot.unset).toArray = ls at hl ⊢
  have hl : lv_has ls 5 [(0, .ref a0), (1, .int a1), (2, .int a2), (3, .int a3), (4, .int a4)] := hl
  refine lv_iload_n hx hb dX11_growth_0 rfl (lv_at hl 1 rfl) (hp_n (n := 1) rfl ?_)
  have J26 : ∀ (Hh_1 : Heap) (Lh_1 : List Loc) (Bh_1 : hp_B Γ (cw w_X11_growth) s α α Hh_1 Lh_1) (ls : Array Slot) (hl : lv_has ls 5 [(0, .ref a0)]), W p l e (hp_rm 5 0 0) s m ([.ref a0, .int a1, .int a2, .int a3, .int a4] : List Value).toArray below meth c Hh_1 Lh_1 0 0 (MQ below (hp_Qi Γ (fun r β => cw w_X11_growth α β)) ([.ref a0, .int a1, .int a2, .int a3, .int a4] : List Value).toArray s 0 0 (hp_A Γ)) (F0 m 26 ls []) := by
    intro Hh_1 Lh_1 Bh_1 ls hl
    refine lv_aload_n hx hb dX11_growth_26 rfl (lv_at hl 0 rfl) (hp_n (n := 27) rfl ?_)
    refine lv_iconst (v := 1) hx hb dX11_growth_27 (by decide) (hp_n (n := 28) rfl ?_)
    refine q_ci (pc' := 31) Bh_1 (hp_runV (As := [.int 1]) (rest := []) C Bh_1 (t_X11_refuse Γ l α Bh_1.2.2.1 a0 (cw_k Bh_1.2.2 k0) 1) lb_X11_refuse lv_X11_refuse lk_X11_98 (cw_k Bh_1.2.2 k0) rfl (by decide) rfl hl.1 rfl (Nat.le_of_ble_eq_true rfl) dX11_growth_28 ⟨Nat.le_refl _, Nat.le_refl _⟩) (fun _ _ h => cw_tr Bh_1.2.2 h (by decide)) rfl (fun rh_2 αh_2 Hh_2 Lh_2 ph_2 Bh_2 => ?_)
    exact q_iret C Bh_2 hr hlk Bh_2.2.2 dX11_growth_31
  refine lv_if_lt (tgt := 26) hx hb dX11_growth_1 (by decide) (fun c_3 => ?_) (fun c_3 => hp_n (n := 4) rfl ?_)
  ·
    have jc_3 := il_lt c_3
    exact J26 s.heap [] B ls (lv_sub hl [0] rfl)
  ·
    have jc_3 := il_nlt c_3
    refine lv_iload_n hx hb dX11_growth_4 rfl (lv_at hl 1 rfl) (hp_n (n := 5) rfl ?_)
    refine lv_iload_n hx hb dX11_growth_5 rfl (lv_at hl 3 rfl) (hp_n (n := 6) rfl ?_)
    refine lv_icmp_gt (tgt := 26) hx hb dX11_growth_6 (by decide) (fun c_4 => ?_) (fun c_4 => hp_n (n := 9) rfl ?_)
    ·
      have jc_4 := il_lt c_4
      exact J26 s.heap [] B ls (lv_sub hl [0] rfl)
    ·
      have jc_4 := il_nlt c_4
      refine lv_aload_n hx hb dX11_growth_9 rfl (lv_at hl 0 rfl) (hp_n (n := 10) rfl ?_)
      refine lv_iload_n hx hb dX11_growth_10 rfl (lv_at hl 2 rfl) (hp_n (n := 11) rfl ?_)
      refine q_ci (pc' := 14) B (hp_runV (As := [.int a2]) (rest := []) C B (t_X11_isMark Γ l α B.2.2.1 a0 (cw_k B.2.2 k0) a2) lb_X11_isMark lv_X11_isMark lk_X11_188 (cw_k B.2.2 k0) rfl (by decide) rfl hl.1 rfl (Nat.le_of_ble_eq_true rfl) dX11_growth_11 ⟨Nat.le_refl _, Nat.le_refl _⟩) (fun _ _ h => by rw [h.1]; exact B.2.2) rfl (fun rh_5 αh_5 Hh_5 Lh_5 ph_5 Bh_5 => ?_)
      rw [ph_5.1] at Bh_5
      have zh_5 := ph_5.2
      refine lv_if_eq (tgt := 26) hx hb dX11_growth_14 (by decide) (fun c_6 => ?_) (fun c_6 => hp_n (n := 17) rfl ?_)
      ·
        have jc_6 := il_eq c_6
        exact J26 Hh_5 Lh_5 Bh_5 ls (lv_sub hl [0] rfl)
      ·
        have jc_6 := il_ne c_6
        refine lv_aload_n hx hb dX11_growth_17 rfl (lv_at hl 0 rfl) (hp_n (n := 18) rfl ?_)
        refine lv_iload hx hb dX11_growth_18 (lv_at hl 4 rfl) (hp_n (n := 20) rfl ?_)
        refine q_ci (pc' := 23) Bh_5 (hp_runV (As := [.int a4]) (rest := []) C Bh_5 (t_X11_isMark Γ l α Bh_5.2.2.1 a0 (cw_k Bh_5.2.2 k0) a4) lb_X11_isMark lv_X11_isMark lk_X11_188 (cw_k Bh_5.2.2 k0) rfl (by decide) rfl hl.1 rfl (Nat.le_of_ble_eq_true rfl) dX11_growth_20 ⟨Nat.le_refl _, Nat.le_refl _⟩) (fun _ _ h => by rw [h.1]; exact Bh_5.2.2) rfl (fun rh_7 αh_7 Hh_7 Lh_7 ph_7 Bh_7 => ?_)
        rw [ph_7.1] at Bh_7
        have zh_7 := ph_7.2
        refine lv_if_ne (tgt := 32) hx hb dX11_growth_23 (by decide) (fun c_8 => ?_) (fun c_8 => hp_n (n := 26) rfl ?_)
        ·
          have jc_8 := il_ne c_8
          refine lv_aload_n hx hb dX11_growth_32 rfl (lv_at hl 0 rfl) (hp_n (n := 33) rfl ?_)
          refine lv_aload_n hx hb dX11_growth_33 rfl (lv_at hl 0 rfl) (hp_n (n := 34) rfl ?_)
          refine q_getr (κ := 12) (k := 12) (φ := 612) (pc' := 37) C Bh_7 (cw_k Bh_7.2.2 k0) fl_X11_62 rfl rfl rfl (cw_r Bh_7.2.2 k0 rfl rfl (by decide) (by decide)) dX11_growth_34 rfl (fun b_9 eb_9 kb_9 => ?_)
          refine lv_aload_n hx hb dX11_growth_37 rfl (lv_at hl 0 rfl) (hp_n (n := 38) rfl ?_)
          refine q_getr (κ := 12) (k := 1) (φ := 601) (pc' := 41) C Bh_7 (cw_k Bh_7.2.2 k0) fl_X11_16 rfl rfl rfl (cw_r Bh_7.2.2 k0 rfl rfl (by decide) (by decide)) dX11_growth_38 rfl (fun b_10 eb_10 kb_10 => ?_)
          refine q_geti (κ := 11) (k := 0) (φ := 550) (pc' := 44) C Bh_7 (cw_k Bh_7.2.2 kb_10) fl_X11_122 rfl rfl rfl dX11_growth_41 rfl (fun x_11 ex_11 => ?_)
          refine lv_aload_n hx hb dX11_growth_44 rfl (lv_at hl 0 rfl) (hp_n (n := 45) rfl ?_)
          refine q_getr (κ := 12) (k := 3) (φ := 603) (pc' := 48) C Bh_7 (cw_k Bh_7.2.2 k0) fl_X11_26 rfl rfl rfl (cw_r Bh_7.2.2 k0 rfl rfl (by decide) (by decide)) dX11_growth_45 rfl (fun b_12 eb_12 kb_12 => ?_)
          refine lv_iload_n hx hb dX11_growth_48 rfl (lv_at hl 1 rfl) (hp_n (n := 49) rfl ?_)
          refine lv_iload_n hx hb dX11_growth_49 rfl (lv_at hl 2 rfl) (hp_n (n := 50) rfl ?_)
          refine lv_iload_n hx hb dX11_growth_50 rfl (lv_at hl 3 rfl) (hp_n (n := 51) rfl ?_)
          refine lv_iload hx hb dX11_growth_51 (lv_at hl 4 rfl) (hp_n (n := 53) rfl ?_)
          refine q_ci (pc' := 56) Bh_7 (hp_runV (As := [.int x_11, .ref b_12, .int a1, .int a2, .int a3, .int a4]) (rest := [.ref a0]) C Bh_7 (t_X8_whyGrowth Γ l α Bh_7.2.2.1 b_9 (cw_k Bh_7.2.2 kb_9) x_11 b_12 (cw_k Bh_7.2.2 kb_12) a1 a2 a3 a4) lb_X8_whyGrowth lv_X8_whyGrowth lk_X11_308 (cw_k Bh_7.2.2 kb_9) rfl (by decide) rfl hl.1 rfl (Nat.le_of_ble_eq_true rfl) dX11_growth_53 ⟨Nat.le_refl _, Nat.le_refl _⟩) (fun _ _ h => cw_tr Bh_7.2.2 h (by decide)) rfl (fun rh_13 αh_13 Hh_13 Lh_13 ph_13 Bh_13 => ?_)
          refine q_ci (pc' := 59) Bh_13 (hp_runV (As := [.int rh_13]) (rest := []) C Bh_13 (t_X11_answer Γ l αh_13 Bh_13.2.2.1 a0 (cw_k Bh_13.2.2 k0) rh_13) lb_X11_answer lv_X11_answer lk_X11_115 (cw_k Bh_13.2.2 k0) rfl (by decide) rfl hl.1 rfl (Nat.le_of_ble_eq_true rfl) dX11_growth_56 ⟨Nat.le_refl _, Nat.le_refl _⟩) (fun _ _ h => cw_tr Bh_13.2.2 h (by decide)) rfl (fun rh_14 αh_14 Hh_14 Lh_14 ph_14 Bh_14 => ?_)
          exact q_iret C Bh_14 hr hlk Bh_14.2.2 dX11_growth_59
        ·
          have jc_8 := il_eq c_8
          exact J26 Hh_7 Lh_7 Bh_7 ls (lv_sub hl [0] rfl)
abbrev w_X11_bundled : cw_W := ([50, 52, 53, 54, 453, 454, 600], [51], [21, 22, 23], [])
set_option maxRecDepth 100000 in
set_option maxHeartbeats 4000000 in
theorem t_X11_bundled (Γ : hp_G) (l : Launch) (α : hp_T) (g : GC α) (a0 : Nat) (k0 : hp_K α a0 = 12) (a1 : Int32) (a2 : Int32) (a3 : Int32) : Met l yX11_bundled (hp_ws yX11_bundled cX11_bundled 4 (some .int)) (hp_rm 46 0 0) (hp_Pc Γ α [.ref a0, .int a1, .int a2, .int a3]) (hp_Qi Γ (fun r β => cw w_X11_bundled α β)) 0 0 (hp_A Γ) := by
  refine hp_start (by decide) ?_
  intro p e s m below meth c C hr hlk B0 hnm
  have C : hp_C Γ p m c cX11_bundled 4 s ([.ref a0, .int a1, .int a2, .int a3] : List Value).toArray RX11 := C
  have hx := C.1.1
  have hb := C.1.2.1
  have hown := C.1.2.2.2.1
  have hts := C.1.2.2.2.2
  have B : hp_B Γ (cw w_X11_bundled) s α α s.heap [] := ⟨B0.1, B0.2.1, cw_rf g⟩
  have lit0 : (0 : Int32).toInt = 0 := by decide
  have lit1 : (1 : Int32).toInt = 1 := by decide
  have hl := lv_entry ([.ref a0, .int a1, .int a2, .int a3]) (n := 4) (Nat.le_of_ble_eq_true rfl)
  show W p l e (hp_rm 46 0 0) s m ([.ref a0, .int a1, .int a2, .int a3] : List Value).toArray below meth c s.heap [] 0 0 (MQ below (hp_Qi Γ (fun r β => cw w_X11_bundled α β)) ([.ref a0, .int a1, .int a2, .int a3] : List Value).toArray s 0 0 (hp_A Γ)) (entryFrame m ([.ref a0, .int a1, .int a2, .int a3] : List Value).toArray 4)
  rw [lg_entry_eq]
  generalize (lg_sl ([.ref a0, .int a1, .int a2, .int a3]) ++ List.replicate (4 - (lg_sl ([.ref a0, .int a1, .int a2, .int a3])).length) Slot.unset).toArray = ls at hl ⊢
  have hl : lv_has ls 4 [(0, .ref a0), (1, .int a1), (2, .int a2), (3, .int a3)] := hl
  refine lv_iload_n hx hb dX11_bundled_0 rfl (lv_at hl 1 rfl) (hp_n (n := 1) rfl ?_)
  refine q_ci (pc' := 4) B (hp_runS (As := [.int a1]) (rest := []) C B (t_X11_isSet Γ l α B.2.2.1 a1) lb_X11_isSet ls_X11_isSet lk_X11_277 rfl (by decide) rfl hl.1 rfl (Nat.le_of_ble_eq_true rfl) dX11_bundled_1 ⟨Nat.le_refl _, Nat.le_refl _⟩) (fun _ _ h => by rw [h.1]; exact B.2.2) rfl (fun rh_1 αh_1 Hh_1 Lh_1 ph_1 Bh_1 => ?_)
  rw [ph_1.1] at Bh_1
  have zh_1 := ph_1.2
  have J23 : ∀ (Hh_2 : Heap) (Lh_2 : List Loc) (Bh_2 : hp_B Γ (cw w_X11_bundled) s α α Hh_2 Lh_2) (ls : Array Slot) (hl : lv_has ls 4 [(0, .ref a0)]), W p l e (hp_rm 46 0 0) s m ([.ref a0, .int a1, .int a2, .int a3] : List Value).toArray below meth c Hh_2 Lh_2 0 0 (MQ below (hp_Qi Γ (fun r β => cw w_X11_bundled α β)) ([.ref a0, .int a1, .int a2, .int a3] : List Value).toArray s 0 0 (hp_A Γ)) (F0 m 23 ls []) := by
    intro Hh_2 Lh_2 Bh_2 ls hl
    refine lv_aload_n hx hb dX11_bundled_23 rfl (lv_at hl 0 rfl) (hp_n (n := 24) rfl ?_)
    refine lv_iconst (v := 1) hx hb dX11_bundled_24 (by decide) (hp_n (n := 25) rfl ?_)
    refine q_ci (pc' := 28) Bh_2 (hp_runV (As := [.int 1]) (rest := []) C Bh_2 (t_X11_refuse Γ l α Bh_2.2.2.1 a0 (cw_k Bh_2.2.2 k0) 1) lb_X11_refuse lv_X11_refuse lk_X11_98 (cw_k Bh_2.2.2 k0) rfl (by decide) rfl hl.1 rfl (Nat.le_of_ble_eq_true rfl) dX11_bundled_25 ⟨Nat.le_refl _, Nat.le_refl _⟩) (fun _ _ h => cw_tr Bh_2.2.2 h (by decide)) rfl (fun rh_3 αh_3 Hh_3 Lh_3 ph_3 Bh_3 => ?_)
    exact q_iret C Bh_3 hr hlk Bh_3.2.2 dX11_bundled_28
  refine lv_if_eq (tgt := 23) hx hb dX11_bundled_4 (by decide) (fun c_4 => ?_) (fun c_4 => hp_n (n := 7) rfl ?_)
  ·
    have jc_4 := il_eq c_4
    exact J23 Hh_1 Lh_1 Bh_1 ls (lv_sub hl [0] rfl)
  ·
    have jc_4 := il_ne c_4
    refine lv_iload_n hx hb dX11_bundled_7 rfl (lv_at hl 1 rfl) (hp_n (n := 8) rfl ?_)
    refine lv_iload_n hx hb dX11_bundled_8 rfl (lv_at hl 2 rfl) (hp_n (n := 9) rfl ?_)
    refine q_ci (pc' := 12) Bh_1 (hp_runS (As := [.int a1, .int a2]) (rest := []) C Bh_1 (t_X11_lieBelow Γ l α Bh_1.2.2.1 a1 a2) lb_X11_lieBelow ls_X11_lieBelow lk_X11_280 rfl (by decide) rfl hl.1 rfl (Nat.le_of_ble_eq_true rfl) dX11_bundled_9 ⟨Nat.le_refl _, Nat.le_refl _⟩) (fun _ _ h => by rw [h.1]; exact Bh_1.2.2) rfl (fun rh_5 αh_5 Hh_5 Lh_5 ph_5 Bh_5 => ?_)
    rw [ph_5.1] at Bh_5
    have zh_5 := ph_5.2
    refine lv_if_eq (tgt := 23) hx hb dX11_bundled_12 (by decide) (fun c_6 => ?_) (fun c_6 => hp_n (n := 15) rfl ?_)
    ·
      have jc_6 := il_eq c_6
      exact J23 Hh_5 Lh_5 Bh_5 ls (lv_sub hl [0] rfl)
    ·
      have jc_6 := il_ne c_6
      refine lv_aload_n hx hb dX11_bundled_15 rfl (lv_at hl 0 rfl) (hp_n (n := 16) rfl ?_)
      refine lv_iload_n hx hb dX11_bundled_16 rfl (lv_at hl 3 rfl) (hp_n (n := 17) rfl ?_)
      refine q_ci (pc' := 20) Bh_5 (hp_runV (As := [.int a3]) (rest := []) C Bh_5 (t_X11_isMark Γ l α Bh_5.2.2.1 a0 (cw_k Bh_5.2.2 k0) a3) lb_X11_isMark lv_X11_isMark lk_X11_188 (cw_k Bh_5.2.2 k0) rfl (by decide) rfl hl.1 rfl (Nat.le_of_ble_eq_true rfl) dX11_bundled_17 ⟨Nat.le_refl _, Nat.le_refl _⟩) (fun _ _ h => by rw [h.1]; exact Bh_5.2.2) rfl (fun rh_7 αh_7 Hh_7 Lh_7 ph_7 Bh_7 => ?_)
      rw [ph_7.1] at Bh_7
      have zh_7 := ph_7.2
      refine lv_if_ne (tgt := 29) hx hb dX11_bundled_20 (by decide) (fun c_8 => ?_) (fun c_8 => hp_n (n := 23) rfl ?_)
      ·
        have jc_8 := il_ne c_8
        refine lv_aload_n hx hb dX11_bundled_29 rfl (lv_at hl 0 rfl) (hp_n (n := 30) rfl ?_)
        refine q_getr (κ := 12) (k := 12) (φ := 612) (pc' := 33) C Bh_7 (cw_k Bh_7.2.2 k0) fl_X11_62 rfl rfl rfl (cw_r Bh_7.2.2 k0 rfl rfl (by decide) (by decide)) dX11_bundled_30 rfl (fun b_9 eb_9 kb_9 => ?_)
        refine lv_iload_n hx hb dX11_bundled_33 rfl (lv_at hl 1 rfl) (hp_n (n := 34) rfl ?_)
        refine lv_iload_n hx hb dX11_bundled_34 rfl (lv_at hl 2 rfl) (hp_n (n := 35) rfl ?_)
        refine q_cv (pc' := 38) Bh_7 (hp_runV (As := [.int a1, .int a2]) (rest := []) C Bh_7 (t_X8_toBundle Γ l α Bh_7.2.2.1 b_9 (cw_k Bh_7.2.2 kb_9) a1 a2) lb_X8_toBundle lv_X8_toBundle lk_X11_284 (cw_k Bh_7.2.2 kb_9) rfl (by decide) rfl hl.1 rfl (Nat.le_of_ble_eq_true rfl) dX11_bundled_35 ⟨Nat.le_refl _, Nat.le_refl _⟩) (fun _ h => cw_tr Bh_7.2.2 h (by decide)) rfl (fun αh_10 Hh_10 Lh_10 ph_10 Bh_10 => ?_)
        refine lv_aload_n hx hb dX11_bundled_38 rfl (lv_at hl 0 rfl) (hp_n (n := 39) rfl ?_)
        refine lv_aload_n hx hb dX11_bundled_39 rfl (lv_at hl 0 rfl) (hp_n (n := 40) rfl ?_)
        refine q_getr (κ := 12) (k := 15) (φ := 615) (pc' := 43) C Bh_10 (cw_k Bh_10.2.2 k0) fl_X11_75 rfl rfl rfl (cw_r Bh_10.2.2 k0 rfl rfl (by decide) (by decide)) dX11_bundled_40 rfl (fun b_11 eb_11 kb_11 => ?_)
        refine lv_aload_n hx hb dX11_bundled_43 rfl (lv_at hl 0 rfl) (hp_n (n := 44) rfl ?_)
        refine q_getr (κ := 12) (k := 1) (φ := 601) (pc' := 47) C Bh_10 (cw_k Bh_10.2.2 k0) fl_X11_16 rfl rfl rfl (cw_r Bh_10.2.2 k0 rfl rfl (by decide) (by decide)) dX11_bundled_44 rfl (fun b_12 eb_12 kb_12 => ?_)
        refine q_geti (κ := 11) (k := 0) (φ := 550) (pc' := 50) C Bh_10 (cw_k Bh_10.2.2 kb_12) fl_X11_122 rfl rfl rfl dX11_bundled_47 rfl (fun x_13 ex_13 => ?_)
        refine lv_aload_n hx hb dX11_bundled_50 rfl (lv_at hl 0 rfl) (hp_n (n := 51) rfl ?_)
        refine q_getr (κ := 12) (k := 3) (φ := 603) (pc' := 54) C Bh_10 (cw_k Bh_10.2.2 k0) fl_X11_26 rfl rfl rfl (cw_r Bh_10.2.2 k0 rfl rfl (by decide) (by decide)) dX11_bundled_51 rfl (fun b_14 eb_14 kb_14 => ?_)
        refine lv_iload_n hx hb dX11_bundled_54 rfl (lv_at hl 1 rfl) (hp_n (n := 55) rfl ?_)
        refine lv_iload_n hx hb dX11_bundled_55 rfl (lv_at hl 2 rfl) (hp_n (n := 56) rfl ?_)
        refine lv_aload_n hx hb dX11_bundled_56 rfl (lv_at hl 0 rfl) (hp_n (n := 57) rfl ?_)
        have t_15 : b_9 = hp_R αh_10 612 a0 := by rw [cw_R ph_10 a0 (by decide)]; exact eb_9
        refine q_gets (κ := 12) (k := 12) (φ := 612) (pc' := 60) C Bh_10 (cw_k Bh_10.2.2 k0) fl_X11_62 rfl rfl rfl t_15 dX11_bundled_57 rfl ?_
        refine q_geti (κ := 9) (k := 3) (φ := 453) (pc' := 63) C Bh_10 (cw_k Bh_10.2.2 kb_9) fl_X11_312 rfl rfl rfl dX11_bundled_60 rfl (fun x_16 ex_16 => ?_)
        obtain ⟨gx_16a, gx_16b⟩ : 0 ≤ x_16.toInt ∧ x_16.toInt ≤ 64 := by rw [ex_16]; exact Bh_10.2.2.1.1 453 b_9 rfl
        refine lv_iload_n hx hb dX11_bundled_63 rfl (lv_at hl 3 rfl) (hp_n (n := 64) rfl ?_)
        refine q_ci (pc' := 67) Bh_10 (hp_runV (As := [.int x_13, .ref b_14, .int a1, .int a2, .int x_16, .int a3]) (rest := [.ref a0]) C Bh_10 (t_X0_why Γ l αh_10 Bh_10.2.2.1 b_11 (cw_k Bh_10.2.2 kb_11) x_13 b_14 (cw_k Bh_10.2.2 kb_14) a1 a2 x_16 a3) lb_X0_why lv_X0_why lk_X11_313 (cw_k Bh_10.2.2 kb_11) rfl (by decide) rfl hl.1 rfl (Nat.le_of_ble_eq_true rfl) dX11_bundled_64 ⟨Nat.le_refl _, Nat.le_refl _⟩) (fun _ _ h => cw_tr Bh_10.2.2 h (by decide)) rfl (fun rh_17 αh_17 Hh_17 Lh_17 ph_17 Bh_17 => ?_)
        refine q_ci (pc' := 70) Bh_17 (hp_runV (As := [.int rh_17]) (rest := []) C Bh_17 (t_X11_answer Γ l αh_17 Bh_17.2.2.1 a0 (cw_k Bh_17.2.2 k0) rh_17) lb_X11_answer lv_X11_answer lk_X11_115 (cw_k Bh_17.2.2 k0) rfl (by decide) rfl hl.1 rfl (Nat.le_of_ble_eq_true rfl) dX11_bundled_67 ⟨Nat.le_refl _, Nat.le_refl _⟩) (fun _ _ h => cw_tr Bh_17.2.2 h (by decide)) rfl (fun rh_18 αh_18 Hh_18 Lh_18 ph_18 Bh_18 => ?_)
        exact q_iret C Bh_18 hr hlk Bh_18.2.2 dX11_bundled_70
      ·
        have jc_8 := il_eq c_8
        exact J23 Hh_7 Lh_7 Bh_7 ls (lv_sub hl [0] rfl)
abbrev w_X11_fold : cw_W := ([600], [], [], [])
set_option maxRecDepth 100000 in
set_option maxHeartbeats 4000000 in
theorem t_X11_fold (Γ : hp_G) (l : Launch) (α : hp_T) (g : GC α) (a0 : Nat) (k0 : hp_K α a0 = 12) : Met l yX11_fold (hp_ws yX11_fold cX11_fold 1 (some .int)) (hp_rm 2 0 0) (hp_Pc Γ α [.ref a0]) (hp_Qi Γ (fun r β => cw w_X11_fold α β)) 0 0 (hp_A Γ) := by
  refine hp_start (by decide) ?_
  intro p e s m below meth c C hr hlk B0 hnm
  have C : hp_C Γ p m c cX11_fold 1 s ([.ref a0] : List Value).toArray RX11 := C
  have hx := C.1.1
  have hb := C.1.2.1
  have hown := C.1.2.2.2.1
  have hts := C.1.2.2.2.2
  have B : hp_B Γ (cw w_X11_fold) s α α s.heap [] := ⟨B0.1, B0.2.1, cw_rf g⟩
  have hl := lv_entry ([.ref a0]) (n := 1) (Nat.le_of_ble_eq_true rfl)
  show W p l e (hp_rm 2 0 0) s m ([.ref a0] : List Value).toArray below meth c s.heap [] 0 0 (MQ below (hp_Qi Γ (fun r β => cw w_X11_fold α β)) ([.ref a0] : List Value).toArray s 0 0 (hp_A Γ)) (entryFrame m ([.ref a0] : List Value).toArray 1)
  rw [lg_entry_eq]
  generalize (lg_sl ([.ref a0]) ++ List.replicate (1 - (lg_sl ([.ref a0])).length) Slot.unset).toArray = ls at hl ⊢
  have hl : lv_has ls 1 [(0, .ref a0)] := hl
  refine lv_aload_n hx hb dX11_fold_0 rfl (lv_at hl 0 rfl) (hp_n (n := 1) rfl ?_)
  refine lv_aload_n hx hb dX11_fold_1 rfl (lv_at hl 0 rfl) (hp_n (n := 2) rfl ?_)
  refine q_getr (κ := 12) (k := 3) (φ := 603) (pc' := 5) C B (cw_k B.2.2 k0) fl_X11_26 rfl rfl rfl (cw_r B.2.2 k0 rfl rfl (by decide) (by decide)) dX11_fold_2 rfl (fun b_1 eb_1 kb_1 => ?_)
  refine lv_aload_n hx hb dX11_fold_5 rfl (lv_at hl 0 rfl) (hp_n (n := 6) rfl ?_)
  refine q_getr (κ := 12) (k := 1) (φ := 601) (pc' := 9) C B (cw_k B.2.2 k0) fl_X11_16 rfl rfl rfl (cw_r B.2.2 k0 rfl rfl (by decide) (by decide)) dX11_fold_6 rfl (fun b_2 eb_2 kb_2 => ?_)
  refine q_geti (κ := 11) (k := 0) (φ := 550) (pc' := 12) C B (cw_k B.2.2 kb_2) fl_X11_122 rfl rfl rfl dX11_fold_9 rfl (fun x_3 ex_3 => ?_)
  refine q_ci (pc' := 15) B (hp_runV (As := [.int x_3]) (rest := [.ref a0]) C B (t_X5_foldedPeaks Γ l α B.2.2.1 b_1 (cw_k B.2.2 kb_1) x_3) lb_X5_foldedPeaks lv_X5_foldedPeaks lk_X11_316 (cw_k B.2.2 kb_1) rfl (by decide) rfl hl.1 rfl (Nat.le_of_ble_eq_true rfl) dX11_fold_12 ⟨Nat.le_refl _, Nat.le_refl _⟩) (fun _ _ h => by rw [h]; exact B.2.2) rfl (fun rh_4 αh_4 Hh_4 Lh_4 ph_4 Bh_4 => ?_)
  rw [ph_4] at Bh_4
  refine q_ci (pc' := 18) Bh_4 (hp_runV (As := [.int rh_4]) (rest := []) C Bh_4 (t_X11_answer Γ l α Bh_4.2.2.1 a0 (cw_k Bh_4.2.2 k0) rh_4) lb_X11_answer lv_X11_answer lk_X11_115 (cw_k Bh_4.2.2 k0) rfl (by decide) rfl hl.1 rfl (Nat.le_of_ble_eq_true rfl) dX11_fold_15 ⟨Nat.le_refl _, Nat.le_refl _⟩) (fun _ _ h => cw_tr Bh_4.2.2 h (by decide)) rfl (fun rh_5 αh_5 Hh_5 Lh_5 ph_5 Bh_5 => ?_)
  exact q_iret C Bh_5 hr hlk Bh_5.2.2 dX11_fold_18
abbrev w_X11_steps : cw_W := ([453, 454, 600], [], [21, 22, 23], [])
set_option maxRecDepth 100000 in
set_option maxHeartbeats 4000000 in
theorem t_X11_steps (Γ : hp_G) (l : Launch) (α : hp_T) (g : GC α) (a0 : Nat) (k0 : hp_K α a0 = 12) (a1 : Int32) (a2 : Int32) : Met l yX11_steps (hp_ws yX11_steps cX11_steps 3 (some .int)) (hp_rm 4 0 0) (hp_Pc Γ α [.ref a0, .int a1, .int a2]) (hp_Qi Γ (fun r β => cw w_X11_steps α β)) 0 0 (hp_A Γ) := by
  refine hp_start (by decide) ?_
  intro p e s m below meth c C hr hlk B0 hnm
  have C : hp_C Γ p m c cX11_steps 3 s ([.ref a0, .int a1, .int a2] : List Value).toArray RX11 := C
  have hx := C.1.1
  have hb := C.1.2.1
  have hown := C.1.2.2.2.1
  have hts := C.1.2.2.2.2
  have B : hp_B Γ (cw w_X11_steps) s α α s.heap [] := ⟨B0.1, B0.2.1, cw_rf g⟩
  have lit0 : (0 : Int32).toInt = 0 := by decide
  have lit1 : (1 : Int32).toInt = 1 := by decide
  have hl := lv_entry ([.ref a0, .int a1, .int a2]) (n := 3) (Nat.le_of_ble_eq_true rfl)
  show W p l e (hp_rm 4 0 0) s m ([.ref a0, .int a1, .int a2] : List Value).toArray below meth c s.heap [] 0 0 (MQ below (hp_Qi Γ (fun r β => cw w_X11_steps α β)) ([.ref a0, .int a1, .int a2] : List Value).toArray s 0 0 (hp_A Γ)) (entryFrame m ([.ref a0, .int a1, .int a2] : List Value).toArray 3)
  rw [lg_entry_eq]
  generalize (lg_sl ([.ref a0, .int a1, .int a2]) ++ List.replicate (3 - (lg_sl ([.ref a0, .int a1, .int a2])).length) Slot.unset).toArray = ls at hl ⊢
  have hl : lv_has ls 3 [(0, .ref a0), (1, .int a1), (2, .int a2)] := hl
  refine lv_iload_n hx hb dX11_steps_0 rfl (lv_at hl 1 rfl) (hp_n (n := 1) rfl ?_)
  refine lv_iload_n hx hb dX11_steps_1 rfl (lv_at hl 2 rfl) (hp_n (n := 2) rfl ?_)
  refine q_ci (pc' := 5) B (hp_runS (As := [.int a1, .int a2]) (rest := []) C B (t_X11_isThing Γ l α B.2.2.1 a1 a2) lb_X11_isThing ls_X11_isThing lk_X11_301 rfl (by decide) rfl hl.1 rfl (Nat.le_of_ble_eq_true rfl) dX11_steps_2 ⟨Nat.le_refl _, Nat.le_refl _⟩) (fun _ _ h => by rw [h.1]; exact B.2.2) rfl (fun rh_1 αh_1 Hh_1 Lh_1 ph_1 Bh_1 => ?_)
  rw [ph_1.1] at Bh_1
  have zh_1 := ph_1.2
  refine lv_if_ne (tgt := 14) hx hb dX11_steps_5 (by decide) (fun c_2 => ?_) (fun c_2 => hp_n (n := 8) rfl ?_)
  ·
    have jc_2 := il_ne c_2
    refine lv_aload_n hx hb dX11_steps_14 rfl (lv_at hl 0 rfl) (hp_n (n := 15) rfl ?_)
    refine q_getr (κ := 12) (k := 12) (φ := 612) (pc' := 18) C Bh_1 (cw_k Bh_1.2.2 k0) fl_X11_62 rfl rfl rfl (cw_r Bh_1.2.2 k0 rfl rfl (by decide) (by decide)) dX11_steps_15 rfl (fun b_3 eb_3 kb_3 => ?_)
    refine lv_iload_n hx hb dX11_steps_18 rfl (lv_at hl 1 rfl) (hp_n (n := 19) rfl ?_)
    refine lv_iload_n hx hb dX11_steps_19 rfl (lv_at hl 2 rfl) (hp_n (n := 20) rfl ?_)
    refine q_cv (pc' := 23) Bh_1 (hp_runV (As := [.int a1, .int a2]) (rest := []) C Bh_1 (t_X8_toThing Γ l α Bh_1.2.2.1 b_3 (cw_k Bh_1.2.2 kb_3) a1 a2) lb_X8_toThing lv_X8_toThing lk_X11_267 (cw_k Bh_1.2.2 kb_3) rfl (by decide) rfl hl.1 rfl (Nat.le_of_ble_eq_true rfl) dX11_steps_20 ⟨Nat.le_refl _, Nat.le_refl _⟩) (fun _ h => cw_tr Bh_1.2.2 h (by decide)) rfl (fun αh_4 Hh_4 Lh_4 ph_4 Bh_4 => ?_)
    refine lv_aload_n hx hb dX11_steps_23 rfl (lv_at hl 0 rfl) (hp_n (n := 24) rfl ?_)
    refine lv_aload_n hx hb dX11_steps_24 rfl (lv_at hl 0 rfl) (hp_n (n := 25) rfl ?_)
    have t_5 : b_3 = hp_R αh_4 612 a0 := by rw [cw_R ph_4 a0 (by decide)]; exact eb_3
    refine q_gets (κ := 12) (k := 12) (φ := 612) (pc' := 28) C Bh_4 (cw_k Bh_4.2.2 k0) fl_X11_62 rfl rfl rfl t_5 dX11_steps_25 rfl ?_
    refine q_geti (κ := 9) (k := 3) (φ := 453) (pc' := 31) C Bh_4 (cw_k Bh_4.2.2 kb_3) fl_X11_312 rfl rfl rfl dX11_steps_28 rfl (fun x_6 ex_6 => ?_)
    obtain ⟨gx_6a, gx_6b⟩ : 0 ≤ x_6.toInt ∧ x_6.toInt ≤ 64 := by rw [ex_6]; exact Bh_4.2.2.1.1 453 b_3 rfl
    refine q_ci (pc' := 34) Bh_4 (hp_runV (As := [.int x_6]) (rest := []) C Bh_4 (t_X11_answer Γ l αh_4 Bh_4.2.2.1 a0 (cw_k Bh_4.2.2 k0) x_6) lb_X11_answer lv_X11_answer lk_X11_115 (cw_k Bh_4.2.2 k0) rfl (by decide) rfl hl.1 rfl (Nat.le_of_ble_eq_true rfl) dX11_steps_31 ⟨Nat.le_refl _, Nat.le_refl _⟩) (fun _ _ h => cw_tr Bh_4.2.2 h (by decide)) rfl (fun rh_7 αh_7 Hh_7 Lh_7 ph_7 Bh_7 => ?_)
    exact q_iret C Bh_7 hr hlk Bh_7.2.2 dX11_steps_34
  ·
    have jc_2 := il_eq c_2
    refine lv_aload_n hx hb dX11_steps_8 rfl (lv_at hl 0 rfl) (hp_n (n := 9) rfl ?_)
    refine lv_iconst (v := 1) hx hb dX11_steps_9 (by decide) (hp_n (n := 10) rfl ?_)
    refine q_ci (pc' := 13) Bh_1 (hp_runV (As := [.int 1]) (rest := []) C Bh_1 (t_X11_refuse Γ l α Bh_1.2.2.1 a0 (cw_k Bh_1.2.2 k0) 1) lb_X11_refuse lv_X11_refuse lk_X11_98 (cw_k Bh_1.2.2 k0) rfl (by decide) rfl hl.1 rfl (Nat.le_of_ble_eq_true rfl) dX11_steps_10 ⟨Nat.le_refl _, Nat.le_refl _⟩) (fun _ _ h => cw_tr Bh_1.2.2 h (by decide)) rfl (fun rh_8 αh_8 Hh_8 Lh_8 ph_8 Bh_8 => ?_)
    exact q_iret C Bh_8 hr hlk Bh_8.2.2 dX11_steps_13
abbrev w_X11_climbs : cw_W := ([453, 454, 600], [], [21, 22, 23], [])
set_option maxRecDepth 100000 in
set_option maxHeartbeats 4000000 in
theorem t_X11_climbs (Γ : hp_G) (l : Launch) (α : hp_T) (g : GC α) (a0 : Nat) (k0 : hp_K α a0 = 12) (a1 : Int32) (a2 : Int32) : Met l yX11_climbs (hp_ws yX11_climbs cX11_climbs 3 (some .int)) (hp_rm 4 0 0) (hp_Pc Γ α [.ref a0, .int a1, .int a2]) (hp_Qi Γ (fun r β => cw w_X11_climbs α β)) 0 0 (hp_A Γ) := by
  refine hp_start (by decide) ?_
  intro p e s m below meth c C hr hlk B0 hnm
  have C : hp_C Γ p m c cX11_climbs 3 s ([.ref a0, .int a1, .int a2] : List Value).toArray RX11 := C
  have hx := C.1.1
  have hb := C.1.2.1
  have hown := C.1.2.2.2.1
  have hts := C.1.2.2.2.2
  have B : hp_B Γ (cw w_X11_climbs) s α α s.heap [] := ⟨B0.1, B0.2.1, cw_rf g⟩
  have lit0 : (0 : Int32).toInt = 0 := by decide
  have lit1 : (1 : Int32).toInt = 1 := by decide
  have hl := lv_entry ([.ref a0, .int a1, .int a2]) (n := 3) (Nat.le_of_ble_eq_true rfl)
  show W p l e (hp_rm 4 0 0) s m ([.ref a0, .int a1, .int a2] : List Value).toArray below meth c s.heap [] 0 0 (MQ below (hp_Qi Γ (fun r β => cw w_X11_climbs α β)) ([.ref a0, .int a1, .int a2] : List Value).toArray s 0 0 (hp_A Γ)) (entryFrame m ([.ref a0, .int a1, .int a2] : List Value).toArray 3)
  rw [lg_entry_eq]
  generalize (lg_sl ([.ref a0, .int a1, .int a2]) ++ List.replicate (3 - (lg_sl ([.ref a0, .int a1, .int a2])).length) Slot.unset).toArray = ls at hl ⊢
  have hl : lv_has ls 3 [(0, .ref a0), (1, .int a1), (2, .int a2)] := hl
  refine lv_iload_n hx hb dX11_climbs_0 rfl (lv_at hl 1 rfl) (hp_n (n := 1) rfl ?_)
  have J9 : ∀ (Hh_1 : Heap) (Lh_1 : List Loc) (Bh_1 : hp_B Γ (cw w_X11_climbs) s α α Hh_1 Lh_1) (ls : Array Slot) (hl : lv_has ls 3 [(0, .ref a0)]), W p l e (hp_rm 4 0 0) s m ([.ref a0, .int a1, .int a2] : List Value).toArray below meth c Hh_1 Lh_1 0 0 (MQ below (hp_Qi Γ (fun r β => cw w_X11_climbs α β)) ([.ref a0, .int a1, .int a2] : List Value).toArray s 0 0 (hp_A Γ)) (F0 m 9 ls []) := by
    intro Hh_1 Lh_1 Bh_1 ls hl
    refine lv_aload_n hx hb dX11_climbs_9 rfl (lv_at hl 0 rfl) (hp_n (n := 10) rfl ?_)
    refine lv_iconst (v := 1) hx hb dX11_climbs_10 (by decide) (hp_n (n := 11) rfl ?_)
    refine q_ci (pc' := 14) Bh_1 (hp_runV (As := [.int 1]) (rest := []) C Bh_1 (t_X11_refuse Γ l α Bh_1.2.2.1 a0 (cw_k Bh_1.2.2 k0) 1) lb_X11_refuse lv_X11_refuse lk_X11_98 (cw_k Bh_1.2.2 k0) rfl (by decide) rfl hl.1 rfl (Nat.le_of_ble_eq_true rfl) dX11_climbs_11 ⟨Nat.le_refl _, Nat.le_refl _⟩) (fun _ _ h => cw_tr Bh_1.2.2 h (by decide)) rfl (fun rh_2 αh_2 Hh_2 Lh_2 ph_2 Bh_2 => ?_)
    exact q_iret C Bh_2 hr hlk Bh_2.2.2 dX11_climbs_14
  refine lv_if_lt (tgt := 9) hx hb dX11_climbs_1 (by decide) (fun c_3 => ?_) (fun c_3 => hp_n (n := 4) rfl ?_)
  ·
    have jc_3 := il_lt c_3
    exact J9 s.heap [] B ls (lv_sub hl [0] rfl)
  ·
    have jc_3 := il_nlt c_3
    refine lv_iload_n hx hb dX11_climbs_4 rfl (lv_at hl 1 rfl) (hp_n (n := 5) rfl ?_)
    refine lv_iload_n hx hb dX11_climbs_5 rfl (lv_at hl 2 rfl) (hp_n (n := 6) rfl ?_)
    refine lv_icmp_le (tgt := 15) hx hb dX11_climbs_6 (by decide) (fun c_4 => ?_) (fun c_4 => hp_n (n := 9) rfl ?_)
    ·
      have jc_4 := il_le c_4
      refine lv_aload_n hx hb dX11_climbs_15 rfl (lv_at hl 0 rfl) (hp_n (n := 16) rfl ?_)
      refine q_getr (κ := 12) (k := 12) (φ := 612) (pc' := 19) C B (cw_k B.2.2 k0) fl_X11_62 rfl rfl rfl (cw_r B.2.2 k0 rfl rfl (by decide) (by decide)) dX11_climbs_16 rfl (fun b_5 eb_5 kb_5 => ?_)
      refine lv_iload_n hx hb dX11_climbs_19 rfl (lv_at hl 1 rfl) (hp_n (n := 20) rfl ?_)
      refine lv_iload_n hx hb dX11_climbs_20 rfl (lv_at hl 2 rfl) (hp_n (n := 21) rfl ?_)
      refine q_cv (pc' := 24) B (hp_runV (As := [.int a1, .int a2]) (rest := []) C B (t_X8_toGrowth Γ l α B.2.2.1 b_5 (cw_k B.2.2 kb_5) a1 a2) lb_X8_toGrowth lv_X8_toGrowth lk_X11_274 (cw_k B.2.2 kb_5) rfl (by decide) rfl hl.1 rfl (Nat.le_of_ble_eq_true rfl) dX11_climbs_21 ⟨Nat.le_refl _, Nat.le_refl _⟩) (fun _ h => cw_tr B.2.2 h (by decide)) rfl (fun αh_6 Hh_6 Lh_6 ph_6 Bh_6 => ?_)
      refine lv_aload_n hx hb dX11_climbs_24 rfl (lv_at hl 0 rfl) (hp_n (n := 25) rfl ?_)
      refine lv_aload_n hx hb dX11_climbs_25 rfl (lv_at hl 0 rfl) (hp_n (n := 26) rfl ?_)
      have t_7 : b_5 = hp_R αh_6 612 a0 := by rw [cw_R ph_6 a0 (by decide)]; exact eb_5
      refine q_gets (κ := 12) (k := 12) (φ := 612) (pc' := 29) C Bh_6 (cw_k Bh_6.2.2 k0) fl_X11_62 rfl rfl rfl t_7 dX11_climbs_26 rfl ?_
      refine q_geti (κ := 9) (k := 3) (φ := 453) (pc' := 32) C Bh_6 (cw_k Bh_6.2.2 kb_5) fl_X11_312 rfl rfl rfl dX11_climbs_29 rfl (fun x_8 ex_8 => ?_)
      obtain ⟨gx_8a, gx_8b⟩ : 0 ≤ x_8.toInt ∧ x_8.toInt ≤ 64 := by rw [ex_8]; exact Bh_6.2.2.1.1 453 b_5 rfl
      refine q_ci (pc' := 35) Bh_6 (hp_runV (As := [.int x_8]) (rest := []) C Bh_6 (t_X11_answer Γ l αh_6 Bh_6.2.2.1 a0 (cw_k Bh_6.2.2 k0) x_8) lb_X11_answer lv_X11_answer lk_X11_115 (cw_k Bh_6.2.2 k0) rfl (by decide) rfl hl.1 rfl (Nat.le_of_ble_eq_true rfl) dX11_climbs_32 ⟨Nat.le_refl _, Nat.le_refl _⟩) (fun _ _ h => cw_tr Bh_6.2.2 h (by decide)) rfl (fun rh_9 αh_9 Hh_9 Lh_9 ph_9 Bh_9 => ?_)
      exact q_iret C Bh_9 hr hlk Bh_9.2.2 dX11_climbs_35
    ·
      have jc_4 := il_nle c_4
      exact J9 s.heap [] B ls (lv_sub hl [0] rfl)
abbrev w_X11_agree : cw_W := ([600], [], [33], [])
set_option maxRecDepth 100000 in
set_option maxHeartbeats 4000000 in
theorem t_X11_agree (Γ : hp_G) (l : Launch) (α : hp_T) (g : GC α) (a0 : Nat) (k0 : hp_K α a0 = 12) (a1 : Int32) (a2 : Int32) : Met l yX11_agree (hp_ws yX11_agree cX11_agree 5 (some .int)) (hp_rm 5 0 0) (hp_Pc Γ α [.ref a0, .int a1, .int a2]) (hp_Qi Γ (fun r β => cw w_X11_agree α β)) 0 0 (hp_A Γ) := by
  refine hp_start (by decide) ?_
  intro p e s m below meth c C hr hlk B0 hnm
  have C : hp_C Γ p m c cX11_agree 5 s ([.ref a0, .int a1, .int a2] : List Value).toArray RX11 := C
  have hx := C.1.1
  have hb := C.1.2.1
  have hown := C.1.2.2.2.1
  have hts := C.1.2.2.2.2
  have B : hp_B Γ (cw w_X11_agree) s α α s.heap [] := ⟨B0.1, B0.2.1, cw_rf g⟩
  have lit0 : (0 : Int32).toInt = 0 := by decide
  have lit1 : (1 : Int32).toInt = 1 := by decide
  have lit2 : (2 : Int32).toInt = 2 := by decide
  have hl := lv_entry ([.ref a0, .int a1, .int a2]) (n := 5) (Nat.le_of_ble_eq_true rfl)
  show W p l e (hp_rm 5 0 0) s m ([.ref a0, .int a1, .int a2] : List Value).toArray below meth c s.heap [] 0 0 (MQ below (hp_Qi Γ (fun r β => cw w_X11_agree α β)) ([.ref a0, .int a1, .int a2] : List Value).toArray s 0 0 (hp_A Γ)) (entryFrame m ([.ref a0, .int a1, .int a2] : List Value).toArray 5)
  rw [lg_entry_eq]
  generalize (lg_sl ([.ref a0, .int a1, .int a2]) ++ List.replicate (5 - (lg_sl ([.ref a0, .int a1, .int a2])).length) Slot.unset).toArray = ls at hl ⊢
  have hl : lv_has ls 5 [(0, .ref a0), (1, .int a1), (2, .int a2)] := hl
  refine lv_aload_n hx hb dX11_agree_0 rfl (lv_at hl 0 rfl) (hp_n (n := 1) rfl ?_)
  refine q_getr (κ := 12) (k := 1) (φ := 601) (pc' := 4) C B (cw_k B.2.2 k0) fl_X11_16 rfl rfl rfl (cw_r B.2.2 k0 rfl rfl (by decide) (by decide)) dX11_agree_1 rfl (fun b_1 eb_1 kb_1 => ?_)
  refine lv_iload_n hx hb dX11_agree_4 rfl (lv_at hl 1 rfl) (hp_n (n := 5) rfl ?_)
  refine q_cq (pc' := 8) B (hp_runV (As := [.int a1]) (rest := []) C B (t_X10_watcherAt Γ l α B.2.2.1 b_1 (cw_k B.2.2 kb_1) a1) lb_X10_watcherAt lv_X10_watcherAt lk_X11_220 (cw_k B.2.2 kb_1) rfl (by decide) rfl hl.1 rfl (Nat.le_of_ble_eq_true rfl) dX11_agree_5 ⟨Nat.le_refl _, Nat.le_refl _⟩) (fun _ _ h => by rw [h.1]; exact B.2.2) rfl (fun rh_2 αh_2 Hh_2 Lh_2 ph_2 Bh_2 => ?_)
  rw [ph_2.1] at Bh_2
  rcases rh_2 with _ | bh_2
  ·
    refine lv_astore_nN (lv' := [(3, .null), (0, .ref a0), (1, .int a1), (2, .int a2)]) hx hb dX11_agree_8 rfl hl (by decide) rfl (fun ls hl => hp_n (n := 9) rfl ?_)
    refine lv_aload_n hx hb dX11_agree_9 rfl (lv_at hl 1 rfl) (hp_n (n := 10) rfl ?_)
    refine q_gets (κ := 12) (k := 1) (φ := 601) (pc' := 13) C Bh_2 (cw_k Bh_2.2.2 k0) fl_X11_16 rfl rfl rfl eb_1 dX11_agree_10 rfl ?_
    refine lv_iload_n hx hb dX11_agree_13 rfl (lv_at hl 3 rfl) (hp_n (n := 14) rfl ?_)
    refine q_cq (pc' := 17) Bh_2 (hp_runV (As := [.int a2]) (rest := []) C Bh_2 (t_X10_watcherAt Γ l α Bh_2.2.2.1 b_1 (cw_k Bh_2.2.2 kb_1) a2) lb_X10_watcherAt lv_X10_watcherAt lk_X11_220 (cw_k Bh_2.2.2 kb_1) rfl (by decide) rfl hl.1 rfl (Nat.le_of_ble_eq_true rfl) dX11_agree_14 ⟨Nat.le_refl _, Nat.le_refl _⟩) (fun _ _ h => by rw [h.1]; exact Bh_2.2.2) rfl (fun rh_3 αh_3 Hh_3 Lh_3 ph_3 Bh_3 => ?_)
    rw [ph_3.1] at Bh_3
    rcases rh_3 with _ | bh_3
    ·
      refine lv_astoreN (lv' := [(4, .null), (3, .null), (0, .ref a0), (1, .int a1), (2, .int a2)]) hx hb dX11_agree_17 hl (by decide) rfl (fun ls hl => hp_n (n := 19) rfl ?_)
      refine lv_aload_nN hx hb dX11_agree_19 rfl (lv_at hl 1 rfl) (hp_n (n := 20) rfl ?_)
      have J28 : ∀ (Hh_4 : Heap) (Lh_4 : List Loc) (Bh_4 : hp_B Γ (cw w_X11_agree) s α α Hh_4 Lh_4) (ls : Array Slot) (hl : lv_has ls 5 [(0, .ref a0)]), W p l e (hp_rm 5 0 0) s m ([.ref a0, .int a1, .int a2] : List Value).toArray below meth c Hh_4 Lh_4 0 0 (MQ below (hp_Qi Γ (fun r β => cw w_X11_agree α β)) ([.ref a0, .int a1, .int a2] : List Value).toArray s 0 0 (hp_A Γ)) (F0 m 28 ls []) := by
        intro Hh_4 Lh_4 Bh_4 ls hl
        refine lv_aload_n hx hb dX11_agree_28 rfl (lv_at hl 0 rfl) (hp_n (n := 29) rfl ?_)
        refine lv_iconst (v := 2) hx hb dX11_agree_29 (by decide) (hp_n (n := 30) rfl ?_)
        refine q_ci (pc' := 33) Bh_4 (hp_runV (As := [.int 2]) (rest := []) C Bh_4 (t_X11_refuse Γ l α Bh_4.2.2.1 a0 (cw_k Bh_4.2.2 k0) 2) lb_X11_refuse lv_X11_refuse lk_X11_98 (cw_k Bh_4.2.2 k0) rfl (by decide) rfl hl.1 rfl (Nat.le_of_ble_eq_true rfl) dX11_agree_30 ⟨Nat.le_refl _, Nat.le_refl _⟩) (fun _ _ h => cw_tr Bh_4.2.2 h (by decide)) rfl (fun rh_5 αh_5 Hh_5 Lh_5 ph_5 Bh_5 => ?_)
        exact q_iret C Bh_5 hr hlk Bh_5.2.2 dX11_agree_33
      refine lv_ifnullN (tgt := 28) hx hb dX11_agree_20 (by decide) ?_
      exact J28 Hh_3 Lh_3 Bh_3 ls (lv_sub hl [2] rfl)
    ·
      have kbh_3 : hp_K α bh_3 = 8 := cw_k' Bh_3.2.2 (ph_3.2 bh_3 rfl)
      refine lv_astore (lv' := [(4, .ref bh_3), (3, .null), (0, .ref a0), (1, .int a1), (2, .int a2)]) hx hb dX11_agree_17 hl (by decide) rfl (fun ls hl => hp_n (n := 19) rfl ?_)
      refine lv_aload_nN hx hb dX11_agree_19 rfl (lv_at hl 1 rfl) (hp_n (n := 20) rfl ?_)
      have J28 : ∀ (Hh_6 : Heap) (Lh_6 : List Loc) (Bh_6 : hp_B Γ (cw w_X11_agree) s α α Hh_6 Lh_6) (ls : Array Slot) (hl : lv_has ls 5 [(0, .ref a0)]), W p l e (hp_rm 5 0 0) s m ([.ref a0, .int a1, .int a2] : List Value).toArray below meth c Hh_6 Lh_6 0 0 (MQ below (hp_Qi Γ (fun r β => cw w_X11_agree α β)) ([.ref a0, .int a1, .int a2] : List Value).toArray s 0 0 (hp_A Γ)) (F0 m 28 ls []) := by
        intro Hh_6 Lh_6 Bh_6 ls hl
        refine lv_aload_n hx hb dX11_agree_28 rfl (lv_at hl 0 rfl) (hp_n (n := 29) rfl ?_)
        refine lv_iconst (v := 2) hx hb dX11_agree_29 (by decide) (hp_n (n := 30) rfl ?_)
        refine q_ci (pc' := 33) Bh_6 (hp_runV (As := [.int 2]) (rest := []) C Bh_6 (t_X11_refuse Γ l α Bh_6.2.2.1 a0 (cw_k Bh_6.2.2 k0) 2) lb_X11_refuse lv_X11_refuse lk_X11_98 (cw_k Bh_6.2.2 k0) rfl (by decide) rfl hl.1 rfl (Nat.le_of_ble_eq_true rfl) dX11_agree_30 ⟨Nat.le_refl _, Nat.le_refl _⟩) (fun _ _ h => cw_tr Bh_6.2.2 h (by decide)) rfl (fun rh_7 αh_7 Hh_7 Lh_7 ph_7 Bh_7 => ?_)
        exact q_iret C Bh_7 hr hlk Bh_7.2.2 dX11_agree_33
      refine lv_ifnullN (tgt := 28) hx hb dX11_agree_20 (by decide) ?_
      exact J28 Hh_3 Lh_3 Bh_3 ls (lv_sub hl [2] rfl)
  ·
    have kbh_2 : hp_K α bh_2 = 8 := cw_k' Bh_2.2.2 (ph_2.2 bh_2 rfl)
    refine lv_astore_n (lv' := [(3, .ref bh_2), (0, .ref a0), (1, .int a1), (2, .int a2)]) hx hb dX11_agree_8 rfl hl (by decide) rfl (fun ls hl => hp_n (n := 9) rfl ?_)
    refine lv_aload_n hx hb dX11_agree_9 rfl (lv_at hl 1 rfl) (hp_n (n := 10) rfl ?_)
    refine q_gets (κ := 12) (k := 1) (φ := 601) (pc' := 13) C Bh_2 (cw_k Bh_2.2.2 k0) fl_X11_16 rfl rfl rfl eb_1 dX11_agree_10 rfl ?_
    refine lv_iload_n hx hb dX11_agree_13 rfl (lv_at hl 3 rfl) (hp_n (n := 14) rfl ?_)
    refine q_cq (pc' := 17) Bh_2 (hp_runV (As := [.int a2]) (rest := []) C Bh_2 (t_X10_watcherAt Γ l α Bh_2.2.2.1 b_1 (cw_k Bh_2.2.2 kb_1) a2) lb_X10_watcherAt lv_X10_watcherAt lk_X11_220 (cw_k Bh_2.2.2 kb_1) rfl (by decide) rfl hl.1 rfl (Nat.le_of_ble_eq_true rfl) dX11_agree_14 ⟨Nat.le_refl _, Nat.le_refl _⟩) (fun _ _ h => by rw [h.1]; exact Bh_2.2.2) rfl (fun rh_8 αh_8 Hh_8 Lh_8 ph_8 Bh_8 => ?_)
    rw [ph_8.1] at Bh_8
    rcases rh_8 with _ | bh_8
    ·
      refine lv_astoreN (lv' := [(4, .null), (3, .ref bh_2), (0, .ref a0), (1, .int a1), (2, .int a2)]) hx hb dX11_agree_17 hl (by decide) rfl (fun ls hl => hp_n (n := 19) rfl ?_)
      refine lv_aload_n hx hb dX11_agree_19 rfl (lv_at hl 1 rfl) (hp_n (n := 20) rfl ?_)
      have J28 : ∀ (Hh_9 : Heap) (Lh_9 : List Loc) (Bh_9 : hp_B Γ (cw w_X11_agree) s α α Hh_9 Lh_9) (ls : Array Slot) (hl : lv_has ls 5 [(0, .ref a0)]), W p l e (hp_rm 5 0 0) s m ([.ref a0, .int a1, .int a2] : List Value).toArray below meth c Hh_9 Lh_9 0 0 (MQ below (hp_Qi Γ (fun r β => cw w_X11_agree α β)) ([.ref a0, .int a1, .int a2] : List Value).toArray s 0 0 (hp_A Γ)) (F0 m 28 ls []) := by
        intro Hh_9 Lh_9 Bh_9 ls hl
        refine lv_aload_n hx hb dX11_agree_28 rfl (lv_at hl 0 rfl) (hp_n (n := 29) rfl ?_)
        refine lv_iconst (v := 2) hx hb dX11_agree_29 (by decide) (hp_n (n := 30) rfl ?_)
        refine q_ci (pc' := 33) Bh_9 (hp_runV (As := [.int 2]) (rest := []) C Bh_9 (t_X11_refuse Γ l α Bh_9.2.2.1 a0 (cw_k Bh_9.2.2 k0) 2) lb_X11_refuse lv_X11_refuse lk_X11_98 (cw_k Bh_9.2.2 k0) rfl (by decide) rfl hl.1 rfl (Nat.le_of_ble_eq_true rfl) dX11_agree_30 ⟨Nat.le_refl _, Nat.le_refl _⟩) (fun _ _ h => cw_tr Bh_9.2.2 h (by decide)) rfl (fun rh_10 αh_10 Hh_10 Lh_10 ph_10 Bh_10 => ?_)
        exact q_iret C Bh_10 hr hlk Bh_10.2.2 dX11_agree_33
      refine lv_ifnull hx hb dX11_agree_20 (hp_n (n := 23) rfl ?_)
      refine lv_aloadN hx hb dX11_agree_23 (lv_at hl 0 rfl) (hp_n (n := 25) rfl ?_)
      refine lv_ifnonnullN hx hb dX11_agree_25 (hp_n (n := 28) rfl ?_)
      exact J28 Hh_8 Lh_8 Bh_8 ls (lv_sub hl [2] rfl)
    ·
      have kbh_8 : hp_K α bh_8 = 8 := cw_k' Bh_8.2.2 (ph_8.2 bh_8 rfl)
      refine lv_astore (lv' := [(4, .ref bh_8), (3, .ref bh_2), (0, .ref a0), (1, .int a1), (2, .int a2)]) hx hb dX11_agree_17 hl (by decide) rfl (fun ls hl => hp_n (n := 19) rfl ?_)
      refine lv_aload_n hx hb dX11_agree_19 rfl (lv_at hl 1 rfl) (hp_n (n := 20) rfl ?_)
      have J28 : ∀ (Hh_11 : Heap) (Lh_11 : List Loc) (Bh_11 : hp_B Γ (cw w_X11_agree) s α α Hh_11 Lh_11) (ls : Array Slot) (hl : lv_has ls 5 [(0, .ref a0)]), W p l e (hp_rm 5 0 0) s m ([.ref a0, .int a1, .int a2] : List Value).toArray below meth c Hh_11 Lh_11 0 0 (MQ below (hp_Qi Γ (fun r β => cw w_X11_agree α β)) ([.ref a0, .int a1, .int a2] : List Value).toArray s 0 0 (hp_A Γ)) (F0 m 28 ls []) := by
        intro Hh_11 Lh_11 Bh_11 ls hl
        refine lv_aload_n hx hb dX11_agree_28 rfl (lv_at hl 0 rfl) (hp_n (n := 29) rfl ?_)
        refine lv_iconst (v := 2) hx hb dX11_agree_29 (by decide) (hp_n (n := 30) rfl ?_)
        refine q_ci (pc' := 33) Bh_11 (hp_runV (As := [.int 2]) (rest := []) C Bh_11 (t_X11_refuse Γ l α Bh_11.2.2.1 a0 (cw_k Bh_11.2.2 k0) 2) lb_X11_refuse lv_X11_refuse lk_X11_98 (cw_k Bh_11.2.2 k0) rfl (by decide) rfl hl.1 rfl (Nat.le_of_ble_eq_true rfl) dX11_agree_30 ⟨Nat.le_refl _, Nat.le_refl _⟩) (fun _ _ h => cw_tr Bh_11.2.2 h (by decide)) rfl (fun rh_12 αh_12 Hh_12 Lh_12 ph_12 Bh_12 => ?_)
        exact q_iret C Bh_12 hr hlk Bh_12.2.2 dX11_agree_33
      refine lv_ifnull hx hb dX11_agree_20 (hp_n (n := 23) rfl ?_)
      refine lv_aload hx hb dX11_agree_23 (lv_at hl 0 rfl) (hp_n (n := 25) rfl ?_)
      refine lv_ifnonnull (tgt := 34) hx hb dX11_agree_25 (by decide) ?_
      refine lv_aload_n hx hb dX11_agree_34 rfl (lv_at hl 2 rfl) (hp_n (n := 35) rfl ?_)
      refine lv_aload_n hx hb dX11_agree_35 rfl (lv_at hl 2 rfl) (hp_n (n := 36) rfl ?_)
      refine q_gets (κ := 12) (k := 1) (φ := 601) (pc' := 39) C Bh_8 (cw_k Bh_8.2.2 k0) fl_X11_16 rfl rfl rfl eb_1 dX11_agree_36 rfl ?_
      refine lv_aload_n hx hb dX11_agree_39 rfl (lv_at hl 1 rfl) (hp_n (n := 40) rfl ?_)
      refine lv_aload hx hb dX11_agree_40 (lv_at hl 0 rfl) (hp_n (n := 42) rfl ?_)
      refine q_ci (pc' := 45) Bh_8 (hp_runV (As := [va_rf (some bh_2), va_rf (some bh_8)]) (rest := [.ref a0]) C Bh_8 (t_X10_doAgree Γ l α Bh_8.2.2.1 b_1 (cw_k Bh_8.2.2 kb_1) (some bh_2) (fun b h => by cases h; exact (cw_k Bh_8.2.2 kbh_2)) (some bh_8) (fun b h => by cases h; exact (cw_k Bh_8.2.2 kbh_8))) lb_X10_doAgree lv_X10_doAgree lk_X11_319 (cw_k Bh_8.2.2 kb_1) rfl (by decide) rfl hl.1 rfl (Nat.le_of_ble_eq_true rfl) dX11_agree_42 ⟨Nat.le_refl _, Nat.le_refl _⟩) (fun _ _ h => cw_tr Bh_8.2.2 h.1 (by decide)) rfl (fun rh_13 αh_13 Hh_13 Lh_13 ph_13 Bh_13 => ?_)
      have zh_13 := ph_13.2
      refine lv_if_eq (tgt := 52) hx hb dX11_agree_45 (by decide) (fun c_14 => ?_) (fun c_14 => hp_n (n := 48) rfl ?_)
      ·
        have jc_14 := il_eq c_14
        refine lv_iconst (v := 0) hx hb dX11_agree_52 (by decide) (hp_n (n := 53) rfl ?_)
        refine q_ci (pc' := 56) Bh_13 (hp_runV (As := [.int 0]) (rest := []) C Bh_13 (t_X11_answer Γ l αh_13 Bh_13.2.2.1 a0 (cw_k Bh_13.2.2 k0) 0) lb_X11_answer lv_X11_answer lk_X11_115 (cw_k Bh_13.2.2 k0) rfl (by decide) rfl hl.1 rfl (Nat.le_of_ble_eq_true rfl) dX11_agree_53 ⟨Nat.le_refl _, Nat.le_refl _⟩) (fun _ _ h => cw_tr Bh_13.2.2 h (by decide)) rfl (fun rh_15 αh_15 Hh_15 Lh_15 ph_15 Bh_15 => ?_)
        exact q_iret C Bh_15 hr hlk Bh_15.2.2 dX11_agree_56
      ·
        have jc_14 := il_ne c_14
        refine lv_iconst (v := 1) hx hb dX11_agree_48 (by decide) (hp_n (n := 49) rfl ?_)
        refine lv_goto (tgt := 53) hx hb dX11_agree_49 (by decide) ?_
        refine q_ci (pc' := 56) Bh_13 (hp_runV (As := [.int 1]) (rest := []) C Bh_13 (t_X11_answer Γ l αh_13 Bh_13.2.2.1 a0 (cw_k Bh_13.2.2 k0) 1) lb_X11_answer lv_X11_answer lk_X11_115 (cw_k Bh_13.2.2 k0) rfl (by decide) rfl hl.1 rfl (Nat.le_of_ble_eq_true rfl) dX11_agree_53 ⟨Nat.le_refl _, Nat.le_refl _⟩) (fun _ _ h => cw_tr Bh_13.2.2 h (by decide)) rfl (fun rh_16 αh_16 Hh_16 Lh_16 ph_16 Bh_16 => ?_)
        exact q_iret C Bh_16 hr hlk Bh_16.2.2 dX11_agree_56
abbrev w_X11_where : cw_W := ([600], [], [], [])
set_option maxRecDepth 100000 in
set_option maxHeartbeats 4000000 in
theorem t_X11_where (Γ : hp_G) (l : Launch) (α : hp_T) (g : GC α) (a0 : Nat) (k0 : hp_K α a0 = 12) (a1 : Int32) (a2 : Int32) : Met l yX11_where (hp_ws yX11_where cX11_where 5 (some .int)) (hp_rm 3 0 0) (hp_Pc Γ α [.ref a0, .int a1, .int a2]) (hp_Qi Γ (fun r β => cw w_X11_where α β)) 0 0 (hp_A Γ) := by
  refine hp_start (by decide) ?_
  intro p e s m below meth c C hr hlk B0 hnm
  have C : hp_C Γ p m c cX11_where 5 s ([.ref a0, .int a1, .int a2] : List Value).toArray RX11 := C
  have hx := C.1.1
  have hb := C.1.2.1
  have hown := C.1.2.2.2.1
  have hts := C.1.2.2.2.2
  have B : hp_B Γ (cw w_X11_where) s α α s.heap [] := ⟨B0.1, B0.2.1, cw_rf g⟩
  have lit0 : (0 : Int32).toInt = 0 := by decide
  have lit1 : (1 : Int32).toInt = 1 := by decide
  have lit2 : (2 : Int32).toInt = 2 := by decide
  have lit5 : (5 : Int32).toInt = 5 := by decide
  have hl := lv_entry ([.ref a0, .int a1, .int a2]) (n := 5) (Nat.le_of_ble_eq_true rfl)
  show W p l e (hp_rm 3 0 0) s m ([.ref a0, .int a1, .int a2] : List Value).toArray below meth c s.heap [] 0 0 (MQ below (hp_Qi Γ (fun r β => cw w_X11_where α β)) ([.ref a0, .int a1, .int a2] : List Value).toArray s 0 0 (hp_A Γ)) (entryFrame m ([.ref a0, .int a1, .int a2] : List Value).toArray 5)
  rw [lg_entry_eq]
  generalize (lg_sl ([.ref a0, .int a1, .int a2]) ++ List.replicate (5 - (lg_sl ([.ref a0, .int a1, .int a2])).length) Slot.unset).toArray = ls at hl ⊢
  have hl : lv_has ls 5 [(0, .ref a0), (1, .int a1), (2, .int a2)] := hl
  refine lv_iload_n hx hb dX11_where_0 rfl (lv_at hl 2 rfl) (hp_n (n := 1) rfl ?_)
  have J9 : ∀ (Hh_1 : Heap) (Lh_1 : List Loc) (Bh_1 : hp_B Γ (cw w_X11_where) s α α Hh_1 Lh_1) (ls : Array Slot) (hl : lv_has ls 5 [(0, .ref a0)]), W p l e (hp_rm 3 0 0) s m ([.ref a0, .int a1, .int a2] : List Value).toArray below meth c Hh_1 Lh_1 0 0 (MQ below (hp_Qi Γ (fun r β => cw w_X11_where α β)) ([.ref a0, .int a1, .int a2] : List Value).toArray s 0 0 (hp_A Γ)) (F0 m 9 ls []) := by
    intro Hh_1 Lh_1 Bh_1 ls hl
    refine lv_aload_n hx hb dX11_where_9 rfl (lv_at hl 0 rfl) (hp_n (n := 10) rfl ?_)
    refine lv_iconst (v := 1) hx hb dX11_where_10 (by decide) (hp_n (n := 11) rfl ?_)
    refine q_ci (pc' := 14) Bh_1 (hp_runV (As := [.int 1]) (rest := []) C Bh_1 (t_X11_refuse Γ l α Bh_1.2.2.1 a0 (cw_k Bh_1.2.2 k0) 1) lb_X11_refuse lv_X11_refuse lk_X11_98 (cw_k Bh_1.2.2 k0) rfl (by decide) rfl hl.1 rfl (Nat.le_of_ble_eq_true rfl) dX11_where_11 ⟨Nat.le_refl _, Nat.le_refl _⟩) (fun _ _ h => cw_tr Bh_1.2.2 h (by decide)) rfl (fun rh_2 αh_2 Hh_2 Lh_2 ph_2 Bh_2 => ?_)
    exact q_iret C Bh_2 hr hlk Bh_2.2.2 dX11_where_14
  refine lv_if_lt (tgt := 9) hx hb dX11_where_1 (by decide) (fun c_3 => ?_) (fun c_3 => hp_n (n := 4) rfl ?_)
  ·
    have jc_3 := il_lt c_3
    exact J9 s.heap [] B ls (lv_sub hl [0] rfl)
  ·
    have jc_3 := il_nlt c_3
    refine lv_iload_n hx hb dX11_where_4 rfl (lv_at hl 2 rfl) (hp_n (n := 5) rfl ?_)
    refine lv_iconst (v := 1) hx hb dX11_where_5 (by decide) (hp_n (n := 6) rfl ?_)
    refine lv_icmp_le (tgt := 15) hx hb dX11_where_6 (by decide) (fun c_4 => ?_) (fun c_4 => hp_n (n := 9) rfl ?_)
    ·
      have jc_4 := il_le c_4
      refine lv_aload_n hx hb dX11_where_15 rfl (lv_at hl 0 rfl) (hp_n (n := 16) rfl ?_)
      refine q_getr (κ := 12) (k := 1) (φ := 601) (pc' := 19) C B (cw_k B.2.2 k0) fl_X11_16 rfl rfl rfl (cw_r B.2.2 k0 rfl rfl (by decide) (by decide)) dX11_where_16 rfl (fun b_5 eb_5 kb_5 => ?_)
      refine lv_iload_n hx hb dX11_where_19 rfl (lv_at hl 1 rfl) (hp_n (n := 20) rfl ?_)
      refine q_cq (pc' := 23) B (hp_runV (As := [.int a1]) (rest := []) C B (t_X10_logAt Γ l α B.2.2.1 b_5 (cw_k B.2.2 kb_5) a1) lb_X10_logAt lv_X10_logAt lk_X11_163 (cw_k B.2.2 kb_5) rfl (by decide) rfl hl.1 rfl (Nat.le_of_ble_eq_true rfl) dX11_where_20 ⟨Nat.le_refl _, Nat.le_refl _⟩) (fun _ _ h => by rw [h.1]; exact B.2.2) rfl (fun rh_6 αh_6 Hh_6 Lh_6 ph_6 Bh_6 => ?_)
      rw [ph_6.1] at Bh_6
      rcases rh_6 with _ | bh_6
      ·
        refine lv_astore_nN (lv' := [(3, .null), (0, .ref a0), (1, .int a1), (2, .int a2)]) hx hb dX11_where_23 rfl hl (by decide) rfl (fun ls hl => hp_n (n := 24) rfl ?_)
        refine lv_aload_nN hx hb dX11_where_24 rfl (lv_at hl 0 rfl) (hp_n (n := 25) rfl ?_)
        refine lv_ifnonnullN hx hb dX11_where_25 (hp_n (n := 28) rfl ?_)
        refine lv_aload_n hx hb dX11_where_28 rfl (lv_at hl 1 rfl) (hp_n (n := 29) rfl ?_)
        refine lv_iconst (v := 2) hx hb dX11_where_29 (by decide) (hp_n (n := 30) rfl ?_)
        refine q_ci (pc' := 33) Bh_6 (hp_runV (As := [.int 2]) (rest := []) C Bh_6 (t_X11_refuse Γ l α Bh_6.2.2.1 a0 (cw_k Bh_6.2.2 k0) 2) lb_X11_refuse lv_X11_refuse lk_X11_98 (cw_k Bh_6.2.2 k0) rfl (by decide) rfl hl.1 rfl (Nat.le_of_ble_eq_true rfl) dX11_where_30 ⟨Nat.le_refl _, Nat.le_refl _⟩) (fun _ _ h => cw_tr Bh_6.2.2 h (by decide)) rfl (fun rh_7 αh_7 Hh_7 Lh_7 ph_7 Bh_7 => ?_)
        exact q_iret C Bh_7 hr hlk Bh_7.2.2 dX11_where_33
      ·
        have kbh_6 : hp_K α bh_6 = 3 := cw_k' Bh_6.2.2 (ph_6.2 bh_6 rfl)
        refine lv_astore_n (lv' := [(3, .ref bh_6), (0, .ref a0), (1, .int a1), (2, .int a2)]) hx hb dX11_where_23 rfl hl (by decide) rfl (fun ls hl => hp_n (n := 24) rfl ?_)
        refine lv_aload_n hx hb dX11_where_24 rfl (lv_at hl 0 rfl) (hp_n (n := 25) rfl ?_)
        refine lv_ifnonnull (tgt := 34) hx hb dX11_where_25 (by decide) ?_
        refine lv_iload_n hx hb dX11_where_34 rfl (lv_at hl 3 rfl) (hp_n (n := 35) rfl ?_)
        refine lv_iconst (v := 1) hx hb dX11_where_35 (by decide) (hp_n (n := 36) rfl ?_)
        refine lv_icmp_ne (tgt := 52) hx hb dX11_where_36 (by decide) (fun c_8 => ?_) (fun c_8 => hp_n (n := 39) rfl ?_)
        ·
          have jc_8 := il_ne c_8
          refine lv_aload_n hx hb dX11_where_52 rfl (lv_at hl 0 rfl) (hp_n (n := 53) rfl ?_)
          refine lv_aload_n hx hb dX11_where_53 rfl (lv_at hl 1 rfl) (hp_n (n := 54) rfl ?_)
          refine q_getr (κ := 12) (k := 6) (φ := 606) (pc' := 57) C Bh_6 (cw_k Bh_6.2.2 k0) fl_X11_40 rfl rfl rfl (cw_r Bh_6.2.2 k0 rfl rfl (by decide) (by decide)) dX11_where_54 rfl (fun b_9 eb_9 kb_9 => ?_)
          refine q_ci (pc' := 60) Bh_6 (hp_runV (As := [.ref b_9]) (rest := []) C Bh_6 (t_X2_firstLike Γ l α Bh_6.2.2.1 bh_6 (cw_k Bh_6.2.2 kbh_6) b_9 (cw_k Bh_6.2.2 kb_9)) lb_X2_firstLike lv_X2_firstLike lk_X11_327 (cw_k Bh_6.2.2 kbh_6) rfl (by decide) rfl hl.1 rfl (Nat.le_of_ble_eq_true rfl) dX11_where_57 ⟨Nat.le_refl _, Nat.le_refl _⟩) (fun _ _ h => by rw [h]; exact Bh_6.2.2) rfl (fun rh_10 αh_10 Hh_10 Lh_10 ph_10 Bh_10 => ?_)
          rw [ph_10] at Bh_10
          refine lv_istore (lv' := [(4, .int rh_10), (3, .ref bh_6), (0, .ref a0), (1, .int a1), (2, .int a2)]) hx hb dX11_where_60 hl (by decide) rfl (fun ls hl => hp_n (n := 62) rfl ?_)
          refine lv_iload hx hb dX11_where_62 (lv_at hl 0 rfl) (hp_n (n := 64) rfl ?_)
          refine lv_if_ge (tgt := 75) hx hb dX11_where_64 (by decide) (fun c_11 => ?_) (fun c_11 => hp_n (n := 67) rfl ?_)
          ·
            have jc_11 := il_le c_11
            refine lv_aload_n hx hb dX11_where_75 rfl (lv_at hl 2 rfl) (hp_n (n := 76) rfl ?_)
            refine lv_iload hx hb dX11_where_76 (lv_at hl 0 rfl) (hp_n (n := 78) rfl ?_)
            refine q_ci (pc' := 81) Bh_10 (hp_runV (As := [.int rh_10]) (rest := []) C Bh_10 (t_X11_answer Γ l α Bh_10.2.2.1 a0 (cw_k Bh_10.2.2 k0) rh_10) lb_X11_answer lv_X11_answer lk_X11_115 (cw_k Bh_10.2.2 k0) rfl (by decide) rfl hl.1 rfl (Nat.le_of_ble_eq_true rfl) dX11_where_78 ⟨Nat.le_refl _, Nat.le_refl _⟩) (fun _ _ h => cw_tr Bh_10.2.2 h (by decide)) rfl (fun rh_12 αh_12 Hh_12 Lh_12 ph_12 Bh_12 => ?_)
            exact q_iret C Bh_12 hr hlk Bh_12.2.2 dX11_where_81
          ·
            have jc_11 := il_nle c_11
            refine lv_aload_n hx hb dX11_where_67 rfl (lv_at hl 2 rfl) (hp_n (n := 68) rfl ?_)
            refine lv_iconst (v := 5) hx hb dX11_where_68 (by decide) (hp_n (n := 69) rfl ?_)
            refine q_ci (pc' := 72) Bh_10 (hp_runV (As := [.int 5]) (rest := []) C Bh_10 (t_X11_refuse Γ l α Bh_10.2.2.1 a0 (cw_k Bh_10.2.2 k0) 5) lb_X11_refuse lv_X11_refuse lk_X11_98 (cw_k Bh_10.2.2 k0) rfl (by decide) rfl hl.1 rfl (Nat.le_of_ble_eq_true rfl) dX11_where_69 ⟨Nat.le_refl _, Nat.le_refl _⟩) (fun _ _ h => cw_tr Bh_10.2.2 h (by decide)) rfl (fun rh_13 αh_13 Hh_13 Lh_13 ph_13 Bh_13 => ?_)
            refine lv_goto (tgt := 81) hx hb dX11_where_72 (by decide) ?_
            exact q_iret C Bh_13 hr hlk Bh_13.2.2 dX11_where_81
        ·
          have jc_8 := il_eq c_8
          refine lv_aload_n hx hb dX11_where_39 rfl (lv_at hl 1 rfl) (hp_n (n := 40) rfl ?_)
          refine lv_aload_n hx hb dX11_where_40 rfl (lv_at hl 0 rfl) (hp_n (n := 41) rfl ?_)
          refine lv_aload_n hx hb dX11_where_41 rfl (lv_at hl 1 rfl) (hp_n (n := 42) rfl ?_)
          refine q_getr (κ := 12) (k := 6) (φ := 606) (pc' := 45) C Bh_6 (cw_k Bh_6.2.2 k0) fl_X11_40 rfl rfl rfl (cw_r Bh_6.2.2 k0 rfl rfl (by decide) (by decide)) dX11_where_42 rfl (fun b_14 eb_14 kb_14 => ?_)
          refine q_ci (pc' := 48) Bh_6 (hp_runV (As := [.ref b_14]) (rest := [.ref a0]) C Bh_6 (t_X2_countLike Γ l α Bh_6.2.2.1 bh_6 (cw_k Bh_6.2.2 kbh_6) b_14 (cw_k Bh_6.2.2 kb_14)) lb_X2_countLike lv_X2_countLike lk_X11_323 (cw_k Bh_6.2.2 kbh_6) rfl (by decide) rfl hl.1 rfl (Nat.le_of_ble_eq_true rfl) dX11_where_45 ⟨Nat.le_refl _, Nat.le_refl _⟩) (fun _ _ h => by rw [h]; exact Bh_6.2.2) rfl (fun rh_15 αh_15 Hh_15 Lh_15 ph_15 Bh_15 => ?_)
          rw [ph_15] at Bh_15
          refine q_ci (pc' := 51) Bh_15 (hp_runV (As := [.int rh_15]) (rest := []) C Bh_15 (t_X11_answer Γ l α Bh_15.2.2.1 a0 (cw_k Bh_15.2.2 k0) rh_15) lb_X11_answer lv_X11_answer lk_X11_115 (cw_k Bh_15.2.2 k0) rfl (by decide) rfl hl.1 rfl (Nat.le_of_ble_eq_true rfl) dX11_where_48 ⟨Nat.le_refl _, Nat.le_refl _⟩) (fun _ _ h => cw_tr Bh_15.2.2 h (by decide)) rfl (fun rh_16 αh_16 Hh_16 Lh_16 ph_16 Bh_16 => ?_)
          exact q_iret C Bh_16 hr hlk Bh_16.2.2 dX11_where_51
    ·
      have jc_4 := il_nle c_4
      exact J9 s.heap [] B ls (lv_sub hl [0] rfl)
abbrev w_X11_tree : cw_W := ([453, 454, 600], [], [21, 22, 23, 33], [])
set_option maxRecDepth 100000 in
set_option maxHeartbeats 4000000 in
theorem t_X11_tree (Γ : hp_G) (l : Launch) (α : hp_T) (g : GC α) (a0 : Nat) (k0 : hp_K α a0 = 12) (a1 : Int32) (a2 : Int32) (a3 : Int32) (a4 : Int32) : Met l yX11_tree (hp_ws yX11_tree cX11_tree 7 (some .int)) (hp_rm 4 0 0) (hp_Pc Γ α [.ref a0, .int a1, .int a2, .int a3, .int a4]) (hp_Qi Γ (fun r β => cw w_X11_tree α β)) 0 0 (hp_A Γ) := by
  refine hp_start (by decide) ?_
  intro p e s m below meth c C hr hlk B0 hnm
  have C : hp_C Γ p m c cX11_tree 7 s ([.ref a0, .int a1, .int a2, .int a3, .int a4] : List Value).toArray RX11 := C
  have hx := C.1.1
  have hb := C.1.2.1
  have hown := C.1.2.2.2.1
  have hts := C.1.2.2.2.2
  have B : hp_B Γ (cw w_X11_tree) s α α s.heap [] := ⟨B0.1, B0.2.1, cw_rf g⟩
  have lit0 : (0 : Int32).toInt = 0 := by decide
  have lit1 : (1 : Int32).toInt = 1 := by decide
  have lit2 : (2 : Int32).toInt = 2 := by decide
  have lit5 : (5 : Int32).toInt = 5 := by decide
  have hl := lv_entry ([.ref a0, .int a1, .int a2, .int a3, .int a4]) (n := 7) (Nat.le_of_ble_eq_true rfl)
  show W p l e (hp_rm 4 0 0) s m ([.ref a0, .int a1, .int a2, .int a3, .int a4] : List Value).toArray below meth c s.heap [] 0 0 (MQ below (hp_Qi Γ (fun r β => cw w_X11_tree α β)) ([.ref a0, .int a1, .int a2, .int a3, .int a4] : List Value).toArray s 0 0 (hp_A Γ)) (entryFrame m ([.ref a0, .int a1, .int a2, .int a3, .int a4] : List Value).toArray 7)
  rw [lg_entry_eq]
  generalize (lg_sl ([.ref a0, .int a1, .int a2, .int a3, .int a4]) ++ List.replicate (7 - (lg_sl ([.ref a0, .int a1, .int a2, .int a3, .int a4])).length) Slot.unset).toArray = ls at hl ⊢
  have hl : lv_has ls 7 [(0, .ref a0), (1, .int a1), (2, .int a2), (3, .int a3), (4, .int a4)] := hl
  refine lv_iload_n hx hb dX11_tree_0 rfl (lv_at hl 3 rfl) (hp_n (n := 1) rfl ?_)
  have J15 : ∀ (Hh_1 : Heap) (Lh_1 : List Loc) (Bh_1 : hp_B Γ (cw w_X11_tree) s α α Hh_1 Lh_1) (ls : Array Slot) (hl : lv_has ls 7 [(0, .ref a0)]), W p l e (hp_rm 4 0 0) s m ([.ref a0, .int a1, .int a2, .int a3, .int a4] : List Value).toArray below meth c Hh_1 Lh_1 0 0 (MQ below (hp_Qi Γ (fun r β => cw w_X11_tree α β)) ([.ref a0, .int a1, .int a2, .int a3, .int a4] : List Value).toArray s 0 0 (hp_A Γ)) (F0 m 15 ls []) := by
    intro Hh_1 Lh_1 Bh_1 ls hl
    refine lv_aload_n hx hb dX11_tree_15 rfl (lv_at hl 0 rfl) (hp_n (n := 16) rfl ?_)
    refine lv_iconst (v := 1) hx hb dX11_tree_16 (by decide) (hp_n (n := 17) rfl ?_)
    refine q_ci (pc' := 20) Bh_1 (hp_runV (As := [.int 1]) (rest := []) C Bh_1 (t_X11_refuse Γ l α Bh_1.2.2.1 a0 (cw_k Bh_1.2.2 k0) 1) lb_X11_refuse lv_X11_refuse lk_X11_98 (cw_k Bh_1.2.2 k0) rfl (by decide) rfl hl.1 rfl (Nat.le_of_ble_eq_true rfl) dX11_tree_17 ⟨Nat.le_refl _, Nat.le_refl _⟩) (fun _ _ h => cw_tr Bh_1.2.2 h (by decide)) rfl (fun rh_2 αh_2 Hh_2 Lh_2 ph_2 Bh_2 => ?_)
    exact q_iret C Bh_2 hr hlk Bh_2.2.2 dX11_tree_20
  refine lv_if_lt (tgt := 15) hx hb dX11_tree_1 (by decide) (fun c_3 => ?_) (fun c_3 => hp_n (n := 4) rfl ?_)
  ·
    have jc_3 := il_lt c_3
    exact J15 s.heap [] B ls (lv_sub hl [0] rfl)
  ·
    have jc_3 := il_nlt c_3
    refine lv_iload hx hb dX11_tree_4 (lv_at hl 4 rfl) (hp_n (n := 6) rfl ?_)
    refine lv_if_lt (tgt := 15) hx hb dX11_tree_6 (by decide) (fun c_4 => ?_) (fun c_4 => hp_n (n := 9) rfl ?_)
    ·
      have jc_4 := il_lt c_4
      exact J15 s.heap [] B ls (lv_sub hl [0] rfl)
    ·
      have jc_4 := il_nlt c_4
      refine lv_iload hx hb dX11_tree_9 (lv_at hl 4 rfl) (hp_n (n := 11) rfl ?_)
      refine lv_iconst (v := 2) hx hb dX11_tree_11 (by decide) (hp_n (n := 12) rfl ?_)
      refine lv_icmp_le (tgt := 21) hx hb dX11_tree_12 (by decide) (fun c_5 => ?_) (fun c_5 => hp_n (n := 15) rfl ?_)
      ·
        have jc_5 := il_le c_5
        refine lv_aload_n hx hb dX11_tree_21 rfl (lv_at hl 0 rfl) (hp_n (n := 22) rfl ?_)
        refine q_getr (κ := 12) (k := 1) (φ := 601) (pc' := 25) C B (cw_k B.2.2 k0) fl_X11_16 rfl rfl rfl (cw_r B.2.2 k0 rfl rfl (by decide) (by decide)) dX11_tree_22 rfl (fun b_6 eb_6 kb_6 => ?_)
        refine lv_iload_n hx hb dX11_tree_25 rfl (lv_at hl 1 rfl) (hp_n (n := 26) rfl ?_)
        refine q_cq (pc' := 29) B (hp_runV (As := [.int a1]) (rest := []) C B (t_X10_logAt Γ l α B.2.2.1 b_6 (cw_k B.2.2 kb_6) a1) lb_X10_logAt lv_X10_logAt lk_X11_163 (cw_k B.2.2 kb_6) rfl (by decide) rfl hl.1 rfl (Nat.le_of_ble_eq_true rfl) dX11_tree_26 ⟨Nat.le_refl _, Nat.le_refl _⟩) (fun _ _ h => by rw [h.1]; exact B.2.2) rfl (fun rh_7 αh_7 Hh_7 Lh_7 ph_7 Bh_7 => ?_)
        rw [ph_7.1] at Bh_7
        rcases rh_7 with _ | bh_7
        ·
          refine lv_astoreN (lv' := [(5, .null), (0, .ref a0), (1, .int a1), (2, .int a2), (3, .int a3), (4, .int a4)]) hx hb dX11_tree_29 hl (by decide) rfl (fun ls hl => hp_n (n := 31) rfl ?_)
          refine lv_aloadN hx hb dX11_tree_31 (lv_at hl 0 rfl) (hp_n (n := 33) rfl ?_)
          refine lv_iconst (v := 0) hx hb dX11_tree_33 (by decide) (hp_n (n := 34) rfl ?_)
          refine lv_iload_n hx hb dX11_tree_34 rfl (lv_at hl 3 rfl) (hp_n (n := 35) rfl ?_)
          refine q_ci (pc' := 38) Bh_7 (hp_runS (As := [va_rf none, .int 0, .int a2]) (rest := []) C Bh_7 (t_X11_wrongGrowth Γ l α Bh_7.2.2.1 none (fun b h => by cases h) 0 a2) lb_X11_wrongGrowth ls_X11_wrongGrowth lk_X11_180 rfl (by decide) rfl hl.1 rfl (Nat.le_of_ble_eq_true rfl) dX11_tree_35 ⟨Nat.le_refl _, Nat.le_refl _⟩) (fun _ _ h => by rw [h]; exact Bh_7.2.2) rfl (fun rh_8 αh_8 Hh_8 Lh_8 ph_8 Bh_8 => ?_)
          rw [ph_8] at Bh_8
          refine lv_istore (lv' := [(6, .int rh_8), (5, .null), (0, .ref a0), (1, .int a1), (2, .int a2), (3, .int a3), (4, .int a4)]) hx hb dX11_tree_38 hl (by decide) rfl (fun ls hl => hp_n (n := 40) rfl ?_)
          refine lv_iload hx hb dX11_tree_40 (lv_at hl 0 rfl) (hp_n (n := 42) rfl ?_)
          refine lv_if_eq (tgt := 52) hx hb dX11_tree_42 (by decide) (fun c_9 => ?_) (fun c_9 => hp_n (n := 45) rfl ?_)
          ·
            have jc_9 := il_eq c_9
            refine lv_iload_n hx hb dX11_tree_52 rfl (lv_at hl 5 rfl) (hp_n (n := 53) rfl ?_)
            refine lv_iconst (v := 2) hx hb dX11_tree_53 (by decide) (hp_n (n := 54) rfl ?_)
            refine lv_iload_n hx hb dX11_tree_54 rfl (lv_at hl 4 rfl) (hp_n (n := 55) rfl ?_)
            refine lv_imul hx hb dX11_tree_55 (hp_n (n := 56) rfl (lv_topi (fun x_10 ex_10 => ?_)))
            refine lv_iconst (v := 2) hx hb dX11_tree_56 (by decide) (hp_n (n := 57) rfl ?_)
            refine lv_isub hx hb dX11_tree_57 (hp_n (n := 58) rfl (lv_topi (fun x_11 ex_11 => ?_)))
            refine lv_icmp_le (tgt := 67) hx hb dX11_tree_58 (by decide) (fun c_12 => ?_) (fun c_12 => hp_n (n := 61) rfl ?_)
            ·
              have jc_12 := il_le c_12
              refine lv_aload_n hx hb dX11_tree_67 rfl (lv_at hl 2 rfl) (hp_n (n := 68) rfl ?_)
              refine q_getr (κ := 12) (k := 12) (φ := 612) (pc' := 71) C Bh_8 (cw_k Bh_8.2.2 k0) fl_X11_62 rfl rfl rfl (cw_r Bh_8.2.2 k0 rfl rfl (by decide) (by decide)) dX11_tree_68 rfl (fun b_13 eb_13 kb_13 => ?_)
              refine lv_iload_n hx hb dX11_tree_71 rfl (lv_at hl 5 rfl) (hp_n (n := 72) rfl ?_)
              refine lv_iload_n hx hb dX11_tree_72 rfl (lv_at hl 4 rfl) (hp_n (n := 73) rfl ?_)
              refine q_cv (pc' := 76) Bh_8 (hp_runV (As := [.int a3, .int a2]) (rest := []) C Bh_8 (t_X8_toTree Γ l α Bh_8.2.2.1 b_13 (cw_k Bh_8.2.2 kb_13) a3 a2) lb_X8_toTree lv_X8_toTree lk_X11_330 (cw_k Bh_8.2.2 kb_13) rfl (by decide) rfl hl.1 rfl (Nat.le_of_ble_eq_true rfl) dX11_tree_73 ⟨Nat.le_refl _, Nat.le_refl _⟩) (fun _ h => cw_tr Bh_8.2.2 h (by decide)) rfl (fun αh_14 Hh_14 Lh_14 ph_14 Bh_14 => ?_)
              refine lv_iload hx hb dX11_tree_76 (lv_at hl 6 rfl) (hp_n (n := 78) rfl ?_)
              refine lv_if_ne (tgt := 94) hx hb dX11_tree_78 (by decide) (fun c_15 => ?_) (fun c_15 => hp_n (n := 81) rfl ?_)
              ·
                have jc_15 := il_ne c_15
                refine lv_aload_n hx hb dX11_tree_94 rfl (lv_at hl 2 rfl) (hp_n (n := 95) rfl ?_)
                refine lv_iload hx hb dX11_tree_95 (lv_at hl 6 rfl) (hp_n (n := 97) rfl ?_)
                refine lv_iconst (v := 1) hx hb dX11_tree_97 (by decide) (hp_n (n := 98) rfl ?_)
                refine lv_icmp_ne (tgt := 112) hx hb dX11_tree_98 (by decide) (fun c_16 => ?_) (fun c_16 => hp_n (n := 101) rfl ?_)
                ·
                  have jc_16 := il_ne c_16
                  refine lv_aload_n hx hb dX11_tree_112 rfl (lv_at hl 2 rfl) (hp_n (n := 113) rfl ?_)
                  have t_17 : b_6 = hp_R αh_14 601 a0 := by rw [cw_R ph_14 a0 (by decide)]; exact eb_6
                  refine q_gets (κ := 12) (k := 1) (φ := 601) (pc' := 116) C Bh_14 (cw_k Bh_14.2.2 k0) fl_X11_16 rfl rfl rfl t_17 dX11_tree_113 rfl ?_
                  refine lv_aloadN hx hb dX11_tree_116 (lv_at hl 1 rfl) (hp_n (n := 118) rfl ?_)
                  refine lv_aload_n hx hb dX11_tree_118 rfl (lv_at hl 2 rfl) (hp_n (n := 119) rfl ?_)
                  have t_18 : b_13 = hp_R αh_14 612 a0 := by rw [cw_R ph_14 a0 (by decide)]; exact eb_13
                  refine q_gets (κ := 12) (k := 12) (φ := 612) (pc' := 122) C Bh_14 (cw_k Bh_14.2.2 k0) fl_X11_62 rfl rfl rfl t_18 dX11_tree_119 rfl ?_
                  refine lv_iconst (v := 0) hx hb dX11_tree_122 (by decide) (hp_n (n := 123) rfl ?_)
                  refine q_ci (pc' := 126) Bh_14 (hp_runV (As := [.int 0]) (rest := [.null, .ref b_6, .ref a0]) C Bh_14 (t_X8_firstAt Γ l αh_14 Bh_14.2.2.1 b_13 (cw_k Bh_14.2.2 kb_13) 0) lb_X8_firstAt lv_X8_firstAt lk_X11_333 (cw_k Bh_14.2.2 kb_13) rfl (by decide) rfl hl.1 rfl (Nat.le_of_ble_eq_true rfl) dX11_tree_123 ⟨Nat.le_refl _, Nat.le_refl _⟩) (fun _ _ h => by rw [h]; exact Bh_14.2.2) rfl (fun rh_19 αh_19 Hh_19 Lh_19 ph_19 Bh_19 => ?_)
                  rw [ph_19] at Bh_19
                  refine lv_aload_n hx hb dX11_tree_126 rfl (lv_at hl 2 rfl) (hp_n (n := 127) rfl ?_)
                  refine q_gets (κ := 12) (k := 12) (φ := 612) (pc' := 130) C Bh_19 (cw_k Bh_19.2.2 k0) fl_X11_62 rfl rfl rfl t_18 dX11_tree_127 rfl ?_
                  refine lv_iconst (v := 0) hx hb dX11_tree_130 (by decide) (hp_n (n := 131) rfl ?_)
                  refine q_ci (pc' := 134) Bh_19 (hp_runV (As := [.int 0]) (rest := [.int rh_19, .null, .ref b_6, .ref a0]) C Bh_19 (t_X8_manyAt Γ l αh_14 Bh_19.2.2.1 b_13 (cw_k Bh_19.2.2 kb_13) 0) lb_X8_manyAt lv_X8_manyAt lk_X11_336 (cw_k Bh_19.2.2 kb_13) rfl (by decide) rfl hl.1 rfl (Nat.le_of_ble_eq_true rfl) dX11_tree_131 ⟨Nat.le_refl _, Nat.le_refl _⟩) (fun _ _ h => by rw [h]; exact Bh_19.2.2) rfl (fun rh_20 αh_20 Hh_20 Lh_20 ph_20 Bh_20 => ?_)
                  rw [ph_20] at Bh_20
                  refine q_ci (pc' := 137) Bh_20 (hp_runV (As := [va_rf none, .int rh_19, .int rh_20]) (rest := [.ref a0]) C Bh_20 (t_X10_treeMark Γ l αh_14 Bh_20.2.2.1 b_6 (cw_k Bh_20.2.2 kb_6) none (fun b h => by cases h) rh_19 rh_20) lb_X10_treeMark lv_X10_treeMark lk_X11_339 (cw_k Bh_20.2.2 kb_6) rfl (by decide) rfl hl.1 rfl (Nat.le_of_ble_eq_true rfl) dX11_tree_134 ⟨Nat.le_refl _, Nat.le_refl _⟩) (fun _ _ h => cw_tr Bh_20.2.2 h (by decide)) rfl (fun rh_21 αh_21 Hh_21 Lh_21 ph_21 Bh_21 => ?_)
                  refine q_ci (pc' := 140) Bh_21 (hp_runV (As := [.int rh_21]) (rest := []) C Bh_21 (t_X11_answer Γ l αh_21 Bh_21.2.2.1 a0 (cw_k Bh_21.2.2 k0) rh_21) lb_X11_answer lv_X11_answer lk_X11_115 (cw_k Bh_21.2.2 k0) rfl (by decide) rfl hl.1 rfl (Nat.le_of_ble_eq_true rfl) dX11_tree_137 ⟨Nat.le_refl _, Nat.le_refl _⟩) (fun _ _ h => cw_tr Bh_21.2.2 h (by decide)) rfl (fun rh_22 αh_22 Hh_22 Lh_22 ph_22 Bh_22 => ?_)
                  exact q_iret C Bh_22 hr hlk Bh_22.2.2 dX11_tree_140
                ·
                  have jc_16 := il_eq c_16
                  refine lv_aload_n hx hb dX11_tree_101 rfl (lv_at hl 2 rfl) (hp_n (n := 102) rfl ?_)
                  have t_23 : b_13 = hp_R αh_14 612 a0 := by rw [cw_R ph_14 a0 (by decide)]; exact eb_13
                  refine q_gets (κ := 12) (k := 12) (φ := 612) (pc' := 105) C Bh_14 (cw_k Bh_14.2.2 k0) fl_X11_62 rfl rfl rfl t_23 dX11_tree_102 rfl ?_
                  refine lv_iconst (v := 0) hx hb dX11_tree_105 (by decide) (hp_n (n := 106) rfl ?_)
                  refine q_ci (pc' := 109) Bh_14 (hp_runV (As := [.int 0]) (rest := [.ref a0]) C Bh_14 (t_X8_manyAt Γ l αh_14 Bh_14.2.2.1 b_13 (cw_k Bh_14.2.2 kb_13) 0) lb_X8_manyAt lv_X8_manyAt lk_X11_336 (cw_k Bh_14.2.2 kb_13) rfl (by decide) rfl hl.1 rfl (Nat.le_of_ble_eq_true rfl) dX11_tree_106 ⟨Nat.le_refl _, Nat.le_refl _⟩) (fun _ _ h => by rw [h]; exact Bh_14.2.2) rfl (fun rh_24 αh_24 Hh_24 Lh_24 ph_24 Bh_24 => ?_)
                  rw [ph_24] at Bh_24
                  refine lv_goto (tgt := 137) hx hb dX11_tree_109 (by decide) ?_
                  refine q_ci (pc' := 140) Bh_24 (hp_runV (As := [.int rh_24]) (rest := []) C Bh_24 (t_X11_answer Γ l αh_14 Bh_24.2.2.1 a0 (cw_k Bh_24.2.2 k0) rh_24) lb_X11_answer lv_X11_answer lk_X11_115 (cw_k Bh_24.2.2 k0) rfl (by decide) rfl hl.1 rfl (Nat.le_of_ble_eq_true rfl) dX11_tree_137 ⟨Nat.le_refl _, Nat.le_refl _⟩) (fun _ _ h => cw_tr Bh_24.2.2 h (by decide)) rfl (fun rh_25 αh_25 Hh_25 Lh_25 ph_25 Bh_25 => ?_)
                  exact q_iret C Bh_25 hr hlk Bh_25.2.2 dX11_tree_140
              ·
                have jc_15 := il_eq c_15
                refine lv_aload_n hx hb dX11_tree_81 rfl (lv_at hl 2 rfl) (hp_n (n := 82) rfl ?_)
                refine lv_aload_n hx hb dX11_tree_82 rfl (lv_at hl 2 rfl) (hp_n (n := 83) rfl ?_)
                have t_26 : b_13 = hp_R αh_14 612 a0 := by rw [cw_R ph_14 a0 (by decide)]; exact eb_13
                refine q_gets (κ := 12) (k := 12) (φ := 612) (pc' := 86) C Bh_14 (cw_k Bh_14.2.2 k0) fl_X11_62 rfl rfl rfl t_26 dX11_tree_83 rfl ?_
                refine lv_iconst (v := 0) hx hb dX11_tree_86 (by decide) (hp_n (n := 87) rfl ?_)
                refine q_ci (pc' := 90) Bh_14 (hp_runV (As := [.int 0]) (rest := [.ref a0]) C Bh_14 (t_X8_firstAt Γ l αh_14 Bh_14.2.2.1 b_13 (cw_k Bh_14.2.2 kb_13) 0) lb_X8_firstAt lv_X8_firstAt lk_X11_333 (cw_k Bh_14.2.2 kb_13) rfl (by decide) rfl hl.1 rfl (Nat.le_of_ble_eq_true rfl) dX11_tree_87 ⟨Nat.le_refl _, Nat.le_refl _⟩) (fun _ _ h => by rw [h]; exact Bh_14.2.2) rfl (fun rh_27 αh_27 Hh_27 Lh_27 ph_27 Bh_27 => ?_)
                rw [ph_27] at Bh_27
                refine q_ci (pc' := 93) Bh_27 (hp_runV (As := [.int rh_27]) (rest := []) C Bh_27 (t_X11_answer Γ l αh_14 Bh_27.2.2.1 a0 (cw_k Bh_27.2.2 k0) rh_27) lb_X11_answer lv_X11_answer lk_X11_115 (cw_k Bh_27.2.2 k0) rfl (by decide) rfl hl.1 rfl (Nat.le_of_ble_eq_true rfl) dX11_tree_90 ⟨Nat.le_refl _, Nat.le_refl _⟩) (fun _ _ h => cw_tr Bh_27.2.2 h (by decide)) rfl (fun rh_28 αh_28 Hh_28 Lh_28 ph_28 Bh_28 => ?_)
                exact q_iret C Bh_28 hr hlk Bh_28.2.2 dX11_tree_93
            ·
              have jc_12 := il_nle c_12
              refine lv_aload_n hx hb dX11_tree_61 rfl (lv_at hl 2 rfl) (hp_n (n := 62) rfl ?_)
              refine lv_iconst (v := 5) hx hb dX11_tree_62 (by decide) (hp_n (n := 63) rfl ?_)
              refine q_ci (pc' := 66) Bh_8 (hp_runV (As := [.int 5]) (rest := []) C Bh_8 (t_X11_refuse Γ l α Bh_8.2.2.1 a0 (cw_k Bh_8.2.2 k0) 5) lb_X11_refuse lv_X11_refuse lk_X11_98 (cw_k Bh_8.2.2 k0) rfl (by decide) rfl hl.1 rfl (Nat.le_of_ble_eq_true rfl) dX11_tree_63 ⟨Nat.le_refl _, Nat.le_refl _⟩) (fun _ _ h => cw_tr Bh_8.2.2 h (by decide)) rfl (fun rh_29 αh_29 Hh_29 Lh_29 ph_29 Bh_29 => ?_)
              exact q_iret C Bh_29 hr hlk Bh_29.2.2 dX11_tree_66
          ·
            have jc_9 := il_ne c_9
            refine lv_aload_n hx hb dX11_tree_45 rfl (lv_at hl 2 rfl) (hp_n (n := 46) rfl ?_)
            refine lv_iload hx hb dX11_tree_46 (lv_at hl 0 rfl) (hp_n (n := 48) rfl ?_)
            refine q_ci (pc' := 51) Bh_8 (hp_runV (As := [.int rh_8]) (rest := []) C Bh_8 (t_X11_refuse Γ l α Bh_8.2.2.1 a0 (cw_k Bh_8.2.2 k0) rh_8) lb_X11_refuse lv_X11_refuse lk_X11_98 (cw_k Bh_8.2.2 k0) rfl (by decide) rfl hl.1 rfl (Nat.le_of_ble_eq_true rfl) dX11_tree_48 ⟨Nat.le_refl _, Nat.le_refl _⟩) (fun _ _ h => cw_tr Bh_8.2.2 h (by decide)) rfl (fun rh_30 αh_30 Hh_30 Lh_30 ph_30 Bh_30 => ?_)
            exact q_iret C Bh_30 hr hlk Bh_30.2.2 dX11_tree_51
        ·
          have kbh_7 : hp_K α bh_7 = 3 := cw_k' Bh_7.2.2 (ph_7.2 bh_7 rfl)
          refine lv_astore (lv' := [(5, .ref bh_7), (0, .ref a0), (1, .int a1), (2, .int a2), (3, .int a3), (4, .int a4)]) hx hb dX11_tree_29 hl (by decide) rfl (fun ls hl => hp_n (n := 31) rfl ?_)
          refine lv_aload hx hb dX11_tree_31 (lv_at hl 0 rfl) (hp_n (n := 33) rfl ?_)
          refine lv_iconst (v := 0) hx hb dX11_tree_33 (by decide) (hp_n (n := 34) rfl ?_)
          refine lv_iload_n hx hb dX11_tree_34 rfl (lv_at hl 3 rfl) (hp_n (n := 35) rfl ?_)
          refine q_ci (pc' := 38) Bh_7 (hp_runS (As := [va_rf (some bh_7), .int 0, .int a2]) (rest := []) C Bh_7 (t_X11_wrongGrowth Γ l α Bh_7.2.2.1 (some bh_7) (fun b h => by cases h; exact (cw_k Bh_7.2.2 kbh_7)) 0 a2) lb_X11_wrongGrowth ls_X11_wrongGrowth lk_X11_180 rfl (by decide) rfl hl.1 rfl (Nat.le_of_ble_eq_true rfl) dX11_tree_35 ⟨Nat.le_refl _, Nat.le_refl _⟩) (fun _ _ h => by rw [h]; exact Bh_7.2.2) rfl (fun rh_31 αh_31 Hh_31 Lh_31 ph_31 Bh_31 => ?_)
          rw [ph_31] at Bh_31
          refine lv_istore (lv' := [(6, .int rh_31), (5, .ref bh_7), (0, .ref a0), (1, .int a1), (2, .int a2), (3, .int a3), (4, .int a4)]) hx hb dX11_tree_38 hl (by decide) rfl (fun ls hl => hp_n (n := 40) rfl ?_)
          refine lv_iload hx hb dX11_tree_40 (lv_at hl 0 rfl) (hp_n (n := 42) rfl ?_)
          refine lv_if_eq (tgt := 52) hx hb dX11_tree_42 (by decide) (fun c_32 => ?_) (fun c_32 => hp_n (n := 45) rfl ?_)
          ·
            have jc_32 := il_eq c_32
            refine lv_iload_n hx hb dX11_tree_52 rfl (lv_at hl 5 rfl) (hp_n (n := 53) rfl ?_)
            refine lv_iconst (v := 2) hx hb dX11_tree_53 (by decide) (hp_n (n := 54) rfl ?_)
            refine lv_iload_n hx hb dX11_tree_54 rfl (lv_at hl 4 rfl) (hp_n (n := 55) rfl ?_)
            refine lv_imul hx hb dX11_tree_55 (hp_n (n := 56) rfl (lv_topi (fun x_33 ex_33 => ?_)))
            refine lv_iconst (v := 2) hx hb dX11_tree_56 (by decide) (hp_n (n := 57) rfl ?_)
            refine lv_isub hx hb dX11_tree_57 (hp_n (n := 58) rfl (lv_topi (fun x_34 ex_34 => ?_)))
            refine lv_icmp_le (tgt := 67) hx hb dX11_tree_58 (by decide) (fun c_35 => ?_) (fun c_35 => hp_n (n := 61) rfl ?_)
            ·
              have jc_35 := il_le c_35
              refine lv_aload_n hx hb dX11_tree_67 rfl (lv_at hl 2 rfl) (hp_n (n := 68) rfl ?_)
              refine q_getr (κ := 12) (k := 12) (φ := 612) (pc' := 71) C Bh_31 (cw_k Bh_31.2.2 k0) fl_X11_62 rfl rfl rfl (cw_r Bh_31.2.2 k0 rfl rfl (by decide) (by decide)) dX11_tree_68 rfl (fun b_36 eb_36 kb_36 => ?_)
              refine lv_iload_n hx hb dX11_tree_71 rfl (lv_at hl 5 rfl) (hp_n (n := 72) rfl ?_)
              refine lv_iload_n hx hb dX11_tree_72 rfl (lv_at hl 4 rfl) (hp_n (n := 73) rfl ?_)
              refine q_cv (pc' := 76) Bh_31 (hp_runV (As := [.int a3, .int a2]) (rest := []) C Bh_31 (t_X8_toTree Γ l α Bh_31.2.2.1 b_36 (cw_k Bh_31.2.2 kb_36) a3 a2) lb_X8_toTree lv_X8_toTree lk_X11_330 (cw_k Bh_31.2.2 kb_36) rfl (by decide) rfl hl.1 rfl (Nat.le_of_ble_eq_true rfl) dX11_tree_73 ⟨Nat.le_refl _, Nat.le_refl _⟩) (fun _ h => cw_tr Bh_31.2.2 h (by decide)) rfl (fun αh_37 Hh_37 Lh_37 ph_37 Bh_37 => ?_)
              refine lv_iload hx hb dX11_tree_76 (lv_at hl 6 rfl) (hp_n (n := 78) rfl ?_)
              refine lv_if_ne (tgt := 94) hx hb dX11_tree_78 (by decide) (fun c_38 => ?_) (fun c_38 => hp_n (n := 81) rfl ?_)
              ·
                have jc_38 := il_ne c_38
                refine lv_aload_n hx hb dX11_tree_94 rfl (lv_at hl 2 rfl) (hp_n (n := 95) rfl ?_)
                refine lv_iload hx hb dX11_tree_95 (lv_at hl 6 rfl) (hp_n (n := 97) rfl ?_)
                refine lv_iconst (v := 1) hx hb dX11_tree_97 (by decide) (hp_n (n := 98) rfl ?_)
                refine lv_icmp_ne (tgt := 112) hx hb dX11_tree_98 (by decide) (fun c_39 => ?_) (fun c_39 => hp_n (n := 101) rfl ?_)
                ·
                  have jc_39 := il_ne c_39
                  refine lv_aload_n hx hb dX11_tree_112 rfl (lv_at hl 2 rfl) (hp_n (n := 113) rfl ?_)
                  have t_40 : b_6 = hp_R αh_37 601 a0 := by rw [cw_R ph_37 a0 (by decide)]; exact eb_6
                  refine q_gets (κ := 12) (k := 1) (φ := 601) (pc' := 116) C Bh_37 (cw_k Bh_37.2.2 k0) fl_X11_16 rfl rfl rfl t_40 dX11_tree_113 rfl ?_
                  refine lv_aload hx hb dX11_tree_116 (lv_at hl 1 rfl) (hp_n (n := 118) rfl ?_)
                  refine lv_aload_n hx hb dX11_tree_118 rfl (lv_at hl 2 rfl) (hp_n (n := 119) rfl ?_)
                  have t_41 : b_36 = hp_R αh_37 612 a0 := by rw [cw_R ph_37 a0 (by decide)]; exact eb_36
                  refine q_gets (κ := 12) (k := 12) (φ := 612) (pc' := 122) C Bh_37 (cw_k Bh_37.2.2 k0) fl_X11_62 rfl rfl rfl t_41 dX11_tree_119 rfl ?_
                  refine lv_iconst (v := 0) hx hb dX11_tree_122 (by decide) (hp_n (n := 123) rfl ?_)
                  refine q_ci (pc' := 126) Bh_37 (hp_runV (As := [.int 0]) (rest := [.ref bh_7, .ref b_6, .ref a0]) C Bh_37 (t_X8_firstAt Γ l αh_37 Bh_37.2.2.1 b_36 (cw_k Bh_37.2.2 kb_36) 0) lb_X8_firstAt lv_X8_firstAt lk_X11_333 (cw_k Bh_37.2.2 kb_36) rfl (by decide) rfl hl.1 rfl (Nat.le_of_ble_eq_true rfl) dX11_tree_123 ⟨Nat.le_refl _, Nat.le_refl _⟩) (fun _ _ h => by rw [h]; exact Bh_37.2.2) rfl (fun rh_42 αh_42 Hh_42 Lh_42 ph_42 Bh_42 => ?_)
                  rw [ph_42] at Bh_42
                  refine lv_aload_n hx hb dX11_tree_126 rfl (lv_at hl 2 rfl) (hp_n (n := 127) rfl ?_)
                  refine q_gets (κ := 12) (k := 12) (φ := 612) (pc' := 130) C Bh_42 (cw_k Bh_42.2.2 k0) fl_X11_62 rfl rfl rfl t_41 dX11_tree_127 rfl ?_
                  refine lv_iconst (v := 0) hx hb dX11_tree_130 (by decide) (hp_n (n := 131) rfl ?_)
                  refine q_ci (pc' := 134) Bh_42 (hp_runV (As := [.int 0]) (rest := [.int rh_42, .ref bh_7, .ref b_6, .ref a0]) C Bh_42 (t_X8_manyAt Γ l αh_37 Bh_42.2.2.1 b_36 (cw_k Bh_42.2.2 kb_36) 0) lb_X8_manyAt lv_X8_manyAt lk_X11_336 (cw_k Bh_42.2.2 kb_36) rfl (by decide) rfl hl.1 rfl (Nat.le_of_ble_eq_true rfl) dX11_tree_131 ⟨Nat.le_refl _, Nat.le_refl _⟩) (fun _ _ h => by rw [h]; exact Bh_42.2.2) rfl (fun rh_43 αh_43 Hh_43 Lh_43 ph_43 Bh_43 => ?_)
                  rw [ph_43] at Bh_43
                  refine q_ci (pc' := 137) Bh_43 (hp_runV (As := [va_rf (some bh_7), .int rh_42, .int rh_43]) (rest := [.ref a0]) C Bh_43 (t_X10_treeMark Γ l αh_37 Bh_43.2.2.1 b_6 (cw_k Bh_43.2.2 kb_6) (some bh_7) (fun b h => by cases h; exact (cw_k Bh_43.2.2 kbh_7)) rh_42 rh_43) lb_X10_treeMark lv_X10_treeMark lk_X11_339 (cw_k Bh_43.2.2 kb_6) rfl (by decide) rfl hl.1 rfl (Nat.le_of_ble_eq_true rfl) dX11_tree_134 ⟨Nat.le_refl _, Nat.le_refl _⟩) (fun _ _ h => cw_tr Bh_43.2.2 h (by decide)) rfl (fun rh_44 αh_44 Hh_44 Lh_44 ph_44 Bh_44 => ?_)
                  refine q_ci (pc' := 140) Bh_44 (hp_runV (As := [.int rh_44]) (rest := []) C Bh_44 (t_X11_answer Γ l αh_44 Bh_44.2.2.1 a0 (cw_k Bh_44.2.2 k0) rh_44) lb_X11_answer lv_X11_answer lk_X11_115 (cw_k Bh_44.2.2 k0) rfl (by decide) rfl hl.1 rfl (Nat.le_of_ble_eq_true rfl) dX11_tree_137 ⟨Nat.le_refl _, Nat.le_refl _⟩) (fun _ _ h => cw_tr Bh_44.2.2 h (by decide)) rfl (fun rh_45 αh_45 Hh_45 Lh_45 ph_45 Bh_45 => ?_)
                  exact q_iret C Bh_45 hr hlk Bh_45.2.2 dX11_tree_140
                ·
                  have jc_39 := il_eq c_39
                  refine lv_aload_n hx hb dX11_tree_101 rfl (lv_at hl 2 rfl) (hp_n (n := 102) rfl ?_)
                  have t_46 : b_36 = hp_R αh_37 612 a0 := by rw [cw_R ph_37 a0 (by decide)]; exact eb_36
                  refine q_gets (κ := 12) (k := 12) (φ := 612) (pc' := 105) C Bh_37 (cw_k Bh_37.2.2 k0) fl_X11_62 rfl rfl rfl t_46 dX11_tree_102 rfl ?_
                  refine lv_iconst (v := 0) hx hb dX11_tree_105 (by decide) (hp_n (n := 106) rfl ?_)
                  refine q_ci (pc' := 109) Bh_37 (hp_runV (As := [.int 0]) (rest := [.ref a0]) C Bh_37 (t_X8_manyAt Γ l αh_37 Bh_37.2.2.1 b_36 (cw_k Bh_37.2.2 kb_36) 0) lb_X8_manyAt lv_X8_manyAt lk_X11_336 (cw_k Bh_37.2.2 kb_36) rfl (by decide) rfl hl.1 rfl (Nat.le_of_ble_eq_true rfl) dX11_tree_106 ⟨Nat.le_refl _, Nat.le_refl _⟩) (fun _ _ h => by rw [h]; exact Bh_37.2.2) rfl (fun rh_47 αh_47 Hh_47 Lh_47 ph_47 Bh_47 => ?_)
                  rw [ph_47] at Bh_47
                  refine lv_goto (tgt := 137) hx hb dX11_tree_109 (by decide) ?_
                  refine q_ci (pc' := 140) Bh_47 (hp_runV (As := [.int rh_47]) (rest := []) C Bh_47 (t_X11_answer Γ l αh_37 Bh_47.2.2.1 a0 (cw_k Bh_47.2.2 k0) rh_47) lb_X11_answer lv_X11_answer lk_X11_115 (cw_k Bh_47.2.2 k0) rfl (by decide) rfl hl.1 rfl (Nat.le_of_ble_eq_true rfl) dX11_tree_137 ⟨Nat.le_refl _, Nat.le_refl _⟩) (fun _ _ h => cw_tr Bh_47.2.2 h (by decide)) rfl (fun rh_48 αh_48 Hh_48 Lh_48 ph_48 Bh_48 => ?_)
                  exact q_iret C Bh_48 hr hlk Bh_48.2.2 dX11_tree_140
              ·
                have jc_38 := il_eq c_38
                refine lv_aload_n hx hb dX11_tree_81 rfl (lv_at hl 2 rfl) (hp_n (n := 82) rfl ?_)
                refine lv_aload_n hx hb dX11_tree_82 rfl (lv_at hl 2 rfl) (hp_n (n := 83) rfl ?_)
                have t_49 : b_36 = hp_R αh_37 612 a0 := by rw [cw_R ph_37 a0 (by decide)]; exact eb_36
                refine q_gets (κ := 12) (k := 12) (φ := 612) (pc' := 86) C Bh_37 (cw_k Bh_37.2.2 k0) fl_X11_62 rfl rfl rfl t_49 dX11_tree_83 rfl ?_
                refine lv_iconst (v := 0) hx hb dX11_tree_86 (by decide) (hp_n (n := 87) rfl ?_)
                refine q_ci (pc' := 90) Bh_37 (hp_runV (As := [.int 0]) (rest := [.ref a0]) C Bh_37 (t_X8_firstAt Γ l αh_37 Bh_37.2.2.1 b_36 (cw_k Bh_37.2.2 kb_36) 0) lb_X8_firstAt lv_X8_firstAt lk_X11_333 (cw_k Bh_37.2.2 kb_36) rfl (by decide) rfl hl.1 rfl (Nat.le_of_ble_eq_true rfl) dX11_tree_87 ⟨Nat.le_refl _, Nat.le_refl _⟩) (fun _ _ h => by rw [h]; exact Bh_37.2.2) rfl (fun rh_50 αh_50 Hh_50 Lh_50 ph_50 Bh_50 => ?_)
                rw [ph_50] at Bh_50
                refine q_ci (pc' := 93) Bh_50 (hp_runV (As := [.int rh_50]) (rest := []) C Bh_50 (t_X11_answer Γ l αh_37 Bh_50.2.2.1 a0 (cw_k Bh_50.2.2 k0) rh_50) lb_X11_answer lv_X11_answer lk_X11_115 (cw_k Bh_50.2.2 k0) rfl (by decide) rfl hl.1 rfl (Nat.le_of_ble_eq_true rfl) dX11_tree_90 ⟨Nat.le_refl _, Nat.le_refl _⟩) (fun _ _ h => cw_tr Bh_50.2.2 h (by decide)) rfl (fun rh_51 αh_51 Hh_51 Lh_51 ph_51 Bh_51 => ?_)
                exact q_iret C Bh_51 hr hlk Bh_51.2.2 dX11_tree_93
            ·
              have jc_35 := il_nle c_35
              refine lv_aload_n hx hb dX11_tree_61 rfl (lv_at hl 2 rfl) (hp_n (n := 62) rfl ?_)
              refine lv_iconst (v := 5) hx hb dX11_tree_62 (by decide) (hp_n (n := 63) rfl ?_)
              refine q_ci (pc' := 66) Bh_31 (hp_runV (As := [.int 5]) (rest := []) C Bh_31 (t_X11_refuse Γ l α Bh_31.2.2.1 a0 (cw_k Bh_31.2.2 k0) 5) lb_X11_refuse lv_X11_refuse lk_X11_98 (cw_k Bh_31.2.2 k0) rfl (by decide) rfl hl.1 rfl (Nat.le_of_ble_eq_true rfl) dX11_tree_63 ⟨Nat.le_refl _, Nat.le_refl _⟩) (fun _ _ h => cw_tr Bh_31.2.2 h (by decide)) rfl (fun rh_52 αh_52 Hh_52 Lh_52 ph_52 Bh_52 => ?_)
              exact q_iret C Bh_52 hr hlk Bh_52.2.2 dX11_tree_66
          ·
            have jc_32 := il_ne c_32
            refine lv_aload_n hx hb dX11_tree_45 rfl (lv_at hl 2 rfl) (hp_n (n := 46) rfl ?_)
            refine lv_iload hx hb dX11_tree_46 (lv_at hl 0 rfl) (hp_n (n := 48) rfl ?_)
            refine q_ci (pc' := 51) Bh_31 (hp_runV (As := [.int rh_31]) (rest := []) C Bh_31 (t_X11_refuse Γ l α Bh_31.2.2.1 a0 (cw_k Bh_31.2.2 k0) rh_31) lb_X11_refuse lv_X11_refuse lk_X11_98 (cw_k Bh_31.2.2 k0) rfl (by decide) rfl hl.1 rfl (Nat.le_of_ble_eq_true rfl) dX11_tree_48 ⟨Nat.le_refl _, Nat.le_refl _⟩) (fun _ _ h => cw_tr Bh_31.2.2 h (by decide)) rfl (fun rh_53 αh_53 Hh_53 Lh_53 ph_53 Bh_53 => ?_)
            exact q_iret C Bh_53 hr hlk Bh_53.2.2 dX11_tree_51
      ·
        have jc_5 := il_nle c_5
        exact J15 s.heap [] B ls (lv_sub hl [0] rfl)
abbrev w_X11_proves : cw_W := ([301, 453, 454, 600], [], [20, 21, 22, 23, 33], [])
abbrev w_X11_longest : cw_W := ([453, 454, 600], [], [21, 22, 23], [])
set_option maxRecDepth 100000 in
set_option maxHeartbeats 4000000 in
theorem t_X11_longest (Γ : hp_G) (l : Launch) (α : hp_T) (g : GC α) (a0 : Nat) (k0 : hp_K α a0 = 12) (a1 : Int32) (a2 : Int32) : Met l yX11_longest (hp_ws yX11_longest cX11_longest 7 (some .int)) (hp_rm 4 0 0) (hp_Pc Γ α [.ref a0, .int a1, .int a2]) (hp_Qi Γ (fun r β => cw w_X11_longest α β)) 0 0 (hp_A Γ) := by
  refine hp_start (by decide) ?_
  intro p e s m below meth c C hr hlk B0 hnm
  have C : hp_C Γ p m c cX11_longest 7 s ([.ref a0, .int a1, .int a2] : List Value).toArray RX11 := C
  have hx := C.1.1
  have hb := C.1.2.1
  have hown := C.1.2.2.2.1
  have hts := C.1.2.2.2.2
  have B : hp_B Γ (cw w_X11_longest) s α α s.heap [] := ⟨B0.1, B0.2.1, cw_rf g⟩
  have lit0 : (0 : Int32).toInt = 0 := by decide
  have lit1 : (1 : Int32).toInt = 1 := by decide
  have lit2 : (2 : Int32).toInt = 2 := by decide
  have lit512 : (512 : Int32).toInt = 512 := by decide
  have hl := lv_entry ([.ref a0, .int a1, .int a2]) (n := 7) (Nat.le_of_ble_eq_true rfl)
  show W p l e (hp_rm 4 0 0) s m ([.ref a0, .int a1, .int a2] : List Value).toArray below meth c s.heap [] 0 0 (MQ below (hp_Qi Γ (fun r β => cw w_X11_longest α β)) ([.ref a0, .int a1, .int a2] : List Value).toArray s 0 0 (hp_A Γ)) (entryFrame m ([.ref a0, .int a1, .int a2] : List Value).toArray 7)
  rw [lg_entry_eq]
  generalize (lg_sl ([.ref a0, .int a1, .int a2]) ++ List.replicate (7 - (lg_sl ([.ref a0, .int a1, .int a2])).length) Slot.unset).toArray = ls at hl ⊢
  have hl : lv_has ls 7 [(0, .ref a0), (1, .int a1), (2, .int a2)] := hl
  refine lv_iload_n hx hb dX11_longest_0 rfl (lv_at hl 1 rfl) (hp_n (n := 1) rfl ?_)
  refine lv_iconst (v := 1) hx hb dX11_longest_1 (by decide) (hp_n (n := 2) rfl ?_)
  have J21 : ∀ (Hh_1 : Heap) (Lh_1 : List Loc) (Bh_1 : hp_B Γ (cw w_X11_longest) s α α Hh_1 Lh_1) (ls : Array Slot) (hl : lv_has ls 7 [(0, .ref a0)]), W p l e (hp_rm 4 0 0) s m ([.ref a0, .int a1, .int a2] : List Value).toArray below meth c Hh_1 Lh_1 0 0 (MQ below (hp_Qi Γ (fun r β => cw w_X11_longest α β)) ([.ref a0, .int a1, .int a2] : List Value).toArray s 0 0 (hp_A Γ)) (F0 m 21 ls []) := by
    intro Hh_1 Lh_1 Bh_1 ls hl
    refine lv_aload_n hx hb dX11_longest_21 rfl (lv_at hl 0 rfl) (hp_n (n := 22) rfl ?_)
    refine lv_iconst (v := 1) hx hb dX11_longest_22 (by decide) (hp_n (n := 23) rfl ?_)
    refine q_ci (pc' := 26) Bh_1 (hp_runV (As := [.int 1]) (rest := []) C Bh_1 (t_X11_refuse Γ l α Bh_1.2.2.1 a0 (cw_k Bh_1.2.2 k0) 1) lb_X11_refuse lv_X11_refuse lk_X11_98 (cw_k Bh_1.2.2 k0) rfl (by decide) rfl hl.1 rfl (Nat.le_of_ble_eq_true rfl) dX11_longest_23 ⟨Nat.le_refl _, Nat.le_refl _⟩) (fun _ _ h => cw_tr Bh_1.2.2 h (by decide)) rfl (fun rh_2 αh_2 Hh_2 Lh_2 ph_2 Bh_2 => ?_)
    exact q_iret C Bh_2 hr hlk Bh_2.2.2 dX11_longest_26
  refine lv_icmp_lt (tgt := 21) hx hb dX11_longest_2 (by decide) (fun c_3 => ?_) (fun c_3 => hp_n (n := 5) rfl ?_)
  ·
    have jc_3 := il_lt c_3
    exact J21 s.heap [] B ls (lv_sub hl [0] rfl)
  ·
    have jc_3 := il_nlt c_3
    refine lv_iload_n hx hb dX11_longest_5 rfl (lv_at hl 1 rfl) (hp_n (n := 6) rfl ?_)
    refine lv_sipush (v := 512) hx hb dX11_longest_6 (by decide) (hp_n (n := 9) rfl ?_)
    refine lv_icmp_gt (tgt := 21) hx hb dX11_longest_9 (by decide) (fun c_4 => ?_) (fun c_4 => hp_n (n := 12) rfl ?_)
    ·
      have jc_4 := il_lt c_4
      exact J21 s.heap [] B ls (lv_sub hl [0] rfl)
    ·
      have jc_4 := il_nlt c_4
      refine lv_iload_n hx hb dX11_longest_12 rfl (lv_at hl 2 rfl) (hp_n (n := 13) rfl ?_)
      refine lv_if_lt (tgt := 21) hx hb dX11_longest_13 (by decide) (fun c_5 => ?_) (fun c_5 => hp_n (n := 16) rfl ?_)
      ·
        have jc_5 := il_lt c_5
        exact J21 s.heap [] B ls (lv_sub hl [0] rfl)
      ·
        have jc_5 := il_nlt c_5
        refine lv_iload_n hx hb dX11_longest_16 rfl (lv_at hl 2 rfl) (hp_n (n := 17) rfl ?_)
        refine lv_iconst (v := 2) hx hb dX11_longest_17 (by decide) (hp_n (n := 18) rfl ?_)
        refine lv_icmp_le (tgt := 27) hx hb dX11_longest_18 (by decide) (fun c_6 => ?_) (fun c_6 => hp_n (n := 21) rfl ?_)
        ·
          have jc_6 := il_le c_6
          refine lv_iconst (v := 0) hx hb dX11_longest_27 (by decide) (hp_n (n := 28) rfl ?_)
          refine lv_istore_n (lv' := [(3, .int 0), (0, .ref a0), (1, .int a1), (2, .int a2)]) hx hb dX11_longest_28 rfl hl (by decide) rfl (fun ls hl => hp_n (n := 29) rfl ?_)
          refine lv_iconst (v := 0) hx hb dX11_longest_29 (by decide) (hp_n (n := 30) rfl ?_)
          refine lv_istore (lv' := [(4, .int 0), (3, .int 0), (0, .ref a0), (1, .int a1), (2, .int a2)]) hx hb dX11_longest_30 hl (by decide) rfl (fun ls hl => hp_n (n := 32) rfl ?_)
          refine lv_iconst (v := 0) hx hb dX11_longest_32 (by decide) (hp_n (n := 33) rfl ?_)
          refine lv_istore (lv' := [(5, .int 0), (4, .int 0), (3, .int 0), (0, .ref a0), (1, .int a1), (2, .int a2)]) hx hb dX11_longest_33 hl (by decide) rfl (fun ls hl => hp_n (n := 35) rfl ?_)
          refine lv_iconst (v := 0) hx hb dX11_longest_35 (by decide) (hp_n (n := 36) rfl ?_)
          have J38 : ∀ (nq : Nat) (αh_7 : hp_T) (Hh_7 : Heap) (Lh_7 : List Loc) (Bh_7 : hp_B Γ (cw w_X11_longest) s α αh_7 Hh_7 Lh_7) (v3_h_7 : Int32) (v4_h_7 : Int32) (v5_h_7 : Int32) (v6_h_7 : Int32) (ih_7_0 : 0 ≤ v6_h_7.toInt) (ls : Array Slot) (hl : lv_has ls 7 [(0, .ref a0), (1, .int a1), (2, .int a2), (3, .int v3_h_7), (4, .int v4_h_7), (5, .int v5_h_7), (6, .int v6_h_7)]) (hmu38 : (2147483647 - v6_h_7.toInt).toNat = nq), W p l e (hp_rm 4 0 0) s m ([.ref a0, .int a1, .int a2] : List Value).toArray below meth c Hh_7 Lh_7 0 0 (MQ below (hp_Qi Γ (fun r β => cw w_X11_longest α β)) ([.ref a0, .int a1, .int a2] : List Value).toArray s 0 0 (hp_A Γ)) (F0 m 38 ls []) := by
            intro nq
            induction nq using Nat.strongRecOn with
            | ind nq ih38 =>
            intro αh_7 Hh_7 Lh_7 Bh_7 v3_h_7 v4_h_7 v5_h_7 v6_h_7 ih_7_0 ls hl hmu38
            have inv38_0 := ih_7_0
            refine lv_iload hx hb dX11_longest_38 (lv_at hl 6 rfl) (hp_n (n := 40) rfl ?_)
            refine lv_iload_n hx hb dX11_longest_40 rfl (lv_at hl 1 rfl) (hp_n (n := 41) rfl ?_)
            refine lv_icmp_ge (tgt := 95) hx hb dX11_longest_41 (by decide) (fun c_8 => ?_) (fun c_8 => hp_n (n := 44) rfl ?_)
            ·
              have jc_8 := il_le c_8
              refine lv_iload_n hx hb dX11_longest_95 rfl (lv_at hl 2 rfl) (hp_n (n := 96) rfl ?_)
              refine lv_if_ne (tgt := 105) hx hb dX11_longest_96 (by decide) (fun c_9 => ?_) (fun c_9 => hp_n (n := 99) rfl ?_)
              ·
                have jc_9 := il_ne c_9
                refine lv_aload_n hx hb dX11_longest_105 rfl (lv_at hl 0 rfl) (hp_n (n := 106) rfl ?_)
                refine lv_iload_n hx hb dX11_longest_106 rfl (lv_at hl 2 rfl) (hp_n (n := 107) rfl ?_)
                refine lv_iconst (v := 1) hx hb dX11_longest_107 (by decide) (hp_n (n := 108) rfl ?_)
                refine lv_icmp_ne (tgt := 116) hx hb dX11_longest_108 (by decide) (fun c_10 => ?_) (fun c_10 => hp_n (n := 111) rfl ?_)
                ·
                  have jc_10 := il_ne c_10
                  refine lv_iload hx hb dX11_longest_116 (lv_at hl 5 rfl) (hp_n (n := 118) rfl ?_)
                  refine q_ci (pc' := 121) Bh_7 (hp_runV (As := [.int v5_h_7]) (rest := []) C Bh_7 (t_X11_answer Γ l αh_7 Bh_7.2.2.1 a0 (cw_k Bh_7.2.2 k0) v5_h_7) lb_X11_answer lv_X11_answer lk_X11_115 (cw_k Bh_7.2.2 k0) rfl (by decide) rfl hl.1 rfl (Nat.le_of_ble_eq_true rfl) dX11_longest_118 ⟨Nat.le_refl _, Nat.le_refl _⟩) (fun _ _ h => cw_tr Bh_7.2.2 h (by decide)) rfl (fun rh_11 αh_11 Hh_11 Lh_11 ph_11 Bh_11 => ?_)
                  exact q_iret C Bh_11 hr hlk Bh_11.2.2 dX11_longest_121
                ·
                  have jc_10 := il_eq c_10
                  refine lv_iload hx hb dX11_longest_111 (lv_at hl 4 rfl) (hp_n (n := 113) rfl ?_)
                  refine lv_goto (tgt := 118) hx hb dX11_longest_113 (by decide) ?_
                  refine q_ci (pc' := 121) Bh_7 (hp_runV (As := [.int v4_h_7]) (rest := []) C Bh_7 (t_X11_answer Γ l αh_7 Bh_7.2.2.1 a0 (cw_k Bh_7.2.2 k0) v4_h_7) lb_X11_answer lv_X11_answer lk_X11_115 (cw_k Bh_7.2.2 k0) rfl (by decide) rfl hl.1 rfl (Nat.le_of_ble_eq_true rfl) dX11_longest_118 ⟨Nat.le_refl _, Nat.le_refl _⟩) (fun _ _ h => cw_tr Bh_7.2.2 h (by decide)) rfl (fun rh_12 αh_12 Hh_12 Lh_12 ph_12 Bh_12 => ?_)
                  exact q_iret C Bh_12 hr hlk Bh_12.2.2 dX11_longest_121
              ·
                have jc_9 := il_eq c_9
                refine lv_aload_n hx hb dX11_longest_99 rfl (lv_at hl 0 rfl) (hp_n (n := 100) rfl ?_)
                refine lv_iload_n hx hb dX11_longest_100 rfl (lv_at hl 3 rfl) (hp_n (n := 101) rfl ?_)
                refine q_ci (pc' := 104) Bh_7 (hp_runV (As := [.int v3_h_7]) (rest := []) C Bh_7 (t_X11_answer Γ l αh_7 Bh_7.2.2.1 a0 (cw_k Bh_7.2.2 k0) v3_h_7) lb_X11_answer lv_X11_answer lk_X11_115 (cw_k Bh_7.2.2 k0) rfl (by decide) rfl hl.1 rfl (Nat.le_of_ble_eq_true rfl) dX11_longest_101 ⟨Nat.le_refl _, Nat.le_refl _⟩) (fun _ _ h => cw_tr Bh_7.2.2 h (by decide)) rfl (fun rh_13 αh_13 Hh_13 Lh_13 ph_13 Bh_13 => ?_)
                exact q_iret C Bh_13 hr hlk Bh_13.2.2 dX11_longest_104
            ·
              have jc_8 := il_nle c_8
              refine lv_aload_n hx hb dX11_longest_44 rfl (lv_at hl 0 rfl) (hp_n (n := 45) rfl ?_)
              refine q_getr (κ := 12) (k := 12) (φ := 612) (pc' := 48) C Bh_7 (cw_k Bh_7.2.2 k0) fl_X11_62 rfl rfl rfl (cw_r Bh_7.2.2 k0 rfl rfl (by decide) (by decide)) dX11_longest_45 rfl (fun b_14 eb_14 kb_14 => ?_)
              refine lv_iload hx hb dX11_longest_48 (lv_at hl 6 rfl) (hp_n (n := 50) rfl ?_)
              refine lv_iload_n hx hb dX11_longest_50 rfl (lv_at hl 1 rfl) (hp_n (n := 51) rfl ?_)
              refine q_cv (pc' := 54) Bh_7 (hp_runV (As := [.int v6_h_7, .int a1]) (rest := []) C Bh_7 (t_X8_toThing Γ l αh_7 Bh_7.2.2.1 b_14 (cw_k Bh_7.2.2 kb_14) v6_h_7 a1) lb_X8_toThing lv_X8_toThing lk_X11_267 (cw_k Bh_7.2.2 kb_14) rfl (by decide) rfl hl.1 rfl (Nat.le_of_ble_eq_true rfl) dX11_longest_51 ⟨Nat.le_refl _, Nat.le_refl _⟩) (fun _ h => cw_tr Bh_7.2.2 h (by decide)) rfl (fun αh_15 Hh_15 Lh_15 ph_15 Bh_15 => ?_)
              refine lv_iload hx hb dX11_longest_54 (lv_at hl 5 rfl) (hp_n (n := 56) rfl ?_)
              refine lv_aload_n hx hb dX11_longest_56 rfl (lv_at hl 0 rfl) (hp_n (n := 57) rfl ?_)
              have t_16 : b_14 = hp_R αh_15 612 a0 := by rw [cw_R ph_15 a0 (by decide)]; exact eb_14
              refine q_gets (κ := 12) (k := 12) (φ := 612) (pc' := 60) C Bh_15 (cw_k Bh_15.2.2 k0) fl_X11_62 rfl rfl rfl t_16 dX11_longest_57 rfl ?_
              refine q_geti (κ := 9) (k := 3) (φ := 453) (pc' := 63) C Bh_15 (cw_k Bh_15.2.2 kb_14) fl_X11_312 rfl rfl rfl dX11_longest_60 rfl (fun x_17 ex_17 => ?_)
              obtain ⟨gx_17a, gx_17b⟩ : 0 ≤ x_17.toInt ∧ x_17.toInt ≤ 64 := by rw [ex_17]; exact Bh_15.2.2.1.1 453 b_14 rfl
              refine lv_iadd hx hb dX11_longest_63 (hp_n (n := 64) rfl (lv_topi (fun x_18 ex_18 => ?_)))
              refine lv_istore (lv' := [(5, .int x_18), (0, .ref a0), (1, .int a1), (2, .int a2), (3, .int v3_h_7), (4, .int v4_h_7), (6, .int v6_h_7)]) hx hb dX11_longest_64 hl (by decide) rfl (fun ls hl => hp_n (n := 66) rfl ?_)
              refine lv_aload_n hx hb dX11_longest_66 rfl (lv_at hl 1 rfl) (hp_n (n := 67) rfl ?_)
              refine q_gets (κ := 12) (k := 12) (φ := 612) (pc' := 70) C Bh_15 (cw_k Bh_15.2.2 k0) fl_X11_62 rfl rfl rfl t_16 dX11_longest_67 rfl ?_
              refine q_getj (κ := 9) (k := 3) (φ := 453) (pc' := 73) C Bh_15 (cw_k Bh_15.2.2 kb_14) fl_X11_312 rfl rfl rfl ex_17 dX11_longest_70 rfl ?_
              refine lv_iload_n hx hb dX11_longest_73 rfl (lv_at hl 4 rfl) (hp_n (n := 74) rfl ?_)
              refine lv_icmp_le (tgt := 89) hx hb dX11_longest_74 (by decide) (fun c_19 => ?_) (fun c_19 => hp_n (n := 77) rfl ?_)
              ·
                have jc_19 := il_le c_19
                obtain ⟨x_20, ex_20⟩ : ∃ y : Int32, y = v6_h_7 + 1 := ⟨_, rfl⟩
                have qx_20 : x_20.toInt = v6_h_7.toInt + 1 := by have q0 := ib_hi a1; have qa := ib_lo v6_h_7; rw [ex_20]; exact ii_add (by omega) (by omega)
                refine lv_iinc (v := x_20) (lv' := [(6, .int x_20), (5, .int x_18), (0, .ref a0), (1, .int a1), (2, .int a2), (3, .int v3_h_7), (4, .int v4_h_7)]) hx hb dX11_longest_89 hl (k := 6) rfl (by rw [ex_20]; rfl) (by decide) rfl (fun ls hl => hp_n (n := 92) rfl ?_)
                refine lv_goto (tgt := 38) hx hb dX11_longest_92 (by decide) ?_
                exact ih38 _ (by have q0 := ib_hi a1; have q1 := ib_lo a1; have qa := ib_hi v6_h_7; have qb := ib_lo v6_h_7; have qc : (v6_h_7 + 1).toInt = v6_h_7.toInt + (1 : Int32).toInt := ii_add (by omega) (by omega); rw [ex_20]; omega) αh_15 Hh_15 Lh_15 Bh_15 v3_h_7 v4_h_7 x_18 x_20 (by omega) ls (lv_sub hl [2, 3, 4, 5, 6, 1, 0] rfl) rfl
              ·
                have jc_19 := il_nle c_19
                refine lv_aload_n hx hb dX11_longest_77 rfl (lv_at hl 1 rfl) (hp_n (n := 78) rfl ?_)
                refine q_gets (κ := 12) (k := 12) (φ := 612) (pc' := 81) C Bh_15 (cw_k Bh_15.2.2 k0) fl_X11_62 rfl rfl rfl t_16 dX11_longest_78 rfl ?_
                refine q_getj (κ := 9) (k := 3) (φ := 453) (pc' := 84) C Bh_15 (cw_k Bh_15.2.2 kb_14) fl_X11_312 rfl rfl rfl ex_17 dX11_longest_81 rfl ?_
                refine lv_istore_n (lv' := [(3, .int x_17), (5, .int x_18), (0, .ref a0), (1, .int a1), (2, .int a2), (4, .int v4_h_7), (6, .int v6_h_7)]) hx hb dX11_longest_84 rfl hl (by decide) rfl (fun ls hl => hp_n (n := 85) rfl ?_)
                refine lv_iload hx hb dX11_longest_85 (lv_at hl 6 rfl) (hp_n (n := 87) rfl ?_)
                refine lv_istore (lv' := [(4, .int v6_h_7), (3, .int x_17), (5, .int x_18), (0, .ref a0), (1, .int a1), (2, .int a2), (6, .int v6_h_7)]) hx hb dX11_longest_87 hl (by decide) rfl (fun ls hl => hp_n (n := 89) rfl ?_)
                obtain ⟨x_21, ex_21⟩ : ∃ y : Int32, y = v6_h_7 + 1 := ⟨_, rfl⟩
                have qx_21 : x_21.toInt = v6_h_7.toInt + 1 := by have q0 := ib_hi a1; have qa := ib_lo v6_h_7; rw [ex_21]; exact ii_add (by omega) (by omega)
                refine lv_iinc (v := x_21) (lv' := [(6, .int x_21), (4, .int v6_h_7), (3, .int x_17), (5, .int x_18), (0, .ref a0), (1, .int a1), (2, .int a2)]) hx hb dX11_longest_89 hl (k := 6) rfl (by rw [ex_21]; rfl) (by decide) rfl (fun ls hl => hp_n (n := 92) rfl ?_)
                refine lv_goto (tgt := 38) hx hb dX11_longest_92 (by decide) ?_
                exact ih38 _ (by have q0 := ib_hi a1; have q1 := ib_lo a1; have qa := ib_hi v6_h_7; have qb := ib_lo v6_h_7; have qc : (v6_h_7 + 1).toInt = v6_h_7.toInt + (1 : Int32).toInt := ii_add (by omega) (by omega); rw [ex_21]; omega) αh_15 Hh_15 Lh_15 Bh_15 x_17 v6_h_7 x_18 x_21 (by omega) ls (lv_sub hl [4, 5, 6, 2, 1, 3, 0] rfl) rfl
          refine lv_istore (lv' := [(6, .int 0), (5, .int 0), (4, .int 0), (3, .int 0), (0, .ref a0), (1, .int a1), (2, .int a2)]) hx hb dX11_longest_36 hl (by decide) rfl (fun ls hl => hp_n (n := 38) rfl ?_)
          exact J38 _ α s.heap [] B 0 0 0 0 (by omega) ls (lv_sub hl [4, 5, 6, 3, 2, 1, 0] rfl) rfl
        ·
          have jc_6 := il_nle c_6
          exact J21 s.heap [] B ls (lv_sub hl [0] rfl)
abbrev w_X11_part : cw_W := ([600], [], [33], [])
set_option maxRecDepth 100000 in
set_option maxHeartbeats 4000000 in
theorem t_X11_part (Γ : hp_G) (l : Launch) (α : hp_T) (g : GC α) (a0 : Nat) (k0 : hp_K α a0 = 12) (a1 : Int32) (a2 : Int32) (a3 : Int32) : Met l yX11_part (hp_ws yX11_part cX11_part 6 (some .int)) (hp_rm 5 0 0) (hp_Pc Γ α [.ref a0, .int a1, .int a2, .int a3]) (hp_Qi Γ (fun r β => cw w_X11_part α β)) 0 0 (hp_A Γ) := by
  refine hp_start (by decide) ?_
  intro p e s m below meth c C hr hlk B0 hnm
  have C : hp_C Γ p m c cX11_part 6 s ([.ref a0, .int a1, .int a2, .int a3] : List Value).toArray RX11 := C
  have hx := C.1.1
  have hb := C.1.2.1
  have hown := C.1.2.2.2.1
  have hts := C.1.2.2.2.2
  have B : hp_B Γ (cw w_X11_part) s α α s.heap [] := ⟨B0.1, B0.2.1, cw_rf g⟩
  have lit0 : (0 : Int32).toInt = 0 := by decide
  have lit1 : (1 : Int32).toInt = 1 := by decide
  have lit2 : (2 : Int32).toInt = 2 := by decide
  have hl := lv_entry ([.ref a0, .int a1, .int a2, .int a3]) (n := 6) (Nat.le_of_ble_eq_true rfl)
  show W p l e (hp_rm 5 0 0) s m ([.ref a0, .int a1, .int a2, .int a3] : List Value).toArray below meth c s.heap [] 0 0 (MQ below (hp_Qi Γ (fun r β => cw w_X11_part α β)) ([.ref a0, .int a1, .int a2, .int a3] : List Value).toArray s 0 0 (hp_A Γ)) (entryFrame m ([.ref a0, .int a1, .int a2, .int a3] : List Value).toArray 6)
  rw [lg_entry_eq]
  generalize (lg_sl ([.ref a0, .int a1, .int a2, .int a3]) ++ List.replicate (6 - (lg_sl ([.ref a0, .int a1, .int a2, .int a3])).length) Slot.unset).toArray = ls at hl ⊢
  have hl : lv_has ls 6 [(0, .ref a0), (1, .int a1), (2, .int a2), (3, .int a3)] := hl
  refine lv_iload_n hx hb dX11_part_0 rfl (lv_at hl 3 rfl) (hp_n (n := 1) rfl ?_)
  have J9 : ∀ (Hh_1 : Heap) (Lh_1 : List Loc) (Bh_1 : hp_B Γ (cw w_X11_part) s α α Hh_1 Lh_1) (ls : Array Slot) (hl : lv_has ls 6 [(0, .ref a0)]), W p l e (hp_rm 5 0 0) s m ([.ref a0, .int a1, .int a2, .int a3] : List Value).toArray below meth c Hh_1 Lh_1 0 0 (MQ below (hp_Qi Γ (fun r β => cw w_X11_part α β)) ([.ref a0, .int a1, .int a2, .int a3] : List Value).toArray s 0 0 (hp_A Γ)) (F0 m 9 ls []) := by
    intro Hh_1 Lh_1 Bh_1 ls hl
    refine lv_aload_n hx hb dX11_part_9 rfl (lv_at hl 0 rfl) (hp_n (n := 10) rfl ?_)
    refine lv_iconst (v := 1) hx hb dX11_part_10 (by decide) (hp_n (n := 11) rfl ?_)
    refine q_ci (pc' := 14) Bh_1 (hp_runV (As := [.int 1]) (rest := []) C Bh_1 (t_X11_refuse Γ l α Bh_1.2.2.1 a0 (cw_k Bh_1.2.2 k0) 1) lb_X11_refuse lv_X11_refuse lk_X11_98 (cw_k Bh_1.2.2 k0) rfl (by decide) rfl hl.1 rfl (Nat.le_of_ble_eq_true rfl) dX11_part_11 ⟨Nat.le_refl _, Nat.le_refl _⟩) (fun _ _ h => cw_tr Bh_1.2.2 h (by decide)) rfl (fun rh_2 αh_2 Hh_2 Lh_2 ph_2 Bh_2 => ?_)
    exact q_iret C Bh_2 hr hlk Bh_2.2.2 dX11_part_14
  refine lv_if_lt (tgt := 9) hx hb dX11_part_1 (by decide) (fun c_3 => ?_) (fun c_3 => hp_n (n := 4) rfl ?_)
  ·
    have jc_3 := il_lt c_3
    exact J9 s.heap [] B ls (lv_sub hl [0] rfl)
  ·
    have jc_3 := il_nlt c_3
    refine lv_iload_n hx hb dX11_part_4 rfl (lv_at hl 3 rfl) (hp_n (n := 5) rfl ?_)
    refine lv_iconst (v := 1) hx hb dX11_part_5 (by decide) (hp_n (n := 6) rfl ?_)
    refine lv_icmp_le (tgt := 15) hx hb dX11_part_6 (by decide) (fun c_4 => ?_) (fun c_4 => hp_n (n := 9) rfl ?_)
    ·
      have jc_4 := il_le c_4
      refine lv_aload_n hx hb dX11_part_15 rfl (lv_at hl 0 rfl) (hp_n (n := 16) rfl ?_)
      refine q_getr (κ := 12) (k := 1) (φ := 601) (pc' := 19) C B (cw_k B.2.2 k0) fl_X11_16 rfl rfl rfl (cw_r B.2.2 k0 rfl rfl (by decide) (by decide)) dX11_part_16 rfl (fun b_5 eb_5 kb_5 => ?_)
      refine lv_iload_n hx hb dX11_part_19 rfl (lv_at hl 1 rfl) (hp_n (n := 20) rfl ?_)
      refine q_cq (pc' := 23) B (hp_runV (As := [.int a1]) (rest := []) C B (t_X10_logAt Γ l α B.2.2.1 b_5 (cw_k B.2.2 kb_5) a1) lb_X10_logAt lv_X10_logAt lk_X11_163 (cw_k B.2.2 kb_5) rfl (by decide) rfl hl.1 rfl (Nat.le_of_ble_eq_true rfl) dX11_part_20 ⟨Nat.le_refl _, Nat.le_refl _⟩) (fun _ _ h => by rw [h.1]; exact B.2.2) rfl (fun rh_6 αh_6 Hh_6 Lh_6 ph_6 Bh_6 => ?_)
      rw [ph_6.1] at Bh_6
      rcases rh_6 with _ | bh_6
      ·
        refine lv_astoreN (lv' := [(4, .null), (0, .ref a0), (1, .int a1), (2, .int a2), (3, .int a3)]) hx hb dX11_part_23 hl (by decide) rfl (fun ls hl => hp_n (n := 25) rfl ?_)
        refine lv_aload_n hx hb dX11_part_25 rfl (lv_at hl 1 rfl) (hp_n (n := 26) rfl ?_)
        refine q_gets (κ := 12) (k := 1) (φ := 601) (pc' := 29) C Bh_6 (cw_k Bh_6.2.2 k0) fl_X11_16 rfl rfl rfl eb_5 dX11_part_26 rfl ?_
        refine lv_iload_n hx hb dX11_part_29 rfl (lv_at hl 3 rfl) (hp_n (n := 30) rfl ?_)
        refine q_cq (pc' := 33) Bh_6 (hp_runV (As := [.int a2]) (rest := []) C Bh_6 (t_X10_logAt Γ l α Bh_6.2.2.1 b_5 (cw_k Bh_6.2.2 kb_5) a2) lb_X10_logAt lv_X10_logAt lk_X11_163 (cw_k Bh_6.2.2 kb_5) rfl (by decide) rfl hl.1 rfl (Nat.le_of_ble_eq_true rfl) dX11_part_30 ⟨Nat.le_refl _, Nat.le_refl _⟩) (fun _ _ h => by rw [h.1]; exact Bh_6.2.2) rfl (fun rh_7 αh_7 Hh_7 Lh_7 ph_7 Bh_7 => ?_)
        rw [ph_7.1] at Bh_7
        rcases rh_7 with _ | bh_7
        ·
          refine lv_astoreN (lv' := [(5, .null), (4, .null), (0, .ref a0), (1, .int a1), (2, .int a2), (3, .int a3)]) hx hb dX11_part_33 hl (by decide) rfl (fun ls hl => hp_n (n := 35) rfl ?_)
          refine lv_aloadN hx hb dX11_part_35 (lv_at hl 1 rfl) (hp_n (n := 37) rfl ?_)
          have J45 : ∀ (Hh_8 : Heap) (Lh_8 : List Loc) (Bh_8 : hp_B Γ (cw w_X11_part) s α α Hh_8 Lh_8) (ls : Array Slot) (hl : lv_has ls 6 [(0, .ref a0)]), W p l e (hp_rm 5 0 0) s m ([.ref a0, .int a1, .int a2, .int a3] : List Value).toArray below meth c Hh_8 Lh_8 0 0 (MQ below (hp_Qi Γ (fun r β => cw w_X11_part α β)) ([.ref a0, .int a1, .int a2, .int a3] : List Value).toArray s 0 0 (hp_A Γ)) (F0 m 45 ls []) := by
            intro Hh_8 Lh_8 Bh_8 ls hl
            refine lv_aload_n hx hb dX11_part_45 rfl (lv_at hl 0 rfl) (hp_n (n := 46) rfl ?_)
            refine lv_iconst (v := 2) hx hb dX11_part_46 (by decide) (hp_n (n := 47) rfl ?_)
            refine q_ci (pc' := 50) Bh_8 (hp_runV (As := [.int 2]) (rest := []) C Bh_8 (t_X11_refuse Γ l α Bh_8.2.2.1 a0 (cw_k Bh_8.2.2 k0) 2) lb_X11_refuse lv_X11_refuse lk_X11_98 (cw_k Bh_8.2.2 k0) rfl (by decide) rfl hl.1 rfl (Nat.le_of_ble_eq_true rfl) dX11_part_47 ⟨Nat.le_refl _, Nat.le_refl _⟩) (fun _ _ h => cw_tr Bh_8.2.2 h (by decide)) rfl (fun rh_9 αh_9 Hh_9 Lh_9 ph_9 Bh_9 => ?_)
            exact q_iret C Bh_9 hr hlk Bh_9.2.2 dX11_part_50
          refine lv_ifnullN (tgt := 45) hx hb dX11_part_37 (by decide) ?_
          exact J45 Hh_7 Lh_7 Bh_7 ls (lv_sub hl [2] rfl)
        ·
          have kbh_7 : hp_K α bh_7 = 3 := cw_k' Bh_7.2.2 (ph_7.2 bh_7 rfl)
          refine lv_astore (lv' := [(5, .ref bh_7), (4, .null), (0, .ref a0), (1, .int a1), (2, .int a2), (3, .int a3)]) hx hb dX11_part_33 hl (by decide) rfl (fun ls hl => hp_n (n := 35) rfl ?_)
          refine lv_aloadN hx hb dX11_part_35 (lv_at hl 1 rfl) (hp_n (n := 37) rfl ?_)
          have J45 : ∀ (Hh_10 : Heap) (Lh_10 : List Loc) (Bh_10 : hp_B Γ (cw w_X11_part) s α α Hh_10 Lh_10) (ls : Array Slot) (hl : lv_has ls 6 [(0, .ref a0)]), W p l e (hp_rm 5 0 0) s m ([.ref a0, .int a1, .int a2, .int a3] : List Value).toArray below meth c Hh_10 Lh_10 0 0 (MQ below (hp_Qi Γ (fun r β => cw w_X11_part α β)) ([.ref a0, .int a1, .int a2, .int a3] : List Value).toArray s 0 0 (hp_A Γ)) (F0 m 45 ls []) := by
            intro Hh_10 Lh_10 Bh_10 ls hl
            refine lv_aload_n hx hb dX11_part_45 rfl (lv_at hl 0 rfl) (hp_n (n := 46) rfl ?_)
            refine lv_iconst (v := 2) hx hb dX11_part_46 (by decide) (hp_n (n := 47) rfl ?_)
            refine q_ci (pc' := 50) Bh_10 (hp_runV (As := [.int 2]) (rest := []) C Bh_10 (t_X11_refuse Γ l α Bh_10.2.2.1 a0 (cw_k Bh_10.2.2 k0) 2) lb_X11_refuse lv_X11_refuse lk_X11_98 (cw_k Bh_10.2.2 k0) rfl (by decide) rfl hl.1 rfl (Nat.le_of_ble_eq_true rfl) dX11_part_47 ⟨Nat.le_refl _, Nat.le_refl _⟩) (fun _ _ h => cw_tr Bh_10.2.2 h (by decide)) rfl (fun rh_11 αh_11 Hh_11 Lh_11 ph_11 Bh_11 => ?_)
            exact q_iret C Bh_11 hr hlk Bh_11.2.2 dX11_part_50
          refine lv_ifnullN (tgt := 45) hx hb dX11_part_37 (by decide) ?_
          exact J45 Hh_7 Lh_7 Bh_7 ls (lv_sub hl [2] rfl)
      ·
        have kbh_6 : hp_K α bh_6 = 3 := cw_k' Bh_6.2.2 (ph_6.2 bh_6 rfl)
        refine lv_astore (lv' := [(4, .ref bh_6), (0, .ref a0), (1, .int a1), (2, .int a2), (3, .int a3)]) hx hb dX11_part_23 hl (by decide) rfl (fun ls hl => hp_n (n := 25) rfl ?_)
        refine lv_aload_n hx hb dX11_part_25 rfl (lv_at hl 1 rfl) (hp_n (n := 26) rfl ?_)
        refine q_gets (κ := 12) (k := 1) (φ := 601) (pc' := 29) C Bh_6 (cw_k Bh_6.2.2 k0) fl_X11_16 rfl rfl rfl eb_5 dX11_part_26 rfl ?_
        refine lv_iload_n hx hb dX11_part_29 rfl (lv_at hl 3 rfl) (hp_n (n := 30) rfl ?_)
        refine q_cq (pc' := 33) Bh_6 (hp_runV (As := [.int a2]) (rest := []) C Bh_6 (t_X10_logAt Γ l α Bh_6.2.2.1 b_5 (cw_k Bh_6.2.2 kb_5) a2) lb_X10_logAt lv_X10_logAt lk_X11_163 (cw_k Bh_6.2.2 kb_5) rfl (by decide) rfl hl.1 rfl (Nat.le_of_ble_eq_true rfl) dX11_part_30 ⟨Nat.le_refl _, Nat.le_refl _⟩) (fun _ _ h => by rw [h.1]; exact Bh_6.2.2) rfl (fun rh_12 αh_12 Hh_12 Lh_12 ph_12 Bh_12 => ?_)
        rw [ph_12.1] at Bh_12
        rcases rh_12 with _ | bh_12
        ·
          refine lv_astoreN (lv' := [(5, .null), (4, .ref bh_6), (0, .ref a0), (1, .int a1), (2, .int a2), (3, .int a3)]) hx hb dX11_part_33 hl (by decide) rfl (fun ls hl => hp_n (n := 35) rfl ?_)
          refine lv_aload hx hb dX11_part_35 (lv_at hl 1 rfl) (hp_n (n := 37) rfl ?_)
          have J45 : ∀ (Hh_13 : Heap) (Lh_13 : List Loc) (Bh_13 : hp_B Γ (cw w_X11_part) s α α Hh_13 Lh_13) (ls : Array Slot) (hl : lv_has ls 6 [(0, .ref a0)]), W p l e (hp_rm 5 0 0) s m ([.ref a0, .int a1, .int a2, .int a3] : List Value).toArray below meth c Hh_13 Lh_13 0 0 (MQ below (hp_Qi Γ (fun r β => cw w_X11_part α β)) ([.ref a0, .int a1, .int a2, .int a3] : List Value).toArray s 0 0 (hp_A Γ)) (F0 m 45 ls []) := by
            intro Hh_13 Lh_13 Bh_13 ls hl
            refine lv_aload_n hx hb dX11_part_45 rfl (lv_at hl 0 rfl) (hp_n (n := 46) rfl ?_)
            refine lv_iconst (v := 2) hx hb dX11_part_46 (by decide) (hp_n (n := 47) rfl ?_)
            refine q_ci (pc' := 50) Bh_13 (hp_runV (As := [.int 2]) (rest := []) C Bh_13 (t_X11_refuse Γ l α Bh_13.2.2.1 a0 (cw_k Bh_13.2.2 k0) 2) lb_X11_refuse lv_X11_refuse lk_X11_98 (cw_k Bh_13.2.2 k0) rfl (by decide) rfl hl.1 rfl (Nat.le_of_ble_eq_true rfl) dX11_part_47 ⟨Nat.le_refl _, Nat.le_refl _⟩) (fun _ _ h => cw_tr Bh_13.2.2 h (by decide)) rfl (fun rh_14 αh_14 Hh_14 Lh_14 ph_14 Bh_14 => ?_)
            exact q_iret C Bh_14 hr hlk Bh_14.2.2 dX11_part_50
          refine lv_ifnull hx hb dX11_part_37 (hp_n (n := 40) rfl ?_)
          refine lv_aloadN hx hb dX11_part_40 (lv_at hl 0 rfl) (hp_n (n := 42) rfl ?_)
          refine lv_ifnonnullN hx hb dX11_part_42 (hp_n (n := 45) rfl ?_)
          exact J45 Hh_12 Lh_12 Bh_12 ls (lv_sub hl [2] rfl)
        ·
          have kbh_12 : hp_K α bh_12 = 3 := cw_k' Bh_12.2.2 (ph_12.2 bh_12 rfl)
          refine lv_astore (lv' := [(5, .ref bh_12), (4, .ref bh_6), (0, .ref a0), (1, .int a1), (2, .int a2), (3, .int a3)]) hx hb dX11_part_33 hl (by decide) rfl (fun ls hl => hp_n (n := 35) rfl ?_)
          refine lv_aload hx hb dX11_part_35 (lv_at hl 1 rfl) (hp_n (n := 37) rfl ?_)
          have J45 : ∀ (Hh_15 : Heap) (Lh_15 : List Loc) (Bh_15 : hp_B Γ (cw w_X11_part) s α α Hh_15 Lh_15) (ls : Array Slot) (hl : lv_has ls 6 [(0, .ref a0)]), W p l e (hp_rm 5 0 0) s m ([.ref a0, .int a1, .int a2, .int a3] : List Value).toArray below meth c Hh_15 Lh_15 0 0 (MQ below (hp_Qi Γ (fun r β => cw w_X11_part α β)) ([.ref a0, .int a1, .int a2, .int a3] : List Value).toArray s 0 0 (hp_A Γ)) (F0 m 45 ls []) := by
            intro Hh_15 Lh_15 Bh_15 ls hl
            refine lv_aload_n hx hb dX11_part_45 rfl (lv_at hl 0 rfl) (hp_n (n := 46) rfl ?_)
            refine lv_iconst (v := 2) hx hb dX11_part_46 (by decide) (hp_n (n := 47) rfl ?_)
            refine q_ci (pc' := 50) Bh_15 (hp_runV (As := [.int 2]) (rest := []) C Bh_15 (t_X11_refuse Γ l α Bh_15.2.2.1 a0 (cw_k Bh_15.2.2 k0) 2) lb_X11_refuse lv_X11_refuse lk_X11_98 (cw_k Bh_15.2.2 k0) rfl (by decide) rfl hl.1 rfl (Nat.le_of_ble_eq_true rfl) dX11_part_47 ⟨Nat.le_refl _, Nat.le_refl _⟩) (fun _ _ h => cw_tr Bh_15.2.2 h (by decide)) rfl (fun rh_16 αh_16 Hh_16 Lh_16 ph_16 Bh_16 => ?_)
            exact q_iret C Bh_16 hr hlk Bh_16.2.2 dX11_part_50
          refine lv_ifnull hx hb dX11_part_37 (hp_n (n := 40) rfl ?_)
          refine lv_aload hx hb dX11_part_40 (lv_at hl 0 rfl) (hp_n (n := 42) rfl ?_)
          refine lv_ifnonnull (tgt := 51) hx hb dX11_part_42 (by decide) ?_
          refine lv_aload_n hx hb dX11_part_51 rfl (lv_at hl 2 rfl) (hp_n (n := 52) rfl ?_)
          refine lv_iload_n hx hb dX11_part_52 rfl (lv_at hl 5 rfl) (hp_n (n := 53) rfl ?_)
          refine lv_if_ne (tgt := 70) hx hb dX11_part_53 (by decide) (fun c_17 => ?_) (fun c_17 => hp_n (n := 56) rfl ?_)
          ·
            have jc_17 := il_ne c_17
            refine lv_aload_n hx hb dX11_part_70 rfl (lv_at hl 2 rfl) (hp_n (n := 71) rfl ?_)
            refine q_gets (κ := 12) (k := 1) (φ := 601) (pc' := 74) C Bh_12 (cw_k Bh_12.2.2 k0) fl_X11_16 rfl rfl rfl eb_5 dX11_part_71 rfl ?_
            refine lv_aload hx hb dX11_part_74 (lv_at hl 1 rfl) (hp_n (n := 76) rfl ?_)
            refine lv_aload hx hb dX11_part_76 (lv_at hl 0 rfl) (hp_n (n := 78) rfl ?_)
            refine q_ci (pc' := 81) Bh_12 (hp_runV (As := [.ref bh_6, .ref bh_12]) (rest := [.ref a0]) C Bh_12 (t_X10_partingCompared Γ l α Bh_12.2.2.1 b_5 (cw_k Bh_12.2.2 kb_5) bh_6 (cw_k Bh_12.2.2 kbh_6) bh_12 (cw_k Bh_12.2.2 kbh_12)) lb_X10_partingCompared lv_X10_partingCompared lk_X11_350 (cw_k Bh_12.2.2 kb_5) rfl (by decide) rfl hl.1 rfl (Nat.le_of_ble_eq_true rfl) dX11_part_78 ⟨Nat.le_refl _, Nat.le_refl _⟩) (fun _ _ h => cw_tr Bh_12.2.2 h (by decide)) rfl (fun rh_18 αh_18 Hh_18 Lh_18 ph_18 Bh_18 => ?_)
            refine q_ci (pc' := 84) Bh_18 (hp_runV (As := [.int rh_18]) (rest := []) C Bh_18 (t_X11_answer Γ l αh_18 Bh_18.2.2.1 a0 (cw_k Bh_18.2.2 k0) rh_18) lb_X11_answer lv_X11_answer lk_X11_115 (cw_k Bh_18.2.2 k0) rfl (by decide) rfl hl.1 rfl (Nat.le_of_ble_eq_true rfl) dX11_part_81 ⟨Nat.le_refl _, Nat.le_refl _⟩) (fun _ _ h => cw_tr Bh_18.2.2 h (by decide)) rfl (fun rh_19 αh_19 Hh_19 Lh_19 ph_19 Bh_19 => ?_)
            exact q_iret C Bh_19 hr hlk Bh_19.2.2 dX11_part_84
          ·
            have jc_17 := il_eq c_17
            refine lv_aload_n hx hb dX11_part_56 rfl (lv_at hl 2 rfl) (hp_n (n := 57) rfl ?_)
            refine q_gets (κ := 12) (k := 1) (φ := 601) (pc' := 60) C Bh_12 (cw_k Bh_12.2.2 k0) fl_X11_16 rfl rfl rfl eb_5 dX11_part_57 rfl ?_
            refine lv_aload hx hb dX11_part_60 (lv_at hl 1 rfl) (hp_n (n := 62) rfl ?_)
            refine lv_aload hx hb dX11_part_62 (lv_at hl 0 rfl) (hp_n (n := 64) rfl ?_)
            refine q_ci (pc' := 67) Bh_12 (hp_runV (As := [.ref bh_6, .ref bh_12]) (rest := [.ref a0]) C Bh_12 (t_X10_partingEntry Γ l α Bh_12.2.2.1 b_5 (cw_k Bh_12.2.2 kb_5) bh_6 (cw_k Bh_12.2.2 kbh_6) bh_12 (cw_k Bh_12.2.2 kbh_12)) lb_X10_partingEntry lv_X10_partingEntry lk_X11_346 (cw_k Bh_12.2.2 kb_5) rfl (by decide) rfl hl.1 rfl (Nat.le_of_ble_eq_true rfl) dX11_part_64 ⟨Nat.le_refl _, Nat.le_refl _⟩) (fun _ _ h => cw_tr Bh_12.2.2 h (by decide)) rfl (fun rh_20 αh_20 Hh_20 Lh_20 ph_20 Bh_20 => ?_)
            refine lv_goto (tgt := 81) hx hb dX11_part_67 (by decide) ?_
            refine q_ci (pc' := 84) Bh_20 (hp_runV (As := [.int rh_20]) (rest := []) C Bh_20 (t_X11_answer Γ l αh_20 Bh_20.2.2.1 a0 (cw_k Bh_20.2.2 k0) rh_20) lb_X11_answer lv_X11_answer lk_X11_115 (cw_k Bh_20.2.2 k0) rfl (by decide) rfl hl.1 rfl (Nat.le_of_ble_eq_true rfl) dX11_part_81 ⟨Nat.le_refl _, Nat.le_refl _⟩) (fun _ _ h => cw_tr Bh_20.2.2 h (by decide)) rfl (fun rh_21 αh_21 Hh_21 Lh_21 ph_21 Bh_21 => ?_)
            exact q_iret C Bh_21 hr hlk Bh_21.2.2 dX11_part_84
    ·
      have jc_4 := il_nle c_4
      exact J9 s.heap [] B ls (lv_sub hl [0] rfl)
abbrev w_X11_blame : cw_W := ([600], [], [33], [])
set_option maxRecDepth 100000 in
set_option maxHeartbeats 4000000 in
theorem t_X11_blame (Γ : hp_G) (l : Launch) (α : hp_T) (g : GC α) (a0 : Nat) (k0 : hp_K α a0 = 12) (a1 : Int32) (a2 : Int32) : Met l yX11_blame (hp_ws yX11_blame cX11_blame 4 (some .int)) (hp_rm 6 0 0) (hp_Pc Γ α [.ref a0, .int a1, .int a2]) (hp_Qi Γ (fun r β => cw w_X11_blame α β)) 0 0 (hp_A Γ) := by
  refine hp_start (by decide) ?_
  intro p e s m below meth c C hr hlk B0 hnm
  have C : hp_C Γ p m c cX11_blame 4 s ([.ref a0, .int a1, .int a2] : List Value).toArray RX11 := C
  have hx := C.1.1
  have hb := C.1.2.1
  have hown := C.1.2.2.2.1
  have hts := C.1.2.2.2.2
  have B : hp_B Γ (cw w_X11_blame) s α α s.heap [] := ⟨B0.1, B0.2.1, cw_rf g⟩
  have litm1 : ((-1) : Int32).toInt = (-1) := by decide
  have lit0 : (0 : Int32).toInt = 0 := by decide
  have lit1 : (1 : Int32).toInt = 1 := by decide
  have lit2 : (2 : Int32).toInt = 2 := by decide
  have hl := lv_entry ([.ref a0, .int a1, .int a2]) (n := 4) (Nat.le_of_ble_eq_true rfl)
  show W p l e (hp_rm 6 0 0) s m ([.ref a0, .int a1, .int a2] : List Value).toArray below meth c s.heap [] 0 0 (MQ below (hp_Qi Γ (fun r β => cw w_X11_blame α β)) ([.ref a0, .int a1, .int a2] : List Value).toArray s 0 0 (hp_A Γ)) (entryFrame m ([.ref a0, .int a1, .int a2] : List Value).toArray 4)
  rw [lg_entry_eq]
  generalize (lg_sl ([.ref a0, .int a1, .int a2]) ++ List.replicate (4 - (lg_sl ([.ref a0, .int a1, .int a2])).length) Slot.unset).toArray = ls at hl ⊢
  have hl : lv_has ls 4 [(0, .ref a0), (1, .int a1), (2, .int a2)] := hl
  refine lv_iload_n hx hb dX11_blame_0 rfl (lv_at hl 2 rfl) (hp_n (n := 1) rfl ?_)
  have J9 : ∀ (Hh_1 : Heap) (Lh_1 : List Loc) (Bh_1 : hp_B Γ (cw w_X11_blame) s α α Hh_1 Lh_1) (ls : Array Slot) (hl : lv_has ls 4 [(0, .ref a0)]), W p l e (hp_rm 6 0 0) s m ([.ref a0, .int a1, .int a2] : List Value).toArray below meth c Hh_1 Lh_1 0 0 (MQ below (hp_Qi Γ (fun r β => cw w_X11_blame α β)) ([.ref a0, .int a1, .int a2] : List Value).toArray s 0 0 (hp_A Γ)) (F0 m 9 ls []) := by
    intro Hh_1 Lh_1 Bh_1 ls hl
    refine lv_aload_n hx hb dX11_blame_9 rfl (lv_at hl 0 rfl) (hp_n (n := 10) rfl ?_)
    refine lv_iconst (v := 1) hx hb dX11_blame_10 (by decide) (hp_n (n := 11) rfl ?_)
    refine q_ci (pc' := 14) Bh_1 (hp_runV (As := [.int 1]) (rest := []) C Bh_1 (t_X11_refuse Γ l α Bh_1.2.2.1 a0 (cw_k Bh_1.2.2 k0) 1) lb_X11_refuse lv_X11_refuse lk_X11_98 (cw_k Bh_1.2.2 k0) rfl (by decide) rfl hl.1 rfl (Nat.le_of_ble_eq_true rfl) dX11_blame_11 ⟨Nat.le_refl _, Nat.le_refl _⟩) (fun _ _ h => cw_tr Bh_1.2.2 h (by decide)) rfl (fun rh_2 αh_2 Hh_2 Lh_2 ph_2 Bh_2 => ?_)
    exact q_iret C Bh_2 hr hlk Bh_2.2.2 dX11_blame_14
  refine lv_if_lt (tgt := 9) hx hb dX11_blame_1 (by decide) (fun c_3 => ?_) (fun c_3 => hp_n (n := 4) rfl ?_)
  ·
    have jc_3 := il_lt c_3
    exact J9 s.heap [] B ls (lv_sub hl [0] rfl)
  ·
    have jc_3 := il_nlt c_3
    refine lv_iload_n hx hb dX11_blame_4 rfl (lv_at hl 2 rfl) (hp_n (n := 5) rfl ?_)
    refine lv_iconst (v := 2) hx hb dX11_blame_5 (by decide) (hp_n (n := 6) rfl ?_)
    refine lv_icmp_le (tgt := 15) hx hb dX11_blame_6 (by decide) (fun c_4 => ?_) (fun c_4 => hp_n (n := 9) rfl ?_)
    ·
      have jc_4 := il_le c_4
      refine lv_aload_n hx hb dX11_blame_15 rfl (lv_at hl 0 rfl) (hp_n (n := 16) rfl ?_)
      refine q_getr (κ := 12) (k := 1) (φ := 601) (pc' := 19) C B (cw_k B.2.2 k0) fl_X11_16 rfl rfl rfl (cw_r B.2.2 k0 rfl rfl (by decide) (by decide)) dX11_blame_16 rfl (fun b_5 eb_5 kb_5 => ?_)
      refine lv_iload_n hx hb dX11_blame_19 rfl (lv_at hl 1 rfl) (hp_n (n := 20) rfl ?_)
      refine q_cq (pc' := 23) B (hp_runV (As := [.int a1]) (rest := []) C B (t_X10_logAt Γ l α B.2.2.1 b_5 (cw_k B.2.2 kb_5) a1) lb_X10_logAt lv_X10_logAt lk_X11_163 (cw_k B.2.2 kb_5) rfl (by decide) rfl hl.1 rfl (Nat.le_of_ble_eq_true rfl) dX11_blame_20 ⟨Nat.le_refl _, Nat.le_refl _⟩) (fun _ _ h => by rw [h.1]; exact B.2.2) rfl (fun rh_6 αh_6 Hh_6 Lh_6 ph_6 Bh_6 => ?_)
      rw [ph_6.1] at Bh_6
      rcases rh_6 with _ | bh_6
      ·
        refine lv_ifnonnullN hx hb dX11_blame_23 (hp_n (n := 26) rfl ?_)
        refine lv_aload_n hx hb dX11_blame_26 rfl (lv_at hl 0 rfl) (hp_n (n := 27) rfl ?_)
        refine lv_iconst (v := 2) hx hb dX11_blame_27 (by decide) (hp_n (n := 28) rfl ?_)
        refine q_ci (pc' := 31) Bh_6 (hp_runV (As := [.int 2]) (rest := []) C Bh_6 (t_X11_refuse Γ l α Bh_6.2.2.1 a0 (cw_k Bh_6.2.2 k0) 2) lb_X11_refuse lv_X11_refuse lk_X11_98 (cw_k Bh_6.2.2 k0) rfl (by decide) rfl hl.1 rfl (Nat.le_of_ble_eq_true rfl) dX11_blame_28 ⟨Nat.le_refl _, Nat.le_refl _⟩) (fun _ _ h => cw_tr Bh_6.2.2 h (by decide)) rfl (fun rh_7 αh_7 Hh_7 Lh_7 ph_7 Bh_7 => ?_)
        exact q_iret C Bh_7 hr hlk Bh_7.2.2 dX11_blame_31
      ·
        have kbh_6 : hp_K α bh_6 = 3 := cw_k' Bh_6.2.2 (ph_6.2 bh_6 rfl)
        refine lv_ifnonnull (tgt := 32) hx hb dX11_blame_23 (by decide) ?_
        refine lv_iload_n hx hb dX11_blame_32 rfl (lv_at hl 2 rfl) (hp_n (n := 33) rfl ?_)
        refine lv_iconst (v := 2) hx hb dX11_blame_33 (by decide) (hp_n (n := 34) rfl ?_)
        refine lv_icmp_ne (tgt := 50) hx hb dX11_blame_34 (by decide) (fun c_8 => ?_) (fun c_8 => hp_n (n := 37) rfl ?_)
        ·
          have jc_8 := il_ne c_8
          refine lv_aload_n hx hb dX11_blame_50 rfl (lv_at hl 0 rfl) (hp_n (n := 51) rfl ?_)
          refine q_gets (κ := 12) (k := 1) (φ := 601) (pc' := 54) C Bh_6 (cw_k Bh_6.2.2 k0) fl_X11_16 rfl rfl rfl eb_5 dX11_blame_51 rfl ?_
          refine lv_iload_n hx hb dX11_blame_54 rfl (lv_at hl 1 rfl) (hp_n (n := 55) rfl ?_)
          refine q_ci (pc' := 58) Bh_6 (hp_runV (As := [.int a1]) (rest := []) C Bh_6 (t_X10_leastUnsound Γ l α Bh_6.2.2.1 b_5 (cw_k Bh_6.2.2 kb_5) a1) lb_X10_leastUnsound lv_X10_leastUnsound lk_X11_356 (cw_k Bh_6.2.2 kb_5) rfl (by decide) rfl hl.1 rfl (Nat.le_of_ble_eq_true rfl) dX11_blame_55 ⟨Nat.le_refl _, Nat.le_refl _⟩) (fun _ _ h => cw_tr Bh_6.2.2 h (by decide)) rfl (fun rh_9 αh_9 Hh_9 Lh_9 ph_9 Bh_9 => ?_)
          refine lv_istore_n (lv' := [(3, .int rh_9), (0, .ref a0), (1, .int a1), (2, .int a2)]) hx hb dX11_blame_58 rfl hl (by decide) rfl (fun ls hl => hp_n (n := 59) rfl ?_)
          refine lv_aload_n hx hb dX11_blame_59 rfl (lv_at hl 1 rfl) (hp_n (n := 60) rfl ?_)
          refine lv_iload_n hx hb dX11_blame_60 rfl (lv_at hl 3 rfl) (hp_n (n := 61) rfl ?_)
          refine lv_if_eq (tgt := 69) hx hb dX11_blame_61 (by decide) (fun c_10 => ?_) (fun c_10 => hp_n (n := 64) rfl ?_)
          ·
            have jc_10 := il_eq c_10
            refine lv_iload_n hx hb dX11_blame_69 rfl (lv_at hl 0 rfl) (hp_n (n := 70) rfl ?_)
            refine lv_goto (tgt := 82) hx hb dX11_blame_70 (by decide) ?_
            refine q_ci (pc' := 85) Bh_9 (hp_runV (As := [.int rh_9]) (rest := []) C Bh_9 (t_X11_answer Γ l αh_9 Bh_9.2.2.1 a0 (cw_k Bh_9.2.2 k0) rh_9) lb_X11_answer lv_X11_answer lk_X11_115 (cw_k Bh_9.2.2 k0) rfl (by decide) rfl hl.1 rfl (Nat.le_of_ble_eq_true rfl) dX11_blame_82 ⟨Nat.le_refl _, Nat.le_refl _⟩) (fun _ _ h => cw_tr Bh_9.2.2 h (by decide)) rfl (fun rh_11 αh_11 Hh_11 Lh_11 ph_11 Bh_11 => ?_)
            exact q_iret C Bh_11 hr hlk Bh_11.2.2 dX11_blame_85
          ·
            have jc_10 := il_ne c_10
            refine lv_iload_n hx hb dX11_blame_64 rfl (lv_at hl 0 rfl) (hp_n (n := 65) rfl ?_)
            refine lv_iconst (v := (-1)) hx hb dX11_blame_65 (by decide) (hp_n (n := 66) rfl ?_)
            refine lv_icmp_ne (tgt := 73) hx hb dX11_blame_66 (by decide) (fun c_12 => ?_) (fun c_12 => hp_n (n := 69) rfl ?_)
            ·
              have jc_12 := il_ne c_12
              refine lv_aload_n hx hb dX11_blame_73 rfl (lv_at hl 1 rfl) (hp_n (n := 74) rfl ?_)
              have t_13 : b_5 = hp_R αh_9 601 a0 := by rw [cw_R ph_9 a0 (by decide)]; exact eb_5
              refine q_gets (κ := 12) (k := 1) (φ := 601) (pc' := 77) C Bh_9 (cw_k Bh_9.2.2 k0) fl_X11_16 rfl rfl rfl t_13 dX11_blame_74 rfl ?_
              refine lv_iload_n hx hb dX11_blame_77 rfl (lv_at hl 2 rfl) (hp_n (n := 78) rfl ?_)
              refine lv_iload_n hx hb dX11_blame_78 rfl (lv_at hl 0 rfl) (hp_n (n := 79) rfl ?_)
              refine q_ci (pc' := 82) Bh_9 (hp_runV (As := [.int a1, .int rh_9]) (rest := [.ref a0]) C Bh_9 (t_X10_greatestSoundBelow Γ l αh_9 Bh_9.2.2.1 b_5 (cw_k Bh_9.2.2 kb_5) a1 rh_9) lb_X10_greatestSoundBelow lv_X10_greatestSoundBelow lk_X11_359 (cw_k Bh_9.2.2 kb_5) rfl (by decide) rfl hl.1 rfl (Nat.le_of_ble_eq_true rfl) dX11_blame_79 ⟨Nat.le_refl _, Nat.le_refl _⟩) (fun _ _ h => cw_tr Bh_9.2.2 h (by decide)) rfl (fun rh_14 αh_14 Hh_14 Lh_14 ph_14 Bh_14 => ?_)
              refine q_ci (pc' := 85) Bh_14 (hp_runV (As := [.int rh_14]) (rest := []) C Bh_14 (t_X11_answer Γ l αh_14 Bh_14.2.2.1 a0 (cw_k Bh_14.2.2 k0) rh_14) lb_X11_answer lv_X11_answer lk_X11_115 (cw_k Bh_14.2.2 k0) rfl (by decide) rfl hl.1 rfl (Nat.le_of_ble_eq_true rfl) dX11_blame_82 ⟨Nat.le_refl _, Nat.le_refl _⟩) (fun _ _ h => cw_tr Bh_14.2.2 h (by decide)) rfl (fun rh_15 αh_15 Hh_15 Lh_15 ph_15 Bh_15 => ?_)
              exact q_iret C Bh_15 hr hlk Bh_15.2.2 dX11_blame_85
            ·
              have jc_12 := il_eq c_12
              refine lv_iload_n hx hb dX11_blame_69 rfl (lv_at hl 0 rfl) (hp_n (n := 70) rfl ?_)
              refine lv_goto (tgt := 82) hx hb dX11_blame_70 (by decide) ?_
              refine q_ci (pc' := 85) Bh_9 (hp_runV (As := [.int rh_9]) (rest := []) C Bh_9 (t_X11_answer Γ l αh_9 Bh_9.2.2.1 a0 (cw_k Bh_9.2.2 k0) rh_9) lb_X11_answer lv_X11_answer lk_X11_115 (cw_k Bh_9.2.2 k0) rfl (by decide) rfl hl.1 rfl (Nat.le_of_ble_eq_true rfl) dX11_blame_82 ⟨Nat.le_refl _, Nat.le_refl _⟩) (fun _ _ h => cw_tr Bh_9.2.2 h (by decide)) rfl (fun rh_16 αh_16 Hh_16 Lh_16 ph_16 Bh_16 => ?_)
              exact q_iret C Bh_16 hr hlk Bh_16.2.2 dX11_blame_85
        ·
          have jc_8 := il_eq c_8
          refine lv_aload_n hx hb dX11_blame_37 rfl (lv_at hl 0 rfl) (hp_n (n := 38) rfl ?_)
          refine lv_aload_n hx hb dX11_blame_38 rfl (lv_at hl 0 rfl) (hp_n (n := 39) rfl ?_)
          refine q_gets (κ := 12) (k := 1) (φ := 601) (pc' := 42) C Bh_6 (cw_k Bh_6.2.2 k0) fl_X11_16 rfl rfl rfl eb_5 dX11_blame_39 rfl ?_
          refine lv_iload_n hx hb dX11_blame_42 rfl (lv_at hl 1 rfl) (hp_n (n := 43) rfl ?_)
          refine q_ci (pc' := 46) Bh_6 (hp_runV (As := [.int a1]) (rest := [.ref a0]) C Bh_6 (t_X10_countUnsound Γ l α Bh_6.2.2.1 b_5 (cw_k Bh_6.2.2 kb_5) a1) lb_X10_countUnsound lv_X10_countUnsound lk_X11_353 (cw_k Bh_6.2.2 kb_5) rfl (by decide) rfl hl.1 rfl (Nat.le_of_ble_eq_true rfl) dX11_blame_43 ⟨Nat.le_refl _, Nat.le_refl _⟩) (fun _ _ h => cw_tr Bh_6.2.2 h (by decide)) rfl (fun rh_17 αh_17 Hh_17 Lh_17 ph_17 Bh_17 => ?_)
          refine q_ci (pc' := 49) Bh_17 (hp_runV (As := [.int rh_17]) (rest := []) C Bh_17 (t_X11_answer Γ l αh_17 Bh_17.2.2.1 a0 (cw_k Bh_17.2.2 k0) rh_17) lb_X11_answer lv_X11_answer lk_X11_115 (cw_k Bh_17.2.2 k0) rfl (by decide) rfl hl.1 rfl (Nat.le_of_ble_eq_true rfl) dX11_blame_46 ⟨Nat.le_refl _, Nat.le_refl _⟩) (fun _ _ h => cw_tr Bh_17.2.2 h (by decide)) rfl (fun rh_18 αh_18 Hh_18 Lh_18 ph_18 Bh_18 => ?_)
          exact q_iret C Bh_18 hr hlk Bh_18.2.2 dX11_blame_49
    ·
      have jc_4 := il_nle c_4
      exact J9 s.heap [] B ls (lv_sub hl [0] rfl)
